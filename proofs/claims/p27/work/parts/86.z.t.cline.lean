section SPU
noncomputable def cW (p : Nat) (t t' : en_H) : Prop := ∀ c i, ¬ (c = 1 ∨ (3 ≤ c ∧ c ≤ 7) ∨ (p ≤ c ∧ c ≤ p + 38)) → ai_hv t' c i = ai_hv t c i
/-- with the laws -/
noncomputable def cV (p : Nat) (t t' : en_H) : Prop := ∀ c i, ¬ (c = 1 ∨ (3 ≤ c ∧ c ≤ 7) ∨ (p ≤ c ∧ c ≤ p + 47)) → ai_hv t' c i = ai_hv t c i
theorem cW_V {p : Nat} {t t' : en_H} (h : cW p t t') : cV p t t' := fun c i h0 => h c i (by first | decide | omega)
theorem CA_keep {t t' : en_H} {p : Nat} {S : Nat → Nat} {m : Nat} {σ : Nat → Nat → Nat} (hp : 8 ≤ p) (h : CA t p S m σ) (e : ∀ c i, ¬ (c = 1 ∨ (c = 7 ∧ i ≤ 3)) → c < p ∨ c = p ∧ i ≤ 2 ∨ c = p + 1 ∨ (p + 3 ≤ c ∧ c ≤ p + 38) → ai_hv t' c i = ai_hv t c i) : CA t' p S m σ := by
  obtain ⟨⟨k0, k1, k2, k3, k4, k5, k6, k7, k8, k9, k10, k11⟩, h1, h2, h3, h4, h5, h6, gcb0, gcb1, gcb2, gcb3, gcb4, gcb5, gcb6, gcb7, gcb8, gcb9, gcb10, gcb11, gcb12, gcb13⟩ := h
  exact ⟨⟨(e _ _ (by first | decide | omega) (by first | decide | omega)).trans k0, (e _ _ (by first | decide | omega) (by first | decide | omega)).trans k1, (e _ _ (by first | decide | omega) (by first | decide | omega)).trans k2, (e _ _ (by first | decide | omega) (by first | decide | omega)).trans k3, (e _ _ (by first | decide | omega) (by first | decide | omega)).trans k4, (e _ _ (by first | decide | omega) (by first | decide | omega)).trans k5, (e _ _ (by first | decide | omega) (by first | decide | omega)).trans k6, (e _ _ (by first | decide | omega) (by first | decide | omega)).trans k7, (e _ _ (by first | decide | omega) (by first | decide | omega)).trans k8, (e _ _ (by first | decide | omega) (by first | decide | omega)).trans k9, (e _ _ (by first | decide | omega) (by first | decide | omega)).trans k10, (e _ _ (by first | decide | omega) (by first | decide | omega)).trans k11⟩, fun i hi => ⟨(e _ _ (by first | decide | omega) (by first | decide | omega)).trans (h1 i hi).1, (e _ _ (by first | decide | omega) (by first | decide | omega)).trans (h1 i hi).2⟩, fun i hi => (e _ _ (by first | decide | omega) (by first | decide | omega)).trans (h2 i hi), fun i hi => (e _ _ (by first | decide | omega) (by first | decide | omega)).trans (h3 i hi), fun i hi => (e _ _ (by first | decide | omega) (by first | decide | omega)).trans (h4 i hi), fun i hi => (e _ _ (by first | decide | omega) (by first | decide | omega)).trans (h5 i hi), fun i hi => (e _ _ (by first | decide | omega) (by first | decide | omega)).trans (h6 i hi), fun i hi => (e _ _ (by first | decide | omega) (by first | decide | omega)).trans (gcb0 i hi), fun i hi => (e _ _ (by first | decide | omega) (by first | decide | omega)).trans (gcb1 i hi), fun i hi => (e _ _ (by first | decide | omega) (by first | decide | omega)).trans (gcb2 i hi), fun i hi => (e _ _ (by first | decide | omega) (by first | decide | omega)).trans (gcb3 i hi), fun i hi => (e _ _ (by first | decide | omega) (by first | decide | omega)).trans (gcb4 i hi), fun i hi => (e _ _ (by first | decide | omega) (by first | decide | omega)).trans (gcb5 i hi), fun i hi => (e _ _ (by first | decide | omega) (by first | decide | omega)).trans (gcb6 i hi), fun i hi => (e _ _ (by first | decide | omega) (by first | decide | omega)).trans (gcb7 i hi), fun i hi => (e _ _ (by first | decide | omega) (by first | decide | omega)).trans (gcb8 i hi), fun i hi => (e _ _ (by first | decide | omega) (by first | decide | omega)).trans (gcb9 i hi), fun i hi => (e _ _ (by first | decide | omega) (by first | decide | omega)).trans (gcb10 i hi), fun i hi => (e _ _ (by first | decide | omega) (by first | decide | omega)).trans (gcb11 i hi), (e _ _ (by first | decide | omega) (by first | decide | omega)).trans gcb12, fun i hi => (e _ _ (by first | decide | omega) (by first | decide | omega)).trans (gcb13 i hi)⟩
theorem cl_up {t : en_H} {S : Nat → Nat} {m c n v : Nat} {g : Nat → Nat} (h : ∀ i, i < n → ai_hv t c i = some (.inr (.inl (sp_wv S m (g i))))) (h1 : ai_hv t c n = some (.inr (.inl (sp_wv S m v)))) : ∀ i, i < n + 1 → ai_hv t c i = some (.inr (.inl (sp_wv S m (nx g n v i)))) := fun i hi => by
  by_cases e : i = n
  · rw [e, nx_t]; exact h1
  · rw [nx_f e]; exact h i (by first | decide | omega)
theorem cn_up {t : en_H} {S : Nat → Nat} {m c n a : Nat} {g : Nat → Nat} (h : ∀ i, i < n → ai_hv t c i = some (.inr (.inl (sp_wv S m (g i + 1))))) (h1 : ai_hv t c n = some (.inr (.inl (sp_wv S m (a + 1))))) : ∀ i, i < n + 1 → ai_hv t c i = some (.inr (.inl (sp_wv S m (nx g n a i + 1)))) := fun i hi => by
  by_cases e : i = n
  · rw [e, nx_t]; exact h1
  · rw [nx_f e]; exact h i (by first | decide | omega)
theorem ct_up {t : en_H} {S : Nat → Nat} {m c n a o : Nat} {g : Nat → Nat} (h : ∀ i, i < n → ai_hv t c i = some (.inl (sp_nv S m (g i + o)))) (h1 : ai_hv t c n = some (.inl (sp_nv S m (a + o)))) : ∀ i, i < n + 1 → ai_hv t c i = some (.inl (sp_nv S m (nx g n a i + o))) := fun i hi => by
  by_cases e : i = n
  · rw [e, nx_t]; exact h1
  · rw [nx_f e]; exact h i (by first | decide | omega)
theorem cp_up {t : en_H} {S : Nat → Nat} {m c n a : Nat} {g : Nat → Nat} (h : ∀ i, i < n → ai_hv t c i = some (.inl (sp_nv S m (g i + 3) + 8 * sp_nv S m (g i + 4)))) (h1 : ai_hv t c n = some (.inl (sp_nv S m (a + 3) + 8 * sp_nv S m (a + 4)))) : ∀ i, i < n + 1 → ai_hv t c i = some (.inl (sp_nv S m (nx g n a i + 3) + 8 * sp_nv S m (nx g n a i + 4))) := fun i hi => by
  by_cases e : i = n
  · rw [e, nx_t]; exact h1
  · rw [nx_f e]; exact h i (by first | decide | omega)
theorem ci_up {t : en_H} {c n v : Nat} {g : Nat → Nat} (h : ∀ i, i < n → ai_hv t c i = some (.inl (g i))) (h1 : ai_hv t c n = some (.inl v)) : ∀ i, i < n + 1 → ai_hv t c i = some (.inl (nx g n v i)) := fun i hi => by
  by_cases e : i = n
  · rw [e, nx_t]; exact h1
  · rw [nx_f e]; exact h i (by first | decide | omega)
theorem pc_placeOf (d n : Nat) {t0 : en_H} {x y : Nat} (hx : x < 10000) (hy : y < 10000) : ∃ r, en_u (d + 1) 19 [.inl x, .inl y] t0 n = some r ∧ r = (some (.inl (x + (8 * y))), t0, n, 0) := by
  refine en_u_ex rfl ?_
  show en_ex _ _ _ _ (0, [(0, .inl x), (1, .inl y)], [], t0, n, 0) _
  refine ex_go (S := (1, [(0, .inl x), (1, .inl y)], [.inl x], t0, n, 0)) rfl (fun _ => rfl) rfl ?_
  refine ex_go (S := (3, [(0, .inl x), (1, .inl y)], [.inl 8, .inl x], t0, n, 0)) rfl (fun _ => rfl) rfl ?_
  refine ex_go (S := (4, [(0, .inl x), (1, .inl y)], [.inl y, .inl 8, .inl x], t0, n, 0)) rfl (fun _ => rfl) rfl ?_
  refine gx_imul rfl (by first | decide | omega) rfl ?_
  refine ex_iadd rfl (by first | decide | omega) rfl ?_
  refine ex_ret (r := (some (.inl (x + (8 * y))), t0, n, 0)) rfl (fun _ => rfl) ?_
  exact ⟨_, rfl, rfl⟩
theorem pc_startRow194 (d n : Nat) {t0 : en_H} {a c : Nat} {S : Nat → Nat} {m N : Nat} (s0 : cS t0 a 0) (hT : cT t0 S m N) (ha : a < N) (k5 : ai_hv t0 194 5 = some (.inl c)) (hc : c ≤ 6) : ∃ r, en_u (d + 2) 249 [gx_r 7, gx_r 194] t0 n = some r ∧ ∃ t' a' f', r = (none, t', n, 0) ∧ cS t' a' f' ∧ cF t0 t' ∧ (a', f') = fr S m (c = 6) 5 (a, 0) ∧ (a' ≤ N ∧ a ≤ a' ∧ (f' = 0 → a' = a + 1 ∧ c ≠ 6)) := by
  have b0 := s0.2.2.2
  have hN := hT.2.2.2.2.2.2.1
  refine en_u_ex (d := d + 1) rfl ?_
  show en_ex _ _ _ _ (0, [(0, gx_r 7), (1, gx_r 194)], [], t0, n, 0) _
  refine ex_go (S := (1, [(0, gx_r 7), (1, gx_r 194)], [gx_r 194], t0, n, 0)) rfl (fun _ => rfl) rfl ?_
  obtain ⟨_, r1, b2, rfl, q3⟩ := pc_isFull194 (d) n s0.1 k5 (by first | decide | omega)
  refine gx_callo (a := 194) rfl rfl s0.1 rfl rfl rfl r1 rfl ?_
  show en_ex _ _ _ _ (4, [(0, gx_r 7), (1, gx_r 194)], [.inl b2], t0, n, 0) _
  by_cases hc4 : b2 = 0
  · refine gx_1t (c := .eq) rfl (by first | decide | omega) hc4 rfl ?_
    refine ex_go (S := (16, [(0, gx_r 7), (1, gx_r 194)], [gx_r 7], t0, n, 0)) rfl (fun _ => rfl) rfl ?_
    refine gxo_ref (a := 7) (c := 1) rfl s0.1 rfl rfl rfl rfl rfl ?_
    obtain ⟨_, r105, t105, a105, f105, rfl, s105, e105, q105⟩ := pc_goOn (d) n (s0) hT (by first | decide | omega) 
    have b105 := s105.2.2.2
    refine gx_callo (a := 1) rfl rfl s0.1 rfl rfl rfl r105 rfl ?_
    have k6 : ai_hv t105 194 5 = some (.inl c) := (e105 194 5 (by first | decide | omega)).trans k5
    show en_ex _ _ _ _ (22, [(0, gx_r 7), (1, gx_r 194)], [], t105, n, 0) _
    refine ex_ret (r := (none, t105, n, 0)) rfl (fun _ => rfl) ?_
    have hful : ¬ c = 6 := by omega
    refine ⟨_, rfl, t105, a105, f105, rfl, s105, (fun c i h => e105 c i (by first | decide | omega)), ?_, by omega⟩
    rw [fr_yes hful]; exact Prod.ext (by show a105 = a + 1; omega) (by show f105 = 0; omega)
  · refine gx_1f (c := .eq) rfl (by first | decide | omega) hc4 rfl ?_
    refine ex_go (S := (8, [(0, gx_r 7), (1, gx_r 194)], [gx_r 7], t0, n, 0)) rfl (fun _ => rfl) rfl ?_
    refine gxo_ref (a := 7) (c := 1) rfl s0.1 rfl rfl rfl rfl rfl ?_
    refine ex_go (S := (12, [(0, gx_r 7), (1, gx_r 194)], [.inl 5, gx_r 1], t0, n, 0)) rfl (fun _ => rfl) rfl ?_
    obtain ⟨_, r107, t107, a107, f107, rfl, s107, e107, q107⟩ := pc_wrong (d) n (s0) hT (by first | decide | omega) (w := 5) (by first | decide | omega)
    have b107 := s107.2.2.2
    refine gx_callo (a := 1) rfl rfl s0.1 rfl rfl rfl r107 rfl ?_
    have k8 : ai_hv t107 194 5 = some (.inl c) := (e107 194 5 (by first | decide | omega)).trans k5
    show en_ex _ _ _ _ (15, [(0, gx_r 7), (1, gx_r 194)], [], t107, n, 0) _
    refine ex_go (S := (16, [(0, gx_r 7), (1, gx_r 194)], [gx_r 7], t107, n, 0)) rfl (fun _ => rfl) rfl ?_
    refine gxo_ref (a := 7) (c := 1) rfl s107.1 rfl rfl rfl rfl rfl ?_
    have hT10 := cT_keep (t' := t107) hT (fun c i h => e107 c i (by first | decide | omega))
    obtain ⟨_, r109, t109, a109, f109, rfl, s109, e109, q109⟩ := pc_goOn (d) n (s107) hT10 (by first | decide | omega) 
    have b109 := s109.2.2.2
    refine gx_callo (a := 1) rfl rfl s107.1 rfl rfl rfl r109 rfl ?_
    have k11 : ai_hv t109 194 5 = some (.inl c) := (e109 194 5 (by first | decide | omega)).trans k8
    show en_ex _ _ _ _ (22, [(0, gx_r 7), (1, gx_r 194)], [], t109, n, 0) _
    refine ex_ret (r := (none, t109, n, 0)) rfl (fun _ => rfl) ?_
    have hful : c = 6 := by omega
    refine ⟨_, rfl, t109, a109, f109, rfl, s109, (fun c i h => (e109 c i (by first | decide | omega)).trans (e107 c i (by first | decide | omega))), ?_, by omega⟩
    rw [fr_w hful]; exact Prod.ext (by show a109 = a; omega) (by show f109 = 5 + 16 * sp_st S m a; omega)
theorem pc_startRow200 (d n : Nat) {t0 : en_H} {a c : Nat} {S : Nat → Nat} {m N : Nat} (s0 : cS t0 a 0) (hT : cT t0 S m N) (ha : a < N) (k5 : ai_hv t0 200 5 = some (.inl c)) (hc : c ≤ 6) : ∃ r, en_u (d + 2) 249 [gx_r 7, gx_r 200] t0 n = some r ∧ ∃ t' a' f', r = (none, t', n, 0) ∧ cS t' a' f' ∧ cF t0 t' ∧ (a', f') = fr S m (c = 6) 5 (a, 0) ∧ (a' ≤ N ∧ a ≤ a' ∧ (f' = 0 → a' = a + 1 ∧ c ≠ 6)) := by
  have b0 := s0.2.2.2
  have hN := hT.2.2.2.2.2.2.1
  refine en_u_ex (d := d + 1) rfl ?_
  show en_ex _ _ _ _ (0, [(0, gx_r 7), (1, gx_r 200)], [], t0, n, 0) _
  refine ex_go (S := (1, [(0, gx_r 7), (1, gx_r 200)], [gx_r 200], t0, n, 0)) rfl (fun _ => rfl) rfl ?_
  obtain ⟨_, r1, b2, rfl, q3⟩ := pc_isFull200 (d) n s0.1 k5 (by first | decide | omega)
  refine gx_callo (a := 200) rfl rfl s0.1 rfl rfl rfl r1 rfl ?_
  show en_ex _ _ _ _ (4, [(0, gx_r 7), (1, gx_r 200)], [.inl b2], t0, n, 0) _
  by_cases hc4 : b2 = 0
  · refine gx_1t (c := .eq) rfl (by first | decide | omega) hc4 rfl ?_
    refine ex_go (S := (16, [(0, gx_r 7), (1, gx_r 200)], [gx_r 7], t0, n, 0)) rfl (fun _ => rfl) rfl ?_
    refine gxo_ref (a := 7) (c := 1) rfl s0.1 rfl rfl rfl rfl rfl ?_
    obtain ⟨_, r105, t105, a105, f105, rfl, s105, e105, q105⟩ := pc_goOn (d) n (s0) hT (by first | decide | omega) 
    have b105 := s105.2.2.2
    refine gx_callo (a := 1) rfl rfl s0.1 rfl rfl rfl r105 rfl ?_
    have k6 : ai_hv t105 200 5 = some (.inl c) := (e105 200 5 (by first | decide | omega)).trans k5
    show en_ex _ _ _ _ (22, [(0, gx_r 7), (1, gx_r 200)], [], t105, n, 0) _
    refine ex_ret (r := (none, t105, n, 0)) rfl (fun _ => rfl) ?_
    have hful : ¬ c = 6 := by omega
    refine ⟨_, rfl, t105, a105, f105, rfl, s105, (fun c i h => e105 c i (by first | decide | omega)), ?_, by omega⟩
    rw [fr_yes hful]; exact Prod.ext (by show a105 = a + 1; omega) (by show f105 = 0; omega)
  · refine gx_1f (c := .eq) rfl (by first | decide | omega) hc4 rfl ?_
    refine ex_go (S := (8, [(0, gx_r 7), (1, gx_r 200)], [gx_r 7], t0, n, 0)) rfl (fun _ => rfl) rfl ?_
    refine gxo_ref (a := 7) (c := 1) rfl s0.1 rfl rfl rfl rfl rfl ?_
    refine ex_go (S := (12, [(0, gx_r 7), (1, gx_r 200)], [.inl 5, gx_r 1], t0, n, 0)) rfl (fun _ => rfl) rfl ?_
    obtain ⟨_, r107, t107, a107, f107, rfl, s107, e107, q107⟩ := pc_wrong (d) n (s0) hT (by first | decide | omega) (w := 5) (by first | decide | omega)
    have b107 := s107.2.2.2
    refine gx_callo (a := 1) rfl rfl s0.1 rfl rfl rfl r107 rfl ?_
    have k8 : ai_hv t107 200 5 = some (.inl c) := (e107 200 5 (by first | decide | omega)).trans k5
    show en_ex _ _ _ _ (15, [(0, gx_r 7), (1, gx_r 200)], [], t107, n, 0) _
    refine ex_go (S := (16, [(0, gx_r 7), (1, gx_r 200)], [gx_r 7], t107, n, 0)) rfl (fun _ => rfl) rfl ?_
    refine gxo_ref (a := 7) (c := 1) rfl s107.1 rfl rfl rfl rfl rfl ?_
    have hT10 := cT_keep (t' := t107) hT (fun c i h => e107 c i (by first | decide | omega))
    obtain ⟨_, r109, t109, a109, f109, rfl, s109, e109, q109⟩ := pc_goOn (d) n (s107) hT10 (by first | decide | omega) 
    have b109 := s109.2.2.2
    refine gx_callo (a := 1) rfl rfl s107.1 rfl rfl rfl r109 rfl ?_
    have k11 : ai_hv t109 200 5 = some (.inl c) := (e109 200 5 (by first | decide | omega)).trans k8
    show en_ex _ _ _ _ (22, [(0, gx_r 7), (1, gx_r 200)], [], t109, n, 0) _
    refine ex_ret (r := (none, t109, n, 0)) rfl (fun _ => rfl) ?_
    have hful : c = 6 := by omega
    refine ⟨_, rfl, t109, a109, f109, rfl, s109, (fun c i h => (e109 c i (by first | decide | omega)).trans (e107 c i (by first | decide | omega))), ?_, by omega⟩
    rw [fr_w hful]; exact Prod.ext (by show a109 = a; omega) (by show f109 = 5 + 16 * sp_st S m a; omega)
theorem pc_startRow206 (d n : Nat) {t0 : en_H} {a c : Nat} {S : Nat → Nat} {m N : Nat} (s0 : cS t0 a 0) (hT : cT t0 S m N) (ha : a < N) (k5 : ai_hv t0 206 5 = some (.inl c)) (hc : c ≤ 2) : ∃ r, en_u (d + 2) 249 [gx_r 7, gx_r 206] t0 n = some r ∧ ∃ t' a' f', r = (none, t', n, 0) ∧ cS t' a' f' ∧ cF t0 t' ∧ (a', f') = fr S m (c = 2) 5 (a, 0) ∧ (a' ≤ N ∧ a ≤ a' ∧ (f' = 0 → a' = a + 1 ∧ c ≠ 2)) := by
  have b0 := s0.2.2.2
  have hN := hT.2.2.2.2.2.2.1
  refine en_u_ex (d := d + 1) rfl ?_
  show en_ex _ _ _ _ (0, [(0, gx_r 7), (1, gx_r 206)], [], t0, n, 0) _
  refine ex_go (S := (1, [(0, gx_r 7), (1, gx_r 206)], [gx_r 206], t0, n, 0)) rfl (fun _ => rfl) rfl ?_
  obtain ⟨_, r1, b2, rfl, q3⟩ := pc_isFull206 (d) n s0.1 k5 (by first | decide | omega)
  refine gx_callo (a := 206) rfl rfl s0.1 rfl rfl rfl r1 rfl ?_
  show en_ex _ _ _ _ (4, [(0, gx_r 7), (1, gx_r 206)], [.inl b2], t0, n, 0) _
  by_cases hc4 : b2 = 0
  · refine gx_1t (c := .eq) rfl (by first | decide | omega) hc4 rfl ?_
    refine ex_go (S := (16, [(0, gx_r 7), (1, gx_r 206)], [gx_r 7], t0, n, 0)) rfl (fun _ => rfl) rfl ?_
    refine gxo_ref (a := 7) (c := 1) rfl s0.1 rfl rfl rfl rfl rfl ?_
    obtain ⟨_, r105, t105, a105, f105, rfl, s105, e105, q105⟩ := pc_goOn (d) n (s0) hT (by first | decide | omega) 
    have b105 := s105.2.2.2
    refine gx_callo (a := 1) rfl rfl s0.1 rfl rfl rfl r105 rfl ?_
    have k6 : ai_hv t105 206 5 = some (.inl c) := (e105 206 5 (by first | decide | omega)).trans k5
    show en_ex _ _ _ _ (22, [(0, gx_r 7), (1, gx_r 206)], [], t105, n, 0) _
    refine ex_ret (r := (none, t105, n, 0)) rfl (fun _ => rfl) ?_
    have hful : ¬ c = 2 := by omega
    refine ⟨_, rfl, t105, a105, f105, rfl, s105, (fun c i h => e105 c i (by first | decide | omega)), ?_, by omega⟩
    rw [fr_yes hful]; exact Prod.ext (by show a105 = a + 1; omega) (by show f105 = 0; omega)
  · refine gx_1f (c := .eq) rfl (by first | decide | omega) hc4 rfl ?_
    refine ex_go (S := (8, [(0, gx_r 7), (1, gx_r 206)], [gx_r 7], t0, n, 0)) rfl (fun _ => rfl) rfl ?_
    refine gxo_ref (a := 7) (c := 1) rfl s0.1 rfl rfl rfl rfl rfl ?_
    refine ex_go (S := (12, [(0, gx_r 7), (1, gx_r 206)], [.inl 5, gx_r 1], t0, n, 0)) rfl (fun _ => rfl) rfl ?_
    obtain ⟨_, r107, t107, a107, f107, rfl, s107, e107, q107⟩ := pc_wrong (d) n (s0) hT (by first | decide | omega) (w := 5) (by first | decide | omega)
    have b107 := s107.2.2.2
    refine gx_callo (a := 1) rfl rfl s0.1 rfl rfl rfl r107 rfl ?_
    have k8 : ai_hv t107 206 5 = some (.inl c) := (e107 206 5 (by first | decide | omega)).trans k5
    show en_ex _ _ _ _ (15, [(0, gx_r 7), (1, gx_r 206)], [], t107, n, 0) _
    refine ex_go (S := (16, [(0, gx_r 7), (1, gx_r 206)], [gx_r 7], t107, n, 0)) rfl (fun _ => rfl) rfl ?_
    refine gxo_ref (a := 7) (c := 1) rfl s107.1 rfl rfl rfl rfl rfl ?_
    have hT10 := cT_keep (t' := t107) hT (fun c i h => e107 c i (by first | decide | omega))
    obtain ⟨_, r109, t109, a109, f109, rfl, s109, e109, q109⟩ := pc_goOn (d) n (s107) hT10 (by first | decide | omega) 
    have b109 := s109.2.2.2
    refine gx_callo (a := 1) rfl rfl s107.1 rfl rfl rfl r109 rfl ?_
    have k11 : ai_hv t109 206 5 = some (.inl c) := (e109 206 5 (by first | decide | omega)).trans k8
    show en_ex _ _ _ _ (22, [(0, gx_r 7), (1, gx_r 206)], [], t109, n, 0) _
    refine ex_ret (r := (none, t109, n, 0)) rfl (fun _ => rfl) ?_
    have hful : c = 2 := by omega
    refine ⟨_, rfl, t109, a109, f109, rfl, s109, (fun c i h => (e109 c i (by first | decide | omega)).trans (e107 c i (by first | decide | omega))), ?_, by omega⟩
    rw [fr_w hful]; exact Prod.ext (by show a109 = a; omega) (by show f109 = 5 + 16 * sp_st S m a; omega)
theorem pc_startRow212 (d n : Nat) {t0 : en_H} {a c : Nat} {S : Nat → Nat} {m N : Nat} (s0 : cS t0 a 0) (hT : cT t0 S m N) (ha : a < N) (k5 : ai_hv t0 212 5 = some (.inl c)) (hc : c ≤ 5) : ∃ r, en_u (d + 2) 249 [gx_r 7, gx_r 212] t0 n = some r ∧ ∃ t' a' f', r = (none, t', n, 0) ∧ cS t' a' f' ∧ cF t0 t' ∧ (a', f') = fr S m (c = 5) 5 (a, 0) ∧ (a' ≤ N ∧ a ≤ a' ∧ (f' = 0 → a' = a + 1 ∧ c ≠ 5)) := by
  have b0 := s0.2.2.2
  have hN := hT.2.2.2.2.2.2.1
  refine en_u_ex (d := d + 1) rfl ?_
  show en_ex _ _ _ _ (0, [(0, gx_r 7), (1, gx_r 212)], [], t0, n, 0) _
  refine ex_go (S := (1, [(0, gx_r 7), (1, gx_r 212)], [gx_r 212], t0, n, 0)) rfl (fun _ => rfl) rfl ?_
  obtain ⟨_, r1, b2, rfl, q3⟩ := pc_isFull212 (d) n s0.1 k5 (by first | decide | omega)
  refine gx_callo (a := 212) rfl rfl s0.1 rfl rfl rfl r1 rfl ?_
  show en_ex _ _ _ _ (4, [(0, gx_r 7), (1, gx_r 212)], [.inl b2], t0, n, 0) _
  by_cases hc4 : b2 = 0
  · refine gx_1t (c := .eq) rfl (by first | decide | omega) hc4 rfl ?_
    refine ex_go (S := (16, [(0, gx_r 7), (1, gx_r 212)], [gx_r 7], t0, n, 0)) rfl (fun _ => rfl) rfl ?_
    refine gxo_ref (a := 7) (c := 1) rfl s0.1 rfl rfl rfl rfl rfl ?_
    obtain ⟨_, r105, t105, a105, f105, rfl, s105, e105, q105⟩ := pc_goOn (d) n (s0) hT (by first | decide | omega) 
    have b105 := s105.2.2.2
    refine gx_callo (a := 1) rfl rfl s0.1 rfl rfl rfl r105 rfl ?_
    have k6 : ai_hv t105 212 5 = some (.inl c) := (e105 212 5 (by first | decide | omega)).trans k5
    show en_ex _ _ _ _ (22, [(0, gx_r 7), (1, gx_r 212)], [], t105, n, 0) _
    refine ex_ret (r := (none, t105, n, 0)) rfl (fun _ => rfl) ?_
    have hful : ¬ c = 5 := by omega
    refine ⟨_, rfl, t105, a105, f105, rfl, s105, (fun c i h => e105 c i (by first | decide | omega)), ?_, by omega⟩
    rw [fr_yes hful]; exact Prod.ext (by show a105 = a + 1; omega) (by show f105 = 0; omega)
  · refine gx_1f (c := .eq) rfl (by first | decide | omega) hc4 rfl ?_
    refine ex_go (S := (8, [(0, gx_r 7), (1, gx_r 212)], [gx_r 7], t0, n, 0)) rfl (fun _ => rfl) rfl ?_
    refine gxo_ref (a := 7) (c := 1) rfl s0.1 rfl rfl rfl rfl rfl ?_
    refine ex_go (S := (12, [(0, gx_r 7), (1, gx_r 212)], [.inl 5, gx_r 1], t0, n, 0)) rfl (fun _ => rfl) rfl ?_
    obtain ⟨_, r107, t107, a107, f107, rfl, s107, e107, q107⟩ := pc_wrong (d) n (s0) hT (by first | decide | omega) (w := 5) (by first | decide | omega)
    have b107 := s107.2.2.2
    refine gx_callo (a := 1) rfl rfl s0.1 rfl rfl rfl r107 rfl ?_
    have k8 : ai_hv t107 212 5 = some (.inl c) := (e107 212 5 (by first | decide | omega)).trans k5
    show en_ex _ _ _ _ (15, [(0, gx_r 7), (1, gx_r 212)], [], t107, n, 0) _
    refine ex_go (S := (16, [(0, gx_r 7), (1, gx_r 212)], [gx_r 7], t107, n, 0)) rfl (fun _ => rfl) rfl ?_
    refine gxo_ref (a := 7) (c := 1) rfl s107.1 rfl rfl rfl rfl rfl ?_
    have hT10 := cT_keep (t' := t107) hT (fun c i h => e107 c i (by first | decide | omega))
    obtain ⟨_, r109, t109, a109, f109, rfl, s109, e109, q109⟩ := pc_goOn (d) n (s107) hT10 (by first | decide | omega) 
    have b109 := s109.2.2.2
    refine gx_callo (a := 1) rfl rfl s107.1 rfl rfl rfl r109 rfl ?_
    have k11 : ai_hv t109 212 5 = some (.inl c) := (e109 212 5 (by first | decide | omega)).trans k8
    show en_ex _ _ _ _ (22, [(0, gx_r 7), (1, gx_r 212)], [], t109, n, 0) _
    refine ex_ret (r := (none, t109, n, 0)) rfl (fun _ => rfl) ?_
    have hful : c = 5 := by omega
    refine ⟨_, rfl, t109, a109, f109, rfl, s109, (fun c i h => (e109 c i (by first | decide | omega)).trans (e107 c i (by first | decide | omega))), ?_, by omega⟩
    rw [fr_w hful]; exact Prod.ext (by show a109 = a; omega) (by show f109 = 5 + 16 * sp_st S m a; omega)
theorem pc_startRow218 (d n : Nat) {t0 : en_H} {a c : Nat} {S : Nat → Nat} {m N : Nat} (s0 : cS t0 a 0) (hT : cT t0 S m N) (ha : a < N) (k5 : ai_hv t0 218 5 = some (.inl c)) (hc : c ≤ 6) : ∃ r, en_u (d + 2) 249 [gx_r 7, gx_r 218] t0 n = some r ∧ ∃ t' a' f', r = (none, t', n, 0) ∧ cS t' a' f' ∧ cF t0 t' ∧ (a', f') = fr S m (c = 6) 5 (a, 0) ∧ (a' ≤ N ∧ a ≤ a' ∧ (f' = 0 → a' = a + 1 ∧ c ≠ 6)) := by
  have b0 := s0.2.2.2
  have hN := hT.2.2.2.2.2.2.1
  refine en_u_ex (d := d + 1) rfl ?_
  show en_ex _ _ _ _ (0, [(0, gx_r 7), (1, gx_r 218)], [], t0, n, 0) _
  refine ex_go (S := (1, [(0, gx_r 7), (1, gx_r 218)], [gx_r 218], t0, n, 0)) rfl (fun _ => rfl) rfl ?_
  obtain ⟨_, r1, b2, rfl, q3⟩ := pc_isFull218 (d) n s0.1 k5 (by first | decide | omega)
  refine gx_callo (a := 218) rfl rfl s0.1 rfl rfl rfl r1 rfl ?_
  show en_ex _ _ _ _ (4, [(0, gx_r 7), (1, gx_r 218)], [.inl b2], t0, n, 0) _
  by_cases hc4 : b2 = 0
  · refine gx_1t (c := .eq) rfl (by first | decide | omega) hc4 rfl ?_
    refine ex_go (S := (16, [(0, gx_r 7), (1, gx_r 218)], [gx_r 7], t0, n, 0)) rfl (fun _ => rfl) rfl ?_
    refine gxo_ref (a := 7) (c := 1) rfl s0.1 rfl rfl rfl rfl rfl ?_
    obtain ⟨_, r105, t105, a105, f105, rfl, s105, e105, q105⟩ := pc_goOn (d) n (s0) hT (by first | decide | omega) 
    have b105 := s105.2.2.2
    refine gx_callo (a := 1) rfl rfl s0.1 rfl rfl rfl r105 rfl ?_
    have k6 : ai_hv t105 218 5 = some (.inl c) := (e105 218 5 (by first | decide | omega)).trans k5
    show en_ex _ _ _ _ (22, [(0, gx_r 7), (1, gx_r 218)], [], t105, n, 0) _
    refine ex_ret (r := (none, t105, n, 0)) rfl (fun _ => rfl) ?_
    have hful : ¬ c = 6 := by omega
    refine ⟨_, rfl, t105, a105, f105, rfl, s105, (fun c i h => e105 c i (by first | decide | omega)), ?_, by omega⟩
    rw [fr_yes hful]; exact Prod.ext (by show a105 = a + 1; omega) (by show f105 = 0; omega)
  · refine gx_1f (c := .eq) rfl (by first | decide | omega) hc4 rfl ?_
    refine ex_go (S := (8, [(0, gx_r 7), (1, gx_r 218)], [gx_r 7], t0, n, 0)) rfl (fun _ => rfl) rfl ?_
    refine gxo_ref (a := 7) (c := 1) rfl s0.1 rfl rfl rfl rfl rfl ?_
    refine ex_go (S := (12, [(0, gx_r 7), (1, gx_r 218)], [.inl 5, gx_r 1], t0, n, 0)) rfl (fun _ => rfl) rfl ?_
    obtain ⟨_, r107, t107, a107, f107, rfl, s107, e107, q107⟩ := pc_wrong (d) n (s0) hT (by first | decide | omega) (w := 5) (by first | decide | omega)
    have b107 := s107.2.2.2
    refine gx_callo (a := 1) rfl rfl s0.1 rfl rfl rfl r107 rfl ?_
    have k8 : ai_hv t107 218 5 = some (.inl c) := (e107 218 5 (by first | decide | omega)).trans k5
    show en_ex _ _ _ _ (15, [(0, gx_r 7), (1, gx_r 218)], [], t107, n, 0) _
    refine ex_go (S := (16, [(0, gx_r 7), (1, gx_r 218)], [gx_r 7], t107, n, 0)) rfl (fun _ => rfl) rfl ?_
    refine gxo_ref (a := 7) (c := 1) rfl s107.1 rfl rfl rfl rfl rfl ?_
    have hT10 := cT_keep (t' := t107) hT (fun c i h => e107 c i (by first | decide | omega))
    obtain ⟨_, r109, t109, a109, f109, rfl, s109, e109, q109⟩ := pc_goOn (d) n (s107) hT10 (by first | decide | omega) 
    have b109 := s109.2.2.2
    refine gx_callo (a := 1) rfl rfl s107.1 rfl rfl rfl r109 rfl ?_
    have k11 : ai_hv t109 218 5 = some (.inl c) := (e109 218 5 (by first | decide | omega)).trans k8
    show en_ex _ _ _ _ (22, [(0, gx_r 7), (1, gx_r 218)], [], t109, n, 0) _
    refine ex_ret (r := (none, t109, n, 0)) rfl (fun _ => rfl) ?_
    have hful : c = 6 := by omega
    refine ⟨_, rfl, t109, a109, f109, rfl, s109, (fun c i h => (e109 c i (by first | decide | omega)).trans (e107 c i (by first | decide | omega))), ?_, by omega⟩
    rw [fr_w hful]; exact Prod.ext (by show a109 = a; omega) (by show f109 = 5 + 16 * sp_st S m a; omega)
theorem pc_startRow224 (d n : Nat) {t0 : en_H} {a c : Nat} {S : Nat → Nat} {m N : Nat} (s0 : cS t0 a 0) (hT : cT t0 S m N) (ha : a < N) (k5 : ai_hv t0 224 5 = some (.inl c)) (hc : c ≤ 6) : ∃ r, en_u (d + 2) 249 [gx_r 7, gx_r 224] t0 n = some r ∧ ∃ t' a' f', r = (none, t', n, 0) ∧ cS t' a' f' ∧ cF t0 t' ∧ (a', f') = fr S m (c = 6) 5 (a, 0) ∧ (a' ≤ N ∧ a ≤ a' ∧ (f' = 0 → a' = a + 1 ∧ c ≠ 6)) := by
  have b0 := s0.2.2.2
  have hN := hT.2.2.2.2.2.2.1
  refine en_u_ex (d := d + 1) rfl ?_
  show en_ex _ _ _ _ (0, [(0, gx_r 7), (1, gx_r 224)], [], t0, n, 0) _
  refine ex_go (S := (1, [(0, gx_r 7), (1, gx_r 224)], [gx_r 224], t0, n, 0)) rfl (fun _ => rfl) rfl ?_
  obtain ⟨_, r1, b2, rfl, q3⟩ := pc_isFull224 (d) n s0.1 k5 (by first | decide | omega)
  refine gx_callo (a := 224) rfl rfl s0.1 rfl rfl rfl r1 rfl ?_
  show en_ex _ _ _ _ (4, [(0, gx_r 7), (1, gx_r 224)], [.inl b2], t0, n, 0) _
  by_cases hc4 : b2 = 0
  · refine gx_1t (c := .eq) rfl (by first | decide | omega) hc4 rfl ?_
    refine ex_go (S := (16, [(0, gx_r 7), (1, gx_r 224)], [gx_r 7], t0, n, 0)) rfl (fun _ => rfl) rfl ?_
    refine gxo_ref (a := 7) (c := 1) rfl s0.1 rfl rfl rfl rfl rfl ?_
    obtain ⟨_, r105, t105, a105, f105, rfl, s105, e105, q105⟩ := pc_goOn (d) n (s0) hT (by first | decide | omega) 
    have b105 := s105.2.2.2
    refine gx_callo (a := 1) rfl rfl s0.1 rfl rfl rfl r105 rfl ?_
    have k6 : ai_hv t105 224 5 = some (.inl c) := (e105 224 5 (by first | decide | omega)).trans k5
    show en_ex _ _ _ _ (22, [(0, gx_r 7), (1, gx_r 224)], [], t105, n, 0) _
    refine ex_ret (r := (none, t105, n, 0)) rfl (fun _ => rfl) ?_
    have hful : ¬ c = 6 := by omega
    refine ⟨_, rfl, t105, a105, f105, rfl, s105, (fun c i h => e105 c i (by first | decide | omega)), ?_, by omega⟩
    rw [fr_yes hful]; exact Prod.ext (by show a105 = a + 1; omega) (by show f105 = 0; omega)
  · refine gx_1f (c := .eq) rfl (by first | decide | omega) hc4 rfl ?_
    refine ex_go (S := (8, [(0, gx_r 7), (1, gx_r 224)], [gx_r 7], t0, n, 0)) rfl (fun _ => rfl) rfl ?_
    refine gxo_ref (a := 7) (c := 1) rfl s0.1 rfl rfl rfl rfl rfl ?_
    refine ex_go (S := (12, [(0, gx_r 7), (1, gx_r 224)], [.inl 5, gx_r 1], t0, n, 0)) rfl (fun _ => rfl) rfl ?_
    obtain ⟨_, r107, t107, a107, f107, rfl, s107, e107, q107⟩ := pc_wrong (d) n (s0) hT (by first | decide | omega) (w := 5) (by first | decide | omega)
    have b107 := s107.2.2.2
    refine gx_callo (a := 1) rfl rfl s0.1 rfl rfl rfl r107 rfl ?_
    have k8 : ai_hv t107 224 5 = some (.inl c) := (e107 224 5 (by first | decide | omega)).trans k5
    show en_ex _ _ _ _ (15, [(0, gx_r 7), (1, gx_r 224)], [], t107, n, 0) _
    refine ex_go (S := (16, [(0, gx_r 7), (1, gx_r 224)], [gx_r 7], t107, n, 0)) rfl (fun _ => rfl) rfl ?_
    refine gxo_ref (a := 7) (c := 1) rfl s107.1 rfl rfl rfl rfl rfl ?_
    have hT10 := cT_keep (t' := t107) hT (fun c i h => e107 c i (by first | decide | omega))
    obtain ⟨_, r109, t109, a109, f109, rfl, s109, e109, q109⟩ := pc_goOn (d) n (s107) hT10 (by first | decide | omega) 
    have b109 := s109.2.2.2
    refine gx_callo (a := 1) rfl rfl s107.1 rfl rfl rfl r109 rfl ?_
    have k11 : ai_hv t109 224 5 = some (.inl c) := (e109 224 5 (by first | decide | omega)).trans k8
    show en_ex _ _ _ _ (22, [(0, gx_r 7), (1, gx_r 224)], [], t109, n, 0) _
    refine ex_ret (r := (none, t109, n, 0)) rfl (fun _ => rfl) ?_
    have hful : c = 6 := by omega
    refine ⟨_, rfl, t109, a109, f109, rfl, s109, (fun c i h => (e109 c i (by first | decide | omega)).trans (e107 c i (by first | decide | omega))), ?_, by omega⟩
    rw [fr_w hful]; exact Prod.ext (by show a109 = a; omega) (by show f109 = 5 + 16 * sp_st S m a; omega)
theorem pc_newName191 (d n : Nat) {t0 : en_H} {a f : Nat} {S : Nat → Nat} {m N : Nat} {σ : Nat → Nat → Nat} (s0 : cS t0 a f) (hT : cT t0 S m N) (ha : a ≤ N) (hP : ai_hv t0 7 1 = some (gx_r 191)) (hA : CA t0 191 S m σ) (h3 : W3 S m N σ) : ∃ r, en_u (d + 3) 266 [gx_r 7] t0 n = some r ∧ ∃ v t' a' f', r = (some (.inr (.inl v)), t', n, 0) ∧ cS t' a' f' ∧ cF t0 t' ∧ (a', f') = fm S m N (sg_told S m σ) (a, f) ∧ (a' ≤ N ∧ a ≤ a' ∧ (f ≠ 0 → f' = f ∧ a' = a) ∧ (f' = 0 → f = 0 ∧ a' = a + 1 ∧ v = sp_wv S m a)) := by
  have b0 := s0.2.2.2
  have hN := hT.2.2.2.2.2.2.1
  refine en_u_ex (d := d + 2) rfl ?_
  show en_ex _ _ _ _ (0, [(0, gx_r 7)], [], t0, n, 0) _
  refine ex_go (S := (1, [(0, gx_r 7)], [gx_r 7], t0, n, 0)) rfl (fun _ => rfl) rfl ?_
  refine gxo_ref (a := 7) (c := 1) rfl s0.1 rfl rfl rfl rfl rfl ?_
  obtain ⟨_, r101, v101, t101, a101, f101, rfl, s101, e101, q101⟩ := pc_seeName (d) n (s0) hT (by first | decide | omega) 
  have b101 := s101.2.2.2
  refine gx_callo (a := 1) rfl rfl s0.1 rfl rfl rfl r101 rfl ?_
  have k2 : ai_hv t101 7 1 = some (gx_r 191) := (e101 7 1 (by first | decide | omega)).trans hP
  show en_ex _ _ _ _ (7, [(0, gx_r 7)], [.inr (.inl v101)], t101, n, 0) _
  refine ex_go (S := (8, [(1, .inr (.inl v101)), (0, gx_r 7)], [], t101, n, 0)) rfl (fun _ => rfl) rfl ?_
  refine ex_go (S := (9, [(1, .inr (.inl v101)), (0, gx_r 7)], [gx_r 7], t101, n, 0)) rfl (fun _ => rfl) rfl ?_
  refine gxo_get (a := 7) rfl s101.1 rfl rfl k2 rfl ?_
  refine ex_go (S := (13, [(1, .inr (.inl v101)), (0, gx_r 7)], [.inr (.inl v101), gx_r 191], t101, n, 0)) rfl (fun _ => rfl) rfl ?_
  have hA9 : CA t101 191 S m σ := CA_keep (by first | decide | omega) hA (fun c i h h2 => e101 c i (by first | decide | omega))
  obtain ⟨_, r3, b4, rfl, q5⟩ := pc_isTold191 (d) n (x := v101) s101.1 hA9 h3
  refine gx_callo (a := 191) rfl rfl s101.1 rfl rfl rfl r3 rfl ?_
  show en_ex _ _ _ _ (16, [(1, .inr (.inl v101)), (0, gx_r 7)], [.inl b4], t101, n, 0) _
  by_cases hc6 : b4 = 0
  · refine gx_1t (c := .eq) rfl (by first | decide | omega) hc6 rfl ?_
    refine ex_go (S := (28, [(1, .inr (.inl v101)), (0, gx_r 7)], [gx_r 7], t101, n, 0)) rfl (fun _ => rfl) rfl ?_
    refine gxo_ref (a := 7) (c := 1) rfl s101.1 rfl rfl rfl rfl rfl ?_
    have hT8 := cT_keep (t' := t101) hT (fun c i h => e101 c i (by first | decide | omega))
    obtain ⟨_, r107, t107, a107, f107, rfl, s107, e107, q107⟩ := pc_goOn (d + 1) n (s101) hT8 (by first | decide | omega) 
    have b107 := s107.2.2.2
    refine gx_callo (a := 1) rfl rfl s101.1 rfl rfl rfl r107 rfl ?_
    have k9 : ai_hv t107 7 1 = some (gx_r 191) := (e107 7 1 (by first | decide | omega)).trans k2
    show en_ex _ _ _ _ (34, [(1, .inr (.inl v101)), (0, gx_r 7)], [], t107, n, 0) _
    refine ex_go (S := (35, [(1, .inr (.inl v101)), (0, gx_r 7)], [.inr (.inl v101)], t107, n, 0)) rfl (fun _ => rfl) rfl ?_
    refine ex_ret (r := (some (.inr (.inl v101)), t107, n, 0)) rfl (fun _ => rfl) ?_
    by_cases h0 : f = 0
    · rcases q101.2.2 h0 with ⟨hn, w1, w2, w3⟩ | ⟨hn, w1⟩
      · have hti := c_told_iff h3 hn.1
        rw [← w2] at hti
        refine ⟨_, rfl, v101, t107, a107, f107, rfl, s107, (fun c i h => (e107 c i (by first | decide | omega)).trans (e101 c i (by first | decide | omega))), ?_, by omega⟩
        rw [h0, fm_yes hn (fun z => absurd (q5.2.mpr (hti.mpr z)) (by first | decide | omega))]; exact Prod.ext (by show a107 = a + 1; omega) (by show f107 = 0; omega)
      · refine ⟨_, rfl, v101, t107, a107, f107, rfl, s107, (fun c i h => (e107 c i (by first | decide | omega)).trans (e101 c i (by first | decide | omega))), ?_, by omega⟩
        rw [h0, fm_1 hn]; exact Prod.ext (by show a107 = a; omega) (by show f107 = 1 + 16 * sp_st S m a; omega)
    · refine ⟨_, rfl, v101, t107, a107, f107, rfl, s107, (fun c i h => (e107 c i (by first | decide | omega)).trans (e101 c i (by first | decide | omega))), ?_, by omega⟩
      rw [fm_no h0]; exact Prod.ext (by show a107 = a; omega) (by show f107 = f; omega)
  · refine gx_1f (c := .eq) rfl (by first | decide | omega) hc6 rfl ?_
    refine ex_go (S := (20, [(1, .inr (.inl v101)), (0, gx_r 7)], [gx_r 7], t101, n, 0)) rfl (fun _ => rfl) rfl ?_
    refine gxo_ref (a := 7) (c := 1) rfl s101.1 rfl rfl rfl rfl rfl ?_
    refine ex_go (S := (24, [(1, .inr (.inl v101)), (0, gx_r 7)], [.inl 3, gx_r 1], t101, n, 0)) rfl (fun _ => rfl) rfl ?_
    have hT11 := cT_keep (t' := t101) hT (fun c i h => e101 c i (by first | decide | omega))
    obtain ⟨_, r110, t110, a110, f110, rfl, s110, e110, q110⟩ := pc_wrong (d + 1) n (s101) hT11 (by first | decide | omega) (w := 3) (by first | decide | omega)
    have b110 := s110.2.2.2
    refine gx_callo (a := 1) rfl rfl s101.1 rfl rfl rfl r110 rfl ?_
    have k12 : ai_hv t110 7 1 = some (gx_r 191) := (e110 7 1 (by first | decide | omega)).trans k2
    show en_ex _ _ _ _ (27, [(1, .inr (.inl v101)), (0, gx_r 7)], [], t110, n, 0) _
    refine ex_go (S := (28, [(1, .inr (.inl v101)), (0, gx_r 7)], [gx_r 7], t110, n, 0)) rfl (fun _ => rfl) rfl ?_
    refine gxo_ref (a := 7) (c := 1) rfl s110.1 rfl rfl rfl rfl rfl ?_
    have hT14 := cT_keep (t' := t110) hT (fun c i h => (e110 c i (by first | decide | omega)).trans (e101 c i (by first | decide | omega)))
    obtain ⟨_, r113, t113, a113, f113, rfl, s113, e113, q113⟩ := pc_goOn (d + 1) n (s110) hT14 (by first | decide | omega) 
    have b113 := s113.2.2.2
    refine gx_callo (a := 1) rfl rfl s110.1 rfl rfl rfl r113 rfl ?_
    have k15 : ai_hv t113 7 1 = some (gx_r 191) := (e113 7 1 (by first | decide | omega)).trans k12
    show en_ex _ _ _ _ (34, [(1, .inr (.inl v101)), (0, gx_r 7)], [], t113, n, 0) _
    refine ex_go (S := (35, [(1, .inr (.inl v101)), (0, gx_r 7)], [.inr (.inl v101)], t113, n, 0)) rfl (fun _ => rfl) rfl ?_
    refine ex_ret (r := (some (.inr (.inl v101)), t113, n, 0)) rfl (fun _ => rfl) ?_
    by_cases h0 : f = 0
    · rcases q101.2.2 h0 with ⟨hn, w1, w2, w3⟩ | ⟨hn, w1⟩
      · have hti := c_told_iff h3 hn.1
        rw [← w2] at hti
        refine ⟨_, rfl, v101, t113, a113, f113, rfl, s113, (fun c i h => (e113 c i (by first | decide | omega)).trans ((e110 c i (by first | decide | omega)).trans (e101 c i (by first | decide | omega)))), ?_, by omega⟩
        rw [h0, fm_3 hn (hti.mp (q5.2.mp (by first | decide | omega)))]; exact Prod.ext (by show a113 = a; omega) (by have := q101.1; show f113 = 3 + 16 * sp_st S m a; rw [show a = a101 by omega]; omega)
      · refine ⟨_, rfl, v101, t113, a113, f113, rfl, s113, (fun c i h => (e113 c i (by first | decide | omega)).trans ((e110 c i (by first | decide | omega)).trans (e101 c i (by first | decide | omega)))), ?_, by omega⟩
        rw [h0, fm_1 hn]; exact Prod.ext (by show a113 = a; omega) (by show f113 = 1 + 16 * sp_st S m a; omega)
    · refine ⟨_, rfl, v101, t113, a113, f113, rfl, s113, (fun c i h => (e113 c i (by first | decide | omega)).trans ((e110 c i (by first | decide | omega)).trans (e101 c i (by first | decide | omega)))), ?_, by omega⟩
      rw [fm_no h0]; exact Prod.ext (by show a113 = a; omega) (by show f113 = f; omega)
theorem pc_endRow194 (d n : Nat) {t0 : en_H} {a f c x y1 y2 y3 y4 : Nat} {S : Nat → Nat} {m N : Nat} (s0 : cS t0 a f) (hT : cT t0 S m N) (ha : a ≤ N) (k5 : ai_hv t0 194 5 = some (.inl c)) (hr : f = 0 → c < 6 ∧ y1 ≤ 3 ∧ y2 ≤ 63 ∧ y3 ≤ 0 ∧ y4 ≤ 0) : ∃ r, en_u (d + 3) 250 [gx_r 7, gx_r 194, .inr (.inl x), .inl y1, .inl y2, .inl y3, .inl y4] t0 n = some r ∧ ∃ t' a' f', r = (none, t', n, 0) ∧ cS t' a' f' ∧ (∀ c' i, ¬ ((c' = 1 ∧ (i = 1 ∨ i = 8)) ∨ (c' = 194 ∧ i = 5) ∨ ((c' = 195 ∨ c' = 196 ∨ c' = 197 ∨ c' = 198 ∨ c' = 199) ∧ i = c)) → ai_hv t' c' i = ai_hv t0 c' i) ∧ (a', f') = fs S m N 59 (a, f) ∧ (a' ≤ N ∧ a ≤ a' ∧ (f' = 0 → f = 0 ∧ a' = a + 1)) ∧ (f' = 0 → ai_hv t' 194 5 = some (.inl (c + 1)) ∧ ai_hv t' 195 c = some (.inr (.inl x)) ∧ ai_hv t' 196 c = some (.inl y1) ∧ ai_hv t' 197 c = some (.inl y2) ∧ ai_hv t' 198 c = some (.inl y3) ∧ ai_hv t' 199 c = some (.inl y4)) := by
  have b0 := s0.2.2.2
  have hN := hT.2.2.2.2.2.2.1
  refine en_u_ex (d := d + 2) rfl ?_
  show en_ex _ _ _ _ (0, [(0, gx_r 7), (1, gx_r 194), (2, .inr (.inl x)), (4, .inl y1), (5, .inl y2), (6, .inl y3), (7, .inl y4)], [], t0, n, 0) _
  refine ex_go (S := (1, [(0, gx_r 7), (1, gx_r 194), (2, .inr (.inl x)), (4, .inl y1), (5, .inl y2), (6, .inl y3), (7, .inl y4)], [gx_r 7], t0, n, 0)) rfl (fun _ => rfl) rfl ?_
  refine gxo_ref (a := 7) (c := 1) rfl s0.1 rfl rfl rfl rfl rfl ?_
  refine ex_go (S := (6, [(0, gx_r 7), (1, gx_r 194), (2, .inr (.inl x)), (4, .inl y1), (5, .inl y2), (6, .inl y3), (7, .inl y4)], [.inl 59, gx_r 1], t0, n, 0)) rfl (fun _ => rfl) rfl ?_
  obtain ⟨_, r101, t101, a101, f101, rfl, s101, e101, z101, q101⟩ := pc_takeSign (d) n (s0) hT (by first | decide | omega) (w := 59) (by first | decide | omega)
  have b101 := s101.2.2.2
  have y101 := z101.trans (congrArg (fs S m N 59) (rfl : (a, f) = (a, f)))
  refine gx_callo (a := 1) rfl rfl s0.1 rfl rfl rfl r101 rfl ?_
  have k2 : ai_hv t101 194 5 = some (.inl c) := (e101 194 5 (by first | decide | omega)).trans k5
  show en_ex _ _ _ _ (9, [(0, gx_r 7), (1, gx_r 194), (2, .inr (.inl x)), (4, .inl y1), (5, .inl y2), (6, .inl y3), (7, .inl y4)], [], t101, n, 0) _
  refine ex_go (S := (10, [(0, gx_r 7), (1, gx_r 194), (2, .inr (.inl x)), (4, .inl y1), (5, .inl y2), (6, .inl y3), (7, .inl y4)], [gx_r 7], t101, n, 0)) rfl (fun _ => rfl) rfl ?_
  refine gxo_ref (a := 7) (c := 1) rfl s101.1 rfl rfl rfl rfl rfl ?_
  refine gxo_get (a := 1) rfl s101.1 rfl rfl s101.2.2.1 rfl ?_
  by_cases hc3 : f101 ≠ 0
  · refine gx_1t (c := .ne) rfl (by first | decide | omega) hc3 rfl ?_
    refine ex_ret (r := (none, t101, n, 0)) rfl (fun _ => rfl) ?_
    exact ⟨_, rfl, t101, a101, f101, rfl, s101, (fun c' i h => e101 c' i (by first | decide | omega)), y101, by omega, fun z => by omega⟩
  · refine gx_1f (c := .ne) rfl (by first | decide | omega) hc3 rfl ?_
    refine ex_go (S := (20, [(0, gx_r 7), (1, gx_r 194), (2, .inr (.inl x)), (4, .inl y1), (5, .inl y2), (6, .inl y3), (7, .inl y4)], [gx_r 194], t101, n, 0)) rfl (fun _ => rfl) rfl ?_
    refine ex_go (S := (21, [(0, gx_r 7), (1, gx_r 194), (2, .inr (.inl x)), (4, .inl y1), (5, .inl y2), (6, .inl y3), (7, .inl y4)], [.inr (.inl x), gx_r 194], t101, n, 0)) rfl (fun _ => rfl) rfl ?_
    refine ex_go (S := (23, [(0, gx_r 7), (1, gx_r 194), (2, .inr (.inl x)), (4, .inl y1), (5, .inl y2), (6, .inl y3), (7, .inl y4)], [.inl y1, .inr (.inl x), gx_r 194], t101, n, 0)) rfl (fun _ => rfl) rfl ?_
    refine ex_go (S := (25, [(0, gx_r 7), (1, gx_r 194), (2, .inr (.inl x)), (4, .inl y1), (5, .inl y2), (6, .inl y3), (7, .inl y4)], [.inl y2, .inl y1, .inr (.inl x), gx_r 194], t101, n, 0)) rfl (fun _ => rfl) rfl ?_
    refine ex_go (S := (27, [(0, gx_r 7), (1, gx_r 194), (2, .inr (.inl x)), (4, .inl y1), (5, .inl y2), (6, .inl y3), (7, .inl y4)], [.inl y3, .inl y2, .inl y1, .inr (.inl x), gx_r 194], t101, n, 0)) rfl (fun _ => rfl) rfl ?_
    refine ex_go (S := (29, [(0, gx_r 7), (1, gx_r 194), (2, .inr (.inl x)), (4, .inl y1), (5, .inl y2), (6, .inl y3), (7, .inl y4)], [.inl y4, .inl y3, .inl y2, .inl y1, .inr (.inl x), gx_r 194], t101, n, 0)) rfl (fun _ => rfl) rfl ?_
    obtain ⟨hra, hrb⟩ := hr (by first | decide | omega)
    obtain ⟨_, r104, t104, rfl, g104, e104, ka104, kb104, kc104, kd104, ke104, kf104⟩ := pc_add194 (d) n (x := x) (y1 := y1) (y2 := y2) (y3 := y3) (y4 := y4) s101.1 k2 (by first | decide | omega) (by first | decide | omega) (by first | decide | omega) (by first | decide | omega) (by first | decide | omega)
    refine gx_callo (a := 194) rfl rfl s101.1 rfl rfl rfl r104 rfl ?_
    have s104 : cS t104 a101 f101 := ⟨g104, (e104 1 8 (by first | decide | omega)).trans s101.2.1, (e104 1 1 (by first | decide | omega)).trans s101.2.2.1, s101.2.2.2⟩
    show en_ex _ _ _ _ (32, [(0, gx_r 7), (1, gx_r 194), (2, .inr (.inl x)), (4, .inl y1), (5, .inl y2), (6, .inl y3), (7, .inl y4)], [], t104, n, 0) _
    refine ex_ret (r := (none, t104, n, 0)) rfl (fun _ => rfl) ?_
    exact ⟨_, rfl, t104, a101, f101, rfl, s104, (fun c' i h => (e104 c' i (by first | decide | omega)).trans (e101 c' i (by first | decide | omega))), y101, by omega, fun _ => ⟨ka104, kb104, kc104, kd104, ke104, kf104⟩⟩
theorem pc_endRow200 (d n : Nat) {t0 : en_H} {a f c x y1 y2 y3 y4 : Nat} {S : Nat → Nat} {m N : Nat} (s0 : cS t0 a f) (hT : cT t0 S m N) (ha : a ≤ N) (k5 : ai_hv t0 200 5 = some (.inl c)) (hr : f = 0 → c < 6 ∧ y1 ≤ 63 ∧ y2 ≤ 30 ∧ y3 ≤ 29 ∧ y4 ≤ 30) : ∃ r, en_u (d + 3) 250 [gx_r 7, gx_r 200, .inr (.inl x), .inl y1, .inl y2, .inl y3, .inl y4] t0 n = some r ∧ ∃ t' a' f', r = (none, t', n, 0) ∧ cS t' a' f' ∧ (∀ c' i, ¬ ((c' = 1 ∧ (i = 1 ∨ i = 8)) ∨ (c' = 200 ∧ i = 5) ∨ ((c' = 201 ∨ c' = 202 ∨ c' = 203 ∨ c' = 204 ∨ c' = 205) ∧ i = c)) → ai_hv t' c' i = ai_hv t0 c' i) ∧ (a', f') = fs S m N 59 (a, f) ∧ (a' ≤ N ∧ a ≤ a' ∧ (f' = 0 → f = 0 ∧ a' = a + 1)) ∧ (f' = 0 → ai_hv t' 200 5 = some (.inl (c + 1)) ∧ ai_hv t' 201 c = some (.inr (.inl x)) ∧ ai_hv t' 202 c = some (.inl y1) ∧ ai_hv t' 203 c = some (.inl y2) ∧ ai_hv t' 204 c = some (.inl y3) ∧ ai_hv t' 205 c = some (.inl y4)) := by
  have b0 := s0.2.2.2
  have hN := hT.2.2.2.2.2.2.1
  refine en_u_ex (d := d + 2) rfl ?_
  show en_ex _ _ _ _ (0, [(0, gx_r 7), (1, gx_r 200), (2, .inr (.inl x)), (4, .inl y1), (5, .inl y2), (6, .inl y3), (7, .inl y4)], [], t0, n, 0) _
  refine ex_go (S := (1, [(0, gx_r 7), (1, gx_r 200), (2, .inr (.inl x)), (4, .inl y1), (5, .inl y2), (6, .inl y3), (7, .inl y4)], [gx_r 7], t0, n, 0)) rfl (fun _ => rfl) rfl ?_
  refine gxo_ref (a := 7) (c := 1) rfl s0.1 rfl rfl rfl rfl rfl ?_
  refine ex_go (S := (6, [(0, gx_r 7), (1, gx_r 200), (2, .inr (.inl x)), (4, .inl y1), (5, .inl y2), (6, .inl y3), (7, .inl y4)], [.inl 59, gx_r 1], t0, n, 0)) rfl (fun _ => rfl) rfl ?_
  obtain ⟨_, r101, t101, a101, f101, rfl, s101, e101, z101, q101⟩ := pc_takeSign (d) n (s0) hT (by first | decide | omega) (w := 59) (by first | decide | omega)
  have b101 := s101.2.2.2
  have y101 := z101.trans (congrArg (fs S m N 59) (rfl : (a, f) = (a, f)))
  refine gx_callo (a := 1) rfl rfl s0.1 rfl rfl rfl r101 rfl ?_
  have k2 : ai_hv t101 200 5 = some (.inl c) := (e101 200 5 (by first | decide | omega)).trans k5
  show en_ex _ _ _ _ (9, [(0, gx_r 7), (1, gx_r 200), (2, .inr (.inl x)), (4, .inl y1), (5, .inl y2), (6, .inl y3), (7, .inl y4)], [], t101, n, 0) _
  refine ex_go (S := (10, [(0, gx_r 7), (1, gx_r 200), (2, .inr (.inl x)), (4, .inl y1), (5, .inl y2), (6, .inl y3), (7, .inl y4)], [gx_r 7], t101, n, 0)) rfl (fun _ => rfl) rfl ?_
  refine gxo_ref (a := 7) (c := 1) rfl s101.1 rfl rfl rfl rfl rfl ?_
  refine gxo_get (a := 1) rfl s101.1 rfl rfl s101.2.2.1 rfl ?_
  by_cases hc3 : f101 ≠ 0
  · refine gx_1t (c := .ne) rfl (by first | decide | omega) hc3 rfl ?_
    refine ex_ret (r := (none, t101, n, 0)) rfl (fun _ => rfl) ?_
    exact ⟨_, rfl, t101, a101, f101, rfl, s101, (fun c' i h => e101 c' i (by first | decide | omega)), y101, by omega, fun z => by omega⟩
  · refine gx_1f (c := .ne) rfl (by first | decide | omega) hc3 rfl ?_
    refine ex_go (S := (20, [(0, gx_r 7), (1, gx_r 200), (2, .inr (.inl x)), (4, .inl y1), (5, .inl y2), (6, .inl y3), (7, .inl y4)], [gx_r 200], t101, n, 0)) rfl (fun _ => rfl) rfl ?_
    refine ex_go (S := (21, [(0, gx_r 7), (1, gx_r 200), (2, .inr (.inl x)), (4, .inl y1), (5, .inl y2), (6, .inl y3), (7, .inl y4)], [.inr (.inl x), gx_r 200], t101, n, 0)) rfl (fun _ => rfl) rfl ?_
    refine ex_go (S := (23, [(0, gx_r 7), (1, gx_r 200), (2, .inr (.inl x)), (4, .inl y1), (5, .inl y2), (6, .inl y3), (7, .inl y4)], [.inl y1, .inr (.inl x), gx_r 200], t101, n, 0)) rfl (fun _ => rfl) rfl ?_
    refine ex_go (S := (25, [(0, gx_r 7), (1, gx_r 200), (2, .inr (.inl x)), (4, .inl y1), (5, .inl y2), (6, .inl y3), (7, .inl y4)], [.inl y2, .inl y1, .inr (.inl x), gx_r 200], t101, n, 0)) rfl (fun _ => rfl) rfl ?_
    refine ex_go (S := (27, [(0, gx_r 7), (1, gx_r 200), (2, .inr (.inl x)), (4, .inl y1), (5, .inl y2), (6, .inl y3), (7, .inl y4)], [.inl y3, .inl y2, .inl y1, .inr (.inl x), gx_r 200], t101, n, 0)) rfl (fun _ => rfl) rfl ?_
    refine ex_go (S := (29, [(0, gx_r 7), (1, gx_r 200), (2, .inr (.inl x)), (4, .inl y1), (5, .inl y2), (6, .inl y3), (7, .inl y4)], [.inl y4, .inl y3, .inl y2, .inl y1, .inr (.inl x), gx_r 200], t101, n, 0)) rfl (fun _ => rfl) rfl ?_
    obtain ⟨hra, hrb⟩ := hr (by first | decide | omega)
    obtain ⟨_, r104, t104, rfl, g104, e104, ka104, kb104, kc104, kd104, ke104, kf104⟩ := pc_add200 (d) n (x := x) (y1 := y1) (y2 := y2) (y3 := y3) (y4 := y4) s101.1 k2 (by first | decide | omega) (by first | decide | omega) (by first | decide | omega) (by first | decide | omega) (by first | decide | omega)
    refine gx_callo (a := 200) rfl rfl s101.1 rfl rfl rfl r104 rfl ?_
    have s104 : cS t104 a101 f101 := ⟨g104, (e104 1 8 (by first | decide | omega)).trans s101.2.1, (e104 1 1 (by first | decide | omega)).trans s101.2.2.1, s101.2.2.2⟩
    show en_ex _ _ _ _ (32, [(0, gx_r 7), (1, gx_r 200), (2, .inr (.inl x)), (4, .inl y1), (5, .inl y2), (6, .inl y3), (7, .inl y4)], [], t104, n, 0) _
    refine ex_ret (r := (none, t104, n, 0)) rfl (fun _ => rfl) ?_
    exact ⟨_, rfl, t104, a101, f101, rfl, s104, (fun c' i h => (e104 c' i (by first | decide | omega)).trans (e101 c' i (by first | decide | omega))), y101, by omega, fun _ => ⟨ka104, kb104, kc104, kd104, ke104, kf104⟩⟩
theorem pc_endRow206 (d n : Nat) {t0 : en_H} {a f c x y1 y2 y3 y4 : Nat} {S : Nat → Nat} {m N : Nat} (s0 : cS t0 a f) (hT : cT t0 S m N) (ha : a ≤ N) (k5 : ai_hv t0 206 5 = some (.inl c)) (hr : f = 0 → c < 2 ∧ y1 ≤ 5 ∧ y2 ≤ 30 ∧ y3 ≤ 9999 ∧ y4 ≤ 0) : ∃ r, en_u (d + 3) 250 [gx_r 7, gx_r 206, .inr (.inl x), .inl y1, .inl y2, .inl y3, .inl y4] t0 n = some r ∧ ∃ t' a' f', r = (none, t', n, 0) ∧ cS t' a' f' ∧ (∀ c' i, ¬ ((c' = 1 ∧ (i = 1 ∨ i = 8)) ∨ (c' = 206 ∧ i = 5) ∨ ((c' = 207 ∨ c' = 208 ∨ c' = 209 ∨ c' = 210 ∨ c' = 211) ∧ i = c)) → ai_hv t' c' i = ai_hv t0 c' i) ∧ (a', f') = fs S m N 59 (a, f) ∧ (a' ≤ N ∧ a ≤ a' ∧ (f' = 0 → f = 0 ∧ a' = a + 1)) ∧ (f' = 0 → ai_hv t' 206 5 = some (.inl (c + 1)) ∧ ai_hv t' 207 c = some (.inr (.inl x)) ∧ ai_hv t' 208 c = some (.inl y1) ∧ ai_hv t' 209 c = some (.inl y2) ∧ ai_hv t' 210 c = some (.inl y3) ∧ ai_hv t' 211 c = some (.inl y4)) := by
  have b0 := s0.2.2.2
  have hN := hT.2.2.2.2.2.2.1
  refine en_u_ex (d := d + 2) rfl ?_
  show en_ex _ _ _ _ (0, [(0, gx_r 7), (1, gx_r 206), (2, .inr (.inl x)), (4, .inl y1), (5, .inl y2), (6, .inl y3), (7, .inl y4)], [], t0, n, 0) _
  refine ex_go (S := (1, [(0, gx_r 7), (1, gx_r 206), (2, .inr (.inl x)), (4, .inl y1), (5, .inl y2), (6, .inl y3), (7, .inl y4)], [gx_r 7], t0, n, 0)) rfl (fun _ => rfl) rfl ?_
  refine gxo_ref (a := 7) (c := 1) rfl s0.1 rfl rfl rfl rfl rfl ?_
  refine ex_go (S := (6, [(0, gx_r 7), (1, gx_r 206), (2, .inr (.inl x)), (4, .inl y1), (5, .inl y2), (6, .inl y3), (7, .inl y4)], [.inl 59, gx_r 1], t0, n, 0)) rfl (fun _ => rfl) rfl ?_
  obtain ⟨_, r101, t101, a101, f101, rfl, s101, e101, z101, q101⟩ := pc_takeSign (d) n (s0) hT (by first | decide | omega) (w := 59) (by first | decide | omega)
  have b101 := s101.2.2.2
  have y101 := z101.trans (congrArg (fs S m N 59) (rfl : (a, f) = (a, f)))
  refine gx_callo (a := 1) rfl rfl s0.1 rfl rfl rfl r101 rfl ?_
  have k2 : ai_hv t101 206 5 = some (.inl c) := (e101 206 5 (by first | decide | omega)).trans k5
  show en_ex _ _ _ _ (9, [(0, gx_r 7), (1, gx_r 206), (2, .inr (.inl x)), (4, .inl y1), (5, .inl y2), (6, .inl y3), (7, .inl y4)], [], t101, n, 0) _
  refine ex_go (S := (10, [(0, gx_r 7), (1, gx_r 206), (2, .inr (.inl x)), (4, .inl y1), (5, .inl y2), (6, .inl y3), (7, .inl y4)], [gx_r 7], t101, n, 0)) rfl (fun _ => rfl) rfl ?_
  refine gxo_ref (a := 7) (c := 1) rfl s101.1 rfl rfl rfl rfl rfl ?_
  refine gxo_get (a := 1) rfl s101.1 rfl rfl s101.2.2.1 rfl ?_
  by_cases hc3 : f101 ≠ 0
  · refine gx_1t (c := .ne) rfl (by first | decide | omega) hc3 rfl ?_
    refine ex_ret (r := (none, t101, n, 0)) rfl (fun _ => rfl) ?_
    exact ⟨_, rfl, t101, a101, f101, rfl, s101, (fun c' i h => e101 c' i (by first | decide | omega)), y101, by omega, fun z => by omega⟩
  · refine gx_1f (c := .ne) rfl (by first | decide | omega) hc3 rfl ?_
    refine ex_go (S := (20, [(0, gx_r 7), (1, gx_r 206), (2, .inr (.inl x)), (4, .inl y1), (5, .inl y2), (6, .inl y3), (7, .inl y4)], [gx_r 206], t101, n, 0)) rfl (fun _ => rfl) rfl ?_
    refine ex_go (S := (21, [(0, gx_r 7), (1, gx_r 206), (2, .inr (.inl x)), (4, .inl y1), (5, .inl y2), (6, .inl y3), (7, .inl y4)], [.inr (.inl x), gx_r 206], t101, n, 0)) rfl (fun _ => rfl) rfl ?_
    refine ex_go (S := (23, [(0, gx_r 7), (1, gx_r 206), (2, .inr (.inl x)), (4, .inl y1), (5, .inl y2), (6, .inl y3), (7, .inl y4)], [.inl y1, .inr (.inl x), gx_r 206], t101, n, 0)) rfl (fun _ => rfl) rfl ?_
    refine ex_go (S := (25, [(0, gx_r 7), (1, gx_r 206), (2, .inr (.inl x)), (4, .inl y1), (5, .inl y2), (6, .inl y3), (7, .inl y4)], [.inl y2, .inl y1, .inr (.inl x), gx_r 206], t101, n, 0)) rfl (fun _ => rfl) rfl ?_
    refine ex_go (S := (27, [(0, gx_r 7), (1, gx_r 206), (2, .inr (.inl x)), (4, .inl y1), (5, .inl y2), (6, .inl y3), (7, .inl y4)], [.inl y3, .inl y2, .inl y1, .inr (.inl x), gx_r 206], t101, n, 0)) rfl (fun _ => rfl) rfl ?_
    refine ex_go (S := (29, [(0, gx_r 7), (1, gx_r 206), (2, .inr (.inl x)), (4, .inl y1), (5, .inl y2), (6, .inl y3), (7, .inl y4)], [.inl y4, .inl y3, .inl y2, .inl y1, .inr (.inl x), gx_r 206], t101, n, 0)) rfl (fun _ => rfl) rfl ?_
    obtain ⟨hra, hrb⟩ := hr (by first | decide | omega)
    obtain ⟨_, r104, t104, rfl, g104, e104, ka104, kb104, kc104, kd104, ke104, kf104⟩ := pc_add206 (d) n (x := x) (y1 := y1) (y2 := y2) (y3 := y3) (y4 := y4) s101.1 k2 (by first | decide | omega) (by first | decide | omega) (by first | decide | omega) (by first | decide | omega) (by first | decide | omega)
    refine gx_callo (a := 206) rfl rfl s101.1 rfl rfl rfl r104 rfl ?_
    have s104 : cS t104 a101 f101 := ⟨g104, (e104 1 8 (by first | decide | omega)).trans s101.2.1, (e104 1 1 (by first | decide | omega)).trans s101.2.2.1, s101.2.2.2⟩
    show en_ex _ _ _ _ (32, [(0, gx_r 7), (1, gx_r 206), (2, .inr (.inl x)), (4, .inl y1), (5, .inl y2), (6, .inl y3), (7, .inl y4)], [], t104, n, 0) _
    refine ex_ret (r := (none, t104, n, 0)) rfl (fun _ => rfl) ?_
    exact ⟨_, rfl, t104, a101, f101, rfl, s104, (fun c' i h => (e104 c' i (by first | decide | omega)).trans (e101 c' i (by first | decide | omega))), y101, by omega, fun _ => ⟨ka104, kb104, kc104, kd104, ke104, kf104⟩⟩
theorem pc_endRow212 (d n : Nat) {t0 : en_H} {a f c x y1 y2 y3 y4 : Nat} {S : Nat → Nat} {m N : Nat} (s0 : cS t0 a f) (hT : cT t0 S m N) (ha : a ≤ N) (k5 : ai_hv t0 212 5 = some (.inl c)) (hr : f = 0 → c < 5 ∧ y1 ≤ 10 ∧ y2 ≤ 10 ∧ y3 ≤ 0 ∧ y4 ≤ 0) : ∃ r, en_u (d + 3) 250 [gx_r 7, gx_r 212, .inr (.inl x), .inl y1, .inl y2, .inl y3, .inl y4] t0 n = some r ∧ ∃ t' a' f', r = (none, t', n, 0) ∧ cS t' a' f' ∧ (∀ c' i, ¬ ((c' = 1 ∧ (i = 1 ∨ i = 8)) ∨ (c' = 212 ∧ i = 5) ∨ ((c' = 213 ∨ c' = 214 ∨ c' = 215 ∨ c' = 216 ∨ c' = 217) ∧ i = c)) → ai_hv t' c' i = ai_hv t0 c' i) ∧ (a', f') = fs S m N 59 (a, f) ∧ (a' ≤ N ∧ a ≤ a' ∧ (f' = 0 → f = 0 ∧ a' = a + 1)) ∧ (f' = 0 → ai_hv t' 212 5 = some (.inl (c + 1)) ∧ ai_hv t' 213 c = some (.inr (.inl x)) ∧ ai_hv t' 214 c = some (.inl y1) ∧ ai_hv t' 215 c = some (.inl y2) ∧ ai_hv t' 216 c = some (.inl y3) ∧ ai_hv t' 217 c = some (.inl y4)) := by
  have b0 := s0.2.2.2
  have hN := hT.2.2.2.2.2.2.1
  refine en_u_ex (d := d + 2) rfl ?_
  show en_ex _ _ _ _ (0, [(0, gx_r 7), (1, gx_r 212), (2, .inr (.inl x)), (4, .inl y1), (5, .inl y2), (6, .inl y3), (7, .inl y4)], [], t0, n, 0) _
  refine ex_go (S := (1, [(0, gx_r 7), (1, gx_r 212), (2, .inr (.inl x)), (4, .inl y1), (5, .inl y2), (6, .inl y3), (7, .inl y4)], [gx_r 7], t0, n, 0)) rfl (fun _ => rfl) rfl ?_
  refine gxo_ref (a := 7) (c := 1) rfl s0.1 rfl rfl rfl rfl rfl ?_
  refine ex_go (S := (6, [(0, gx_r 7), (1, gx_r 212), (2, .inr (.inl x)), (4, .inl y1), (5, .inl y2), (6, .inl y3), (7, .inl y4)], [.inl 59, gx_r 1], t0, n, 0)) rfl (fun _ => rfl) rfl ?_
  obtain ⟨_, r101, t101, a101, f101, rfl, s101, e101, z101, q101⟩ := pc_takeSign (d) n (s0) hT (by first | decide | omega) (w := 59) (by first | decide | omega)
  have b101 := s101.2.2.2
  have y101 := z101.trans (congrArg (fs S m N 59) (rfl : (a, f) = (a, f)))
  refine gx_callo (a := 1) rfl rfl s0.1 rfl rfl rfl r101 rfl ?_
  have k2 : ai_hv t101 212 5 = some (.inl c) := (e101 212 5 (by first | decide | omega)).trans k5
  show en_ex _ _ _ _ (9, [(0, gx_r 7), (1, gx_r 212), (2, .inr (.inl x)), (4, .inl y1), (5, .inl y2), (6, .inl y3), (7, .inl y4)], [], t101, n, 0) _
  refine ex_go (S := (10, [(0, gx_r 7), (1, gx_r 212), (2, .inr (.inl x)), (4, .inl y1), (5, .inl y2), (6, .inl y3), (7, .inl y4)], [gx_r 7], t101, n, 0)) rfl (fun _ => rfl) rfl ?_
  refine gxo_ref (a := 7) (c := 1) rfl s101.1 rfl rfl rfl rfl rfl ?_
  refine gxo_get (a := 1) rfl s101.1 rfl rfl s101.2.2.1 rfl ?_
  by_cases hc3 : f101 ≠ 0
  · refine gx_1t (c := .ne) rfl (by first | decide | omega) hc3 rfl ?_
    refine ex_ret (r := (none, t101, n, 0)) rfl (fun _ => rfl) ?_
    exact ⟨_, rfl, t101, a101, f101, rfl, s101, (fun c' i h => e101 c' i (by first | decide | omega)), y101, by omega, fun z => by omega⟩
  · refine gx_1f (c := .ne) rfl (by first | decide | omega) hc3 rfl ?_
    refine ex_go (S := (20, [(0, gx_r 7), (1, gx_r 212), (2, .inr (.inl x)), (4, .inl y1), (5, .inl y2), (6, .inl y3), (7, .inl y4)], [gx_r 212], t101, n, 0)) rfl (fun _ => rfl) rfl ?_
    refine ex_go (S := (21, [(0, gx_r 7), (1, gx_r 212), (2, .inr (.inl x)), (4, .inl y1), (5, .inl y2), (6, .inl y3), (7, .inl y4)], [.inr (.inl x), gx_r 212], t101, n, 0)) rfl (fun _ => rfl) rfl ?_
    refine ex_go (S := (23, [(0, gx_r 7), (1, gx_r 212), (2, .inr (.inl x)), (4, .inl y1), (5, .inl y2), (6, .inl y3), (7, .inl y4)], [.inl y1, .inr (.inl x), gx_r 212], t101, n, 0)) rfl (fun _ => rfl) rfl ?_
    refine ex_go (S := (25, [(0, gx_r 7), (1, gx_r 212), (2, .inr (.inl x)), (4, .inl y1), (5, .inl y2), (6, .inl y3), (7, .inl y4)], [.inl y2, .inl y1, .inr (.inl x), gx_r 212], t101, n, 0)) rfl (fun _ => rfl) rfl ?_
    refine ex_go (S := (27, [(0, gx_r 7), (1, gx_r 212), (2, .inr (.inl x)), (4, .inl y1), (5, .inl y2), (6, .inl y3), (7, .inl y4)], [.inl y3, .inl y2, .inl y1, .inr (.inl x), gx_r 212], t101, n, 0)) rfl (fun _ => rfl) rfl ?_
    refine ex_go (S := (29, [(0, gx_r 7), (1, gx_r 212), (2, .inr (.inl x)), (4, .inl y1), (5, .inl y2), (6, .inl y3), (7, .inl y4)], [.inl y4, .inl y3, .inl y2, .inl y1, .inr (.inl x), gx_r 212], t101, n, 0)) rfl (fun _ => rfl) rfl ?_
    obtain ⟨hra, hrb⟩ := hr (by first | decide | omega)
    obtain ⟨_, r104, t104, rfl, g104, e104, ka104, kb104, kc104, kd104, ke104, kf104⟩ := pc_add212 (d) n (x := x) (y1 := y1) (y2 := y2) (y3 := y3) (y4 := y4) s101.1 k2 (by first | decide | omega) (by first | decide | omega) (by first | decide | omega) (by first | decide | omega) (by first | decide | omega)
    refine gx_callo (a := 212) rfl rfl s101.1 rfl rfl rfl r104 rfl ?_
    have s104 : cS t104 a101 f101 := ⟨g104, (e104 1 8 (by first | decide | omega)).trans s101.2.1, (e104 1 1 (by first | decide | omega)).trans s101.2.2.1, s101.2.2.2⟩
    show en_ex _ _ _ _ (32, [(0, gx_r 7), (1, gx_r 212), (2, .inr (.inl x)), (4, .inl y1), (5, .inl y2), (6, .inl y3), (7, .inl y4)], [], t104, n, 0) _
    refine ex_ret (r := (none, t104, n, 0)) rfl (fun _ => rfl) ?_
    exact ⟨_, rfl, t104, a101, f101, rfl, s104, (fun c' i h => (e104 c' i (by first | decide | omega)).trans (e101 c' i (by first | decide | omega))), y101, by omega, fun _ => ⟨ka104, kb104, kc104, kd104, ke104, kf104⟩⟩
theorem pc_endRow218 (d n : Nat) {t0 : en_H} {a f c x y1 y2 y3 y4 : Nat} {S : Nat → Nat} {m N : Nat} (s0 : cS t0 a f) (hT : cT t0 S m N) (ha : a ≤ N) (k5 : ai_hv t0 218 5 = some (.inl c)) (hr : f = 0 → c < 6 ∧ y1 ≤ 99 ∧ y2 ≤ 0 ∧ y3 ≤ 0 ∧ y4 ≤ 0) : ∃ r, en_u (d + 3) 250 [gx_r 7, gx_r 218, .inr (.inl x), .inl y1, .inl y2, .inl y3, .inl y4] t0 n = some r ∧ ∃ t' a' f', r = (none, t', n, 0) ∧ cS t' a' f' ∧ (∀ c' i, ¬ ((c' = 1 ∧ (i = 1 ∨ i = 8)) ∨ (c' = 218 ∧ i = 5) ∨ ((c' = 219 ∨ c' = 220 ∨ c' = 221 ∨ c' = 222 ∨ c' = 223) ∧ i = c)) → ai_hv t' c' i = ai_hv t0 c' i) ∧ (a', f') = fs S m N 59 (a, f) ∧ (a' ≤ N ∧ a ≤ a' ∧ (f' = 0 → f = 0 ∧ a' = a + 1)) ∧ (f' = 0 → ai_hv t' 218 5 = some (.inl (c + 1)) ∧ ai_hv t' 219 c = some (.inr (.inl x)) ∧ ai_hv t' 220 c = some (.inl y1) ∧ ai_hv t' 221 c = some (.inl y2) ∧ ai_hv t' 222 c = some (.inl y3) ∧ ai_hv t' 223 c = some (.inl y4)) := by
  have b0 := s0.2.2.2
  have hN := hT.2.2.2.2.2.2.1
  refine en_u_ex (d := d + 2) rfl ?_
  show en_ex _ _ _ _ (0, [(0, gx_r 7), (1, gx_r 218), (2, .inr (.inl x)), (4, .inl y1), (5, .inl y2), (6, .inl y3), (7, .inl y4)], [], t0, n, 0) _
  refine ex_go (S := (1, [(0, gx_r 7), (1, gx_r 218), (2, .inr (.inl x)), (4, .inl y1), (5, .inl y2), (6, .inl y3), (7, .inl y4)], [gx_r 7], t0, n, 0)) rfl (fun _ => rfl) rfl ?_
  refine gxo_ref (a := 7) (c := 1) rfl s0.1 rfl rfl rfl rfl rfl ?_
  refine ex_go (S := (6, [(0, gx_r 7), (1, gx_r 218), (2, .inr (.inl x)), (4, .inl y1), (5, .inl y2), (6, .inl y3), (7, .inl y4)], [.inl 59, gx_r 1], t0, n, 0)) rfl (fun _ => rfl) rfl ?_
  obtain ⟨_, r101, t101, a101, f101, rfl, s101, e101, z101, q101⟩ := pc_takeSign (d) n (s0) hT (by first | decide | omega) (w := 59) (by first | decide | omega)
  have b101 := s101.2.2.2
  have y101 := z101.trans (congrArg (fs S m N 59) (rfl : (a, f) = (a, f)))
  refine gx_callo (a := 1) rfl rfl s0.1 rfl rfl rfl r101 rfl ?_
  have k2 : ai_hv t101 218 5 = some (.inl c) := (e101 218 5 (by first | decide | omega)).trans k5
  show en_ex _ _ _ _ (9, [(0, gx_r 7), (1, gx_r 218), (2, .inr (.inl x)), (4, .inl y1), (5, .inl y2), (6, .inl y3), (7, .inl y4)], [], t101, n, 0) _
  refine ex_go (S := (10, [(0, gx_r 7), (1, gx_r 218), (2, .inr (.inl x)), (4, .inl y1), (5, .inl y2), (6, .inl y3), (7, .inl y4)], [gx_r 7], t101, n, 0)) rfl (fun _ => rfl) rfl ?_
  refine gxo_ref (a := 7) (c := 1) rfl s101.1 rfl rfl rfl rfl rfl ?_
  refine gxo_get (a := 1) rfl s101.1 rfl rfl s101.2.2.1 rfl ?_
  by_cases hc3 : f101 ≠ 0
  · refine gx_1t (c := .ne) rfl (by first | decide | omega) hc3 rfl ?_
    refine ex_ret (r := (none, t101, n, 0)) rfl (fun _ => rfl) ?_
    exact ⟨_, rfl, t101, a101, f101, rfl, s101, (fun c' i h => e101 c' i (by first | decide | omega)), y101, by omega, fun z => by omega⟩
  · refine gx_1f (c := .ne) rfl (by first | decide | omega) hc3 rfl ?_
    refine ex_go (S := (20, [(0, gx_r 7), (1, gx_r 218), (2, .inr (.inl x)), (4, .inl y1), (5, .inl y2), (6, .inl y3), (7, .inl y4)], [gx_r 218], t101, n, 0)) rfl (fun _ => rfl) rfl ?_
    refine ex_go (S := (21, [(0, gx_r 7), (1, gx_r 218), (2, .inr (.inl x)), (4, .inl y1), (5, .inl y2), (6, .inl y3), (7, .inl y4)], [.inr (.inl x), gx_r 218], t101, n, 0)) rfl (fun _ => rfl) rfl ?_
    refine ex_go (S := (23, [(0, gx_r 7), (1, gx_r 218), (2, .inr (.inl x)), (4, .inl y1), (5, .inl y2), (6, .inl y3), (7, .inl y4)], [.inl y1, .inr (.inl x), gx_r 218], t101, n, 0)) rfl (fun _ => rfl) rfl ?_
    refine ex_go (S := (25, [(0, gx_r 7), (1, gx_r 218), (2, .inr (.inl x)), (4, .inl y1), (5, .inl y2), (6, .inl y3), (7, .inl y4)], [.inl y2, .inl y1, .inr (.inl x), gx_r 218], t101, n, 0)) rfl (fun _ => rfl) rfl ?_
    refine ex_go (S := (27, [(0, gx_r 7), (1, gx_r 218), (2, .inr (.inl x)), (4, .inl y1), (5, .inl y2), (6, .inl y3), (7, .inl y4)], [.inl y3, .inl y2, .inl y1, .inr (.inl x), gx_r 218], t101, n, 0)) rfl (fun _ => rfl) rfl ?_
    refine ex_go (S := (29, [(0, gx_r 7), (1, gx_r 218), (2, .inr (.inl x)), (4, .inl y1), (5, .inl y2), (6, .inl y3), (7, .inl y4)], [.inl y4, .inl y3, .inl y2, .inl y1, .inr (.inl x), gx_r 218], t101, n, 0)) rfl (fun _ => rfl) rfl ?_
    obtain ⟨hra, hrb⟩ := hr (by first | decide | omega)
    obtain ⟨_, r104, t104, rfl, g104, e104, ka104, kb104, kc104, kd104, ke104, kf104⟩ := pc_add218 (d) n (x := x) (y1 := y1) (y2 := y2) (y3 := y3) (y4 := y4) s101.1 k2 (by first | decide | omega) (by first | decide | omega) (by first | decide | omega) (by first | decide | omega) (by first | decide | omega)
    refine gx_callo (a := 218) rfl rfl s101.1 rfl rfl rfl r104 rfl ?_
    have s104 : cS t104 a101 f101 := ⟨g104, (e104 1 8 (by first | decide | omega)).trans s101.2.1, (e104 1 1 (by first | decide | omega)).trans s101.2.2.1, s101.2.2.2⟩
    show en_ex _ _ _ _ (32, [(0, gx_r 7), (1, gx_r 218), (2, .inr (.inl x)), (4, .inl y1), (5, .inl y2), (6, .inl y3), (7, .inl y4)], [], t104, n, 0) _
    refine ex_ret (r := (none, t104, n, 0)) rfl (fun _ => rfl) ?_
    exact ⟨_, rfl, t104, a101, f101, rfl, s104, (fun c' i h => (e104 c' i (by first | decide | omega)).trans (e101 c' i (by first | decide | omega))), y101, by omega, fun _ => ⟨ka104, kb104, kc104, kd104, ke104, kf104⟩⟩
theorem pc_endRow224 (d n : Nat) {t0 : en_H} {a f c x y1 y2 y3 y4 : Nat} {S : Nat → Nat} {m N : Nat} (s0 : cS t0 a f) (hT : cT t0 S m N) (ha : a ≤ N) (k5 : ai_hv t0 224 5 = some (.inl c)) (hr : f = 0 → c < 6 ∧ y1 ≤ 999 ∧ y2 ≤ 9 ∧ y3 ≤ 0 ∧ y4 ≤ 0) : ∃ r, en_u (d + 3) 250 [gx_r 7, gx_r 224, .inr (.inl x), .inl y1, .inl y2, .inl y3, .inl y4] t0 n = some r ∧ ∃ t' a' f', r = (none, t', n, 0) ∧ cS t' a' f' ∧ (∀ c' i, ¬ ((c' = 1 ∧ (i = 1 ∨ i = 8)) ∨ (c' = 224 ∧ i = 5) ∨ ((c' = 225 ∨ c' = 226 ∨ c' = 227 ∨ c' = 228 ∨ c' = 229) ∧ i = c)) → ai_hv t' c' i = ai_hv t0 c' i) ∧ (a', f') = fs S m N 59 (a, f) ∧ (a' ≤ N ∧ a ≤ a' ∧ (f' = 0 → f = 0 ∧ a' = a + 1)) ∧ (f' = 0 → ai_hv t' 224 5 = some (.inl (c + 1)) ∧ ai_hv t' 225 c = some (.inr (.inl x)) ∧ ai_hv t' 226 c = some (.inl y1) ∧ ai_hv t' 227 c = some (.inl y2) ∧ ai_hv t' 228 c = some (.inl y3) ∧ ai_hv t' 229 c = some (.inl y4)) := by
  have b0 := s0.2.2.2
  have hN := hT.2.2.2.2.2.2.1
  refine en_u_ex (d := d + 2) rfl ?_
  show en_ex _ _ _ _ (0, [(0, gx_r 7), (1, gx_r 224), (2, .inr (.inl x)), (4, .inl y1), (5, .inl y2), (6, .inl y3), (7, .inl y4)], [], t0, n, 0) _
  refine ex_go (S := (1, [(0, gx_r 7), (1, gx_r 224), (2, .inr (.inl x)), (4, .inl y1), (5, .inl y2), (6, .inl y3), (7, .inl y4)], [gx_r 7], t0, n, 0)) rfl (fun _ => rfl) rfl ?_
  refine gxo_ref (a := 7) (c := 1) rfl s0.1 rfl rfl rfl rfl rfl ?_
  refine ex_go (S := (6, [(0, gx_r 7), (1, gx_r 224), (2, .inr (.inl x)), (4, .inl y1), (5, .inl y2), (6, .inl y3), (7, .inl y4)], [.inl 59, gx_r 1], t0, n, 0)) rfl (fun _ => rfl) rfl ?_
  obtain ⟨_, r101, t101, a101, f101, rfl, s101, e101, z101, q101⟩ := pc_takeSign (d) n (s0) hT (by first | decide | omega) (w := 59) (by first | decide | omega)
  have b101 := s101.2.2.2
  have y101 := z101.trans (congrArg (fs S m N 59) (rfl : (a, f) = (a, f)))
  refine gx_callo (a := 1) rfl rfl s0.1 rfl rfl rfl r101 rfl ?_
  have k2 : ai_hv t101 224 5 = some (.inl c) := (e101 224 5 (by first | decide | omega)).trans k5
  show en_ex _ _ _ _ (9, [(0, gx_r 7), (1, gx_r 224), (2, .inr (.inl x)), (4, .inl y1), (5, .inl y2), (6, .inl y3), (7, .inl y4)], [], t101, n, 0) _
  refine ex_go (S := (10, [(0, gx_r 7), (1, gx_r 224), (2, .inr (.inl x)), (4, .inl y1), (5, .inl y2), (6, .inl y3), (7, .inl y4)], [gx_r 7], t101, n, 0)) rfl (fun _ => rfl) rfl ?_
  refine gxo_ref (a := 7) (c := 1) rfl s101.1 rfl rfl rfl rfl rfl ?_
  refine gxo_get (a := 1) rfl s101.1 rfl rfl s101.2.2.1 rfl ?_
  by_cases hc3 : f101 ≠ 0
  · refine gx_1t (c := .ne) rfl (by first | decide | omega) hc3 rfl ?_
    refine ex_ret (r := (none, t101, n, 0)) rfl (fun _ => rfl) ?_
    exact ⟨_, rfl, t101, a101, f101, rfl, s101, (fun c' i h => e101 c' i (by first | decide | omega)), y101, by omega, fun z => by omega⟩
  · refine gx_1f (c := .ne) rfl (by first | decide | omega) hc3 rfl ?_
    refine ex_go (S := (20, [(0, gx_r 7), (1, gx_r 224), (2, .inr (.inl x)), (4, .inl y1), (5, .inl y2), (6, .inl y3), (7, .inl y4)], [gx_r 224], t101, n, 0)) rfl (fun _ => rfl) rfl ?_
    refine ex_go (S := (21, [(0, gx_r 7), (1, gx_r 224), (2, .inr (.inl x)), (4, .inl y1), (5, .inl y2), (6, .inl y3), (7, .inl y4)], [.inr (.inl x), gx_r 224], t101, n, 0)) rfl (fun _ => rfl) rfl ?_
    refine ex_go (S := (23, [(0, gx_r 7), (1, gx_r 224), (2, .inr (.inl x)), (4, .inl y1), (5, .inl y2), (6, .inl y3), (7, .inl y4)], [.inl y1, .inr (.inl x), gx_r 224], t101, n, 0)) rfl (fun _ => rfl) rfl ?_
    refine ex_go (S := (25, [(0, gx_r 7), (1, gx_r 224), (2, .inr (.inl x)), (4, .inl y1), (5, .inl y2), (6, .inl y3), (7, .inl y4)], [.inl y2, .inl y1, .inr (.inl x), gx_r 224], t101, n, 0)) rfl (fun _ => rfl) rfl ?_
    refine ex_go (S := (27, [(0, gx_r 7), (1, gx_r 224), (2, .inr (.inl x)), (4, .inl y1), (5, .inl y2), (6, .inl y3), (7, .inl y4)], [.inl y3, .inl y2, .inl y1, .inr (.inl x), gx_r 224], t101, n, 0)) rfl (fun _ => rfl) rfl ?_
    refine ex_go (S := (29, [(0, gx_r 7), (1, gx_r 224), (2, .inr (.inl x)), (4, .inl y1), (5, .inl y2), (6, .inl y3), (7, .inl y4)], [.inl y4, .inl y3, .inl y2, .inl y1, .inr (.inl x), gx_r 224], t101, n, 0)) rfl (fun _ => rfl) rfl ?_
    obtain ⟨hra, hrb⟩ := hr (by first | decide | omega)
    obtain ⟨_, r104, t104, rfl, g104, e104, ka104, kb104, kc104, kd104, ke104, kf104⟩ := pc_add224 (d) n (x := x) (y1 := y1) (y2 := y2) (y3 := y3) (y4 := y4) s101.1 k2 (by first | decide | omega) (by first | decide | omega) (by first | decide | omega) (by first | decide | omega) (by first | decide | omega)
    refine gx_callo (a := 224) rfl rfl s101.1 rfl rfl rfl r104 rfl ?_
    have s104 : cS t104 a101 f101 := ⟨g104, (e104 1 8 (by first | decide | omega)).trans s101.2.1, (e104 1 1 (by first | decide | omega)).trans s101.2.2.1, s101.2.2.2⟩
    show en_ex _ _ _ _ (32, [(0, gx_r 7), (1, gx_r 224), (2, .inr (.inl x)), (4, .inl y1), (5, .inl y2), (6, .inl y3), (7, .inl y4)], [], t104, n, 0) _
    refine ex_ret (r := (none, t104, n, 0)) rfl (fun _ => rfl) ?_
    exact ⟨_, rfl, t104, a101, f101, rfl, s104, (fun c' i h => (e104 c' i (by first | decide | omega)).trans (e101 c' i (by first | decide | omega))), y101, by omega, fun _ => ⟨ka104, kb104, kc104, kd104, ke104, kf104⟩⟩
theorem pc_thingLine191 (d n : Nat) {t0 : en_H} {a : Nat} {S : Nat → Nat} {m N : Nat} {σ : Nat → Nat → Nat} (s0 : cS t0 a 0) (hT : cT t0 S m N) (ha : a < N) (hP : ai_hv t0 7 1 = some (gx_r 191)) (hA : CA t0 191 S m σ) (h3 : W3 S m N σ) : ∃ r, en_u (d + 4) 232 [gx_r 7] t0 n = some r ∧ ∃ t' a' f', r = (none, t', n, 0) ∧ cS t' a' f' ∧ cT t' S m N ∧ ai_hv t' 7 1 = some (gx_r 191) ∧ cW 191 t0 t' ∧ (a', f') = fs S m N 59 (sl_thing S m N σ a) ∧ a' ≤ N ∧ (f' = 0 → a < a' ∧ CA t' 191 S m (sn_thing S m N σ a)) := by
  have b0 := s0.2.2.2
  have hN := hT.2.2.2.2.2.2.1
  have hA0 := hA
  obtain ⟨⟨kk0, kk1, kk2, kk3, kk4, kk5, kk6, kk7, kk8, kk9, kk10, kk11⟩, hAt, hAl, hAc, hAg, hAs, hAo, gcb0, gcb1, gcb2, gcb3, gcb4, gcb5, gcb6, gcb7, gcb8, gcb9, gcb10, gcb11, gcb12, gcb13⟩ := hA0
  have kk0 : ai_hv t0 191 0 = some (.inl (σ 0 0)) := kk0
  have kk1 : ai_hv t0 191 1 = some (.inl (σ 1 0)) := kk1
  have kk2 : ai_hv t0 194 5 = some (.inl (σ 2 0)) := kk2
  have kk3 : ai_hv t0 200 5 = some (.inl (σ 3 0)) := kk3
  have kk4 : ai_hv t0 206 5 = some (.inl (σ 4 0)) := kk4
  have kk5 : ai_hv t0 212 5 = some (.inl (σ 5 0)) := kk5
  have kk6 : ai_hv t0 218 5 = some (.inl (σ 6 0)) := kk6
  have kk7 : ai_hv t0 224 5 = some (.inl (σ 7 0)) := kk7
  have hBB := h3.1.1
  refine en_u_ex (d := d + 3) rfl ?_
  show en_ex _ _ _ _ (0, [(0, gx_r 7)], [], t0, n, 0) _
  refine ex_go (S := (1, [(0, gx_r 7)], [gx_r 7], t0, n, 0)) rfl (fun _ => rfl) rfl ?_
  refine ex_go (S := (2, [(0, gx_r 7)], [gx_r 7, gx_r 7], t0, n, 0)) rfl (fun _ => rfl) rfl ?_
  refine gxo_get (a := 7) rfl s0.1 rfl rfl hP rfl ?_
  refine gxo_ref (a := 191) (c := 194) rfl s0.1 rfl rfl rfl rfl rfl ?_
  obtain ⟨_, r101, t101, a101, f101, rfl, s101, e101, y101, q101⟩ := pc_startRow194 (d + 1) n (s0) hT ha kk2 (by first | decide | omega)
  have b101 := s101.2.2.2
  refine gx_callo (a := 7) rfl rfl s0.1 rfl rfl rfl r101 rfl ?_
  have k2 : ai_hv t101 191 0 = some (.inl (σ 0 0)) := (e101 191 0 (by first | decide | omega)).trans kk0
  have k3 : ai_hv t101 191 1 = some (.inl (σ 1 0)) := (e101 191 1 (by first | decide | omega)).trans kk1
  have k4 : ai_hv t101 194 5 = some (.inl (σ 2 0)) := (e101 194 5 (by first | decide | omega)).trans kk2
  have k5 : ai_hv t101 200 5 = some (.inl (σ 3 0)) := (e101 200 5 (by first | decide | omega)).trans kk3
  have k6 : ai_hv t101 206 5 = some (.inl (σ 4 0)) := (e101 206 5 (by first | decide | omega)).trans kk4
  have k7 : ai_hv t101 212 5 = some (.inl (σ 5 0)) := (e101 212 5 (by first | decide | omega)).trans kk5
  have k8 : ai_hv t101 218 5 = some (.inl (σ 6 0)) := (e101 218 5 (by first | decide | omega)).trans kk6
  have k9 : ai_hv t101 224 5 = some (.inl (σ 7 0)) := (e101 224 5 (by first | decide | omega)).trans kk7
  have k10 : ai_hv t101 7 4 = some (.inl (σ 8 0)) := (e101 7 4 (by first | decide | omega)).trans kk8
  have k11 : ai_hv t101 7 5 = some (.inl (σ 9 0)) := (e101 7 5 (by first | decide | omega)).trans kk9
  have k12 : ai_hv t101 7 6 = some (.inl (σ 9 1)) := (e101 7 6 (by first | decide | omega)).trans kk10
  have k13 : ai_hv t101 7 7 = some (.inl (σ 9 2)) := (e101 7 7 (by first | decide | omega)).trans kk11
  have k14 : ai_hv t101 7 1 = some (gx_r 191) := (e101 7 1 (by first | decide | omega)).trans hP
  show en_ex _ _ _ _ (11, [(0, gx_r 7)], [], t101, n, 0) _
  refine ex_go (S := (12, [(0, gx_r 7)], [gx_r 7], t101, n, 0)) rfl (fun _ => rfl) rfl ?_
  have hA9 : CA t101 191 S m σ := CA_keep (by first | decide | omega) hA (fun c i h h2 => e101 c i (by first | decide | omega))
  have hT16 := cT_keep (t' := t101) hT (fun c i h => e101 c i (by first | decide | omega))
  obtain ⟨_, r115, v115, t115, a115, f115, rfl, s115, e115, z115, q115⟩ := pc_newName191 (d) n (s101) hT16 (by first | decide | omega) k14 hA9 h3
  have b115 := s115.2.2.2
  have y115 := z115.trans (congrArg (fm S m N (sg_told S m σ)) y101)
  refine gx_callo (a := 7) rfl rfl s101.1 rfl rfl rfl r115 rfl ?_
  have k17 : ai_hv t115 191 0 = some (.inl (σ 0 0)) := (e115 191 0 (by first | decide | omega)).trans k2
  have k18 : ai_hv t115 191 1 = some (.inl (σ 1 0)) := (e115 191 1 (by first | decide | omega)).trans k3
  have k19 : ai_hv t115 194 5 = some (.inl (σ 2 0)) := (e115 194 5 (by first | decide | omega)).trans k4
  have k20 : ai_hv t115 200 5 = some (.inl (σ 3 0)) := (e115 200 5 (by first | decide | omega)).trans k5
  have k21 : ai_hv t115 206 5 = some (.inl (σ 4 0)) := (e115 206 5 (by first | decide | omega)).trans k6
  have k22 : ai_hv t115 212 5 = some (.inl (σ 5 0)) := (e115 212 5 (by first | decide | omega)).trans k7
  have k23 : ai_hv t115 218 5 = some (.inl (σ 6 0)) := (e115 218 5 (by first | decide | omega)).trans k8
  have k24 : ai_hv t115 224 5 = some (.inl (σ 7 0)) := (e115 224 5 (by first | decide | omega)).trans k9
  have k25 : ai_hv t115 7 4 = some (.inl (σ 8 0)) := (e115 7 4 (by first | decide | omega)).trans k10
  have k26 : ai_hv t115 7 5 = some (.inl (σ 9 0)) := (e115 7 5 (by first | decide | omega)).trans k11
  have k27 : ai_hv t115 7 6 = some (.inl (σ 9 1)) := (e115 7 6 (by first | decide | omega)).trans k12
  have k28 : ai_hv t115 7 7 = some (.inl (σ 9 2)) := (e115 7 7 (by first | decide | omega)).trans k13
  have k29 : ai_hv t115 7 1 = some (gx_r 191) := (e115 7 1 (by first | decide | omega)).trans k14
  show en_ex _ _ _ _ (15, [(0, gx_r 7)], [.inr (.inl v115)], t115, n, 0) _
  refine ex_go (S := (16, [(1, .inr (.inl v115)), (0, gx_r 7)], [], t115, n, 0)) rfl (fun _ => rfl) rfl ?_
  refine ex_go (S := (17, [(1, .inr (.inl v115)), (0, gx_r 7)], [gx_r 7], t115, n, 0)) rfl (fun _ => rfl) rfl ?_
  refine gxo_ref (a := 7) (c := 1) rfl s115.1 rfl rfl rfl rfl rfl ?_
  refine ex_go (S := (21, [(1, .inr (.inl v115)), (0, gx_r 7)], [.inl 2, gx_r 1], t115, n, 0)) rfl (fun _ => rfl) rfl ?_
  have hT31 := cT_keep (t' := t115) hT (fun c i h => (e115 c i (by first | decide | omega)).trans (e101 c i (by first | decide | omega)))
  obtain ⟨_, r130, v130, t130, a130, f130, rfl, s130, e130, z130, q130⟩ := pc_takeRank2 (d + 1) n (s115) hT31 (by first | decide | omega) 
  have b130 := s130.2.2.2
  have y130 := z130.trans (congrArg (fo S m N 31 4) y115)
  refine gx_callo (a := 1) rfl rfl s115.1 rfl rfl rfl r130 rfl ?_
  have k32 : ai_hv t130 191 0 = some (.inl (σ 0 0)) := (e130 191 0 (by first | decide | omega)).trans k17
  have k33 : ai_hv t130 191 1 = some (.inl (σ 1 0)) := (e130 191 1 (by first | decide | omega)).trans k18
  have k34 : ai_hv t130 194 5 = some (.inl (σ 2 0)) := (e130 194 5 (by first | decide | omega)).trans k19
  have k35 : ai_hv t130 200 5 = some (.inl (σ 3 0)) := (e130 200 5 (by first | decide | omega)).trans k20
  have k36 : ai_hv t130 206 5 = some (.inl (σ 4 0)) := (e130 206 5 (by first | decide | omega)).trans k21
  have k37 : ai_hv t130 212 5 = some (.inl (σ 5 0)) := (e130 212 5 (by first | decide | omega)).trans k22
  have k38 : ai_hv t130 218 5 = some (.inl (σ 6 0)) := (e130 218 5 (by first | decide | omega)).trans k23
  have k39 : ai_hv t130 224 5 = some (.inl (σ 7 0)) := (e130 224 5 (by first | decide | omega)).trans k24
  have k40 : ai_hv t130 7 4 = some (.inl (σ 8 0)) := (e130 7 4 (by first | decide | omega)).trans k25
  have k41 : ai_hv t130 7 5 = some (.inl (σ 9 0)) := (e130 7 5 (by first | decide | omega)).trans k26
  have k42 : ai_hv t130 7 6 = some (.inl (σ 9 1)) := (e130 7 6 (by first | decide | omega)).trans k27
  have k43 : ai_hv t130 7 7 = some (.inl (σ 9 2)) := (e130 7 7 (by first | decide | omega)).trans k28
  have k44 : ai_hv t130 7 1 = some (gx_r 191) := (e130 7 1 (by first | decide | omega)).trans k29
  show en_ex _ _ _ _ (24, [(1, .inr (.inl v115)), (0, gx_r 7)], [.inl v130], t130, n, 0) _
  refine ex_go (S := (25, [(3, .inl v130), (1, .inr (.inl v115)), (0, gx_r 7)], [], t130, n, 0)) rfl (fun _ => rfl) rfl ?_
  refine ex_go (S := (26, [(3, .inl v130), (1, .inr (.inl v115)), (0, gx_r 7)], [gx_r 7], t130, n, 0)) rfl (fun _ => rfl) rfl ?_
  refine gxo_ref (a := 7) (c := 1) rfl s130.1 rfl rfl rfl rfl rfl ?_
  refine ex_go (S := (32, [(3, .inl v130), (1, .inr (.inl v115)), (0, gx_r 7)], [gx_w 3, gx_r 1], t130, n, 0)) rfl (fun _ => rfl) rfl ?_
  have hT46 := cT_keep (t' := t130) hT (fun c i h => (e130 c i (by first | decide | omega)).trans ((e115 c i (by first | decide | omega)).trans (e101 c i (by first | decide | omega))))
  obtain ⟨_, r145, t145, a145, f145, rfl, s145, e145, z145, q145⟩ := pc_takeWord (d + 1) n (s130) hT46 (by first | decide | omega) (w := 3) (by first | decide | omega)
  have b145 := s145.2.2.2
  have y145 := z145.trans (congrArg (fw S m N 3) y130)
  refine gx_callo (a := 1) rfl rfl s130.1 rfl rfl rfl r145 rfl ?_
  have k47 : ai_hv t145 191 0 = some (.inl (σ 0 0)) := (e145 191 0 (by first | decide | omega)).trans k32
  have k48 : ai_hv t145 191 1 = some (.inl (σ 1 0)) := (e145 191 1 (by first | decide | omega)).trans k33
  have k49 : ai_hv t145 194 5 = some (.inl (σ 2 0)) := (e145 194 5 (by first | decide | omega)).trans k34
  have k50 : ai_hv t145 200 5 = some (.inl (σ 3 0)) := (e145 200 5 (by first | decide | omega)).trans k35
  have k51 : ai_hv t145 206 5 = some (.inl (σ 4 0)) := (e145 206 5 (by first | decide | omega)).trans k36
  have k52 : ai_hv t145 212 5 = some (.inl (σ 5 0)) := (e145 212 5 (by first | decide | omega)).trans k37
  have k53 : ai_hv t145 218 5 = some (.inl (σ 6 0)) := (e145 218 5 (by first | decide | omega)).trans k38
  have k54 : ai_hv t145 224 5 = some (.inl (σ 7 0)) := (e145 224 5 (by first | decide | omega)).trans k39
  have k55 : ai_hv t145 7 4 = some (.inl (σ 8 0)) := (e145 7 4 (by first | decide | omega)).trans k40
  have k56 : ai_hv t145 7 5 = some (.inl (σ 9 0)) := (e145 7 5 (by first | decide | omega)).trans k41
  have k57 : ai_hv t145 7 6 = some (.inl (σ 9 1)) := (e145 7 6 (by first | decide | omega)).trans k42
  have k58 : ai_hv t145 7 7 = some (.inl (σ 9 2)) := (e145 7 7 (by first | decide | omega)).trans k43
  have k59 : ai_hv t145 7 1 = some (gx_r 191) := (e145 7 1 (by first | decide | omega)).trans k44
  show en_ex _ _ _ _ (35, [(3, .inl v130), (1, .inr (.inl v115)), (0, gx_r 7)], [], t145, n, 0) _
  refine ex_go (S := (36, [(3, .inl v130), (1, .inr (.inl v115)), (0, gx_r 7)], [gx_r 7], t145, n, 0)) rfl (fun _ => rfl) rfl ?_
  refine gxo_ref (a := 7) (c := 1) rfl s145.1 rfl rfl rfl rfl rfl ?_
  refine ex_go (S := (40, [(3, .inl v130), (1, .inr (.inl v115)), (0, gx_r 7)], [.inl 0, gx_r 1], t145, n, 0)) rfl (fun _ => rfl) rfl ?_
  refine ex_go (S := (41, [(3, .inl v130), (1, .inr (.inl v115)), (0, gx_r 7)], [gx_r 7, .inl 0, gx_r 1], t145, n, 0)) rfl (fun _ => rfl) rfl ?_
  refine gxo_get (a := 7) rfl s145.1 rfl rfl k59 rfl ?_
  refine gxo_get (a := 191) rfl s145.1 rfl rfl k47 rfl ?_
  refine ex_go (S := (48, [(3, .inl v130), (1, .inr (.inl v115)), (0, gx_r 7)], [.inl 1, .inl (σ 0 0), .inl 0, gx_r 1], t145, n, 0)) rfl (fun _ => rfl) rfl ?_
  refine gx_isub rfl (by first | decide | omega) (by first | decide | omega) rfl ?_
  have hT61 := cT_keep (t' := t145) hT (fun c i h => (e145 c i (by first | decide | omega)).trans ((e130 c i (by first | decide | omega)).trans ((e115 c i (by first | decide | omega)).trans (e101 c i (by first | decide | omega)))))
  obtain ⟨_, r160, v160, t160, a160, f160, rfl, s160, e160, z160, q160⟩ := pc_takeNumber (d + 1) n (s145) hT61 (by first | decide | omega) (lo := 0) (hi := (σ 0 0) - 1) (by first | decide | omega) (by first | decide | omega) (by first | decide | omega)
  have b160 := s160.2.2.2
  have y160 := z160.trans (congrArg (fn S m N 0 ((σ 0 0) - 1)) y145)
  refine gx_callo (a := 1) rfl rfl s145.1 rfl rfl rfl r160 rfl ?_
  have k62 : ai_hv t160 191 0 = some (.inl (σ 0 0)) := (e160 191 0 (by first | decide | omega)).trans k47
  have k63 : ai_hv t160 191 1 = some (.inl (σ 1 0)) := (e160 191 1 (by first | decide | omega)).trans k48
  have k64 : ai_hv t160 194 5 = some (.inl (σ 2 0)) := (e160 194 5 (by first | decide | omega)).trans k49
  have k65 : ai_hv t160 200 5 = some (.inl (σ 3 0)) := (e160 200 5 (by first | decide | omega)).trans k50
  have k66 : ai_hv t160 206 5 = some (.inl (σ 4 0)) := (e160 206 5 (by first | decide | omega)).trans k51
  have k67 : ai_hv t160 212 5 = some (.inl (σ 5 0)) := (e160 212 5 (by first | decide | omega)).trans k52
  have k68 : ai_hv t160 218 5 = some (.inl (σ 6 0)) := (e160 218 5 (by first | decide | omega)).trans k53
  have k69 : ai_hv t160 224 5 = some (.inl (σ 7 0)) := (e160 224 5 (by first | decide | omega)).trans k54
  have k70 : ai_hv t160 7 4 = some (.inl (σ 8 0)) := (e160 7 4 (by first | decide | omega)).trans k55
  have k71 : ai_hv t160 7 5 = some (.inl (σ 9 0)) := (e160 7 5 (by first | decide | omega)).trans k56
  have k72 : ai_hv t160 7 6 = some (.inl (σ 9 1)) := (e160 7 6 (by first | decide | omega)).trans k57
  have k73 : ai_hv t160 7 7 = some (.inl (σ 9 2)) := (e160 7 7 (by first | decide | omega)).trans k58
  have k74 : ai_hv t160 7 1 = some (gx_r 191) := (e160 7 1 (by first | decide | omega)).trans k59
  show en_ex _ _ _ _ (52, [(3, .inl v130), (1, .inr (.inl v115)), (0, gx_r 7)], [.inl v160], t160, n, 0) _
  refine ex_go (S := (54, [(4, .inl v160), (3, .inl v130), (1, .inr (.inl v115)), (0, gx_r 7)], [], t160, n, 0)) rfl (fun _ => rfl) rfl ?_
  refine ex_go (S := (55, [(4, .inl v160), (3, .inl v130), (1, .inr (.inl v115)), (0, gx_r 7)], [gx_r 7], t160, n, 0)) rfl (fun _ => rfl) rfl ?_
  refine gxo_ref (a := 7) (c := 1) rfl s160.1 rfl rfl rfl rfl rfl ?_
  refine ex_go (S := (59, [(4, .inl v160), (3, .inl v130), (1, .inr (.inl v115)), (0, gx_r 7)], [.inl 0, gx_r 1], t160, n, 0)) rfl (fun _ => rfl) rfl ?_
  refine ex_go (S := (60, [(4, .inl v160), (3, .inl v130), (1, .inr (.inl v115)), (0, gx_r 7)], [gx_r 7, .inl 0, gx_r 1], t160, n, 0)) rfl (fun _ => rfl) rfl ?_
  refine gxo_get (a := 7) rfl s160.1 rfl rfl k74 rfl ?_
  refine gxo_get (a := 191) rfl s160.1 rfl rfl k63 rfl ?_
  refine ex_go (S := (67, [(4, .inl v160), (3, .inl v130), (1, .inr (.inl v115)), (0, gx_r 7)], [.inl 1, .inl (σ 1 0), .inl 0, gx_r 1], t160, n, 0)) rfl (fun _ => rfl) rfl ?_
  refine gx_isub rfl (by first | decide | omega) (by first | decide | omega) rfl ?_
  have hT76 := cT_keep (t' := t160) hT (fun c i h => (e160 c i (by first | decide | omega)).trans ((e145 c i (by first | decide | omega)).trans ((e130 c i (by first | decide | omega)).trans ((e115 c i (by first | decide | omega)).trans (e101 c i (by first | decide | omega))))))
  obtain ⟨_, r175, v175, t175, a175, f175, rfl, s175, e175, z175, q175⟩ := pc_takeNumber (d + 1) n (s160) hT76 (by first | decide | omega) (lo := 0) (hi := (σ 1 0) - 1) (by first | decide | omega) (by first | decide | omega) (by first | decide | omega)
  have b175 := s175.2.2.2
  have y175 := z175.trans (congrArg (fn S m N 0 ((σ 1 0) - 1)) y160)
  refine gx_callo (a := 1) rfl rfl s160.1 rfl rfl rfl r175 rfl ?_
  have k77 : ai_hv t175 191 0 = some (.inl (σ 0 0)) := (e175 191 0 (by first | decide | omega)).trans k62
  have k78 : ai_hv t175 191 1 = some (.inl (σ 1 0)) := (e175 191 1 (by first | decide | omega)).trans k63
  have k79 : ai_hv t175 194 5 = some (.inl (σ 2 0)) := (e175 194 5 (by first | decide | omega)).trans k64
  have k80 : ai_hv t175 200 5 = some (.inl (σ 3 0)) := (e175 200 5 (by first | decide | omega)).trans k65
  have k81 : ai_hv t175 206 5 = some (.inl (σ 4 0)) := (e175 206 5 (by first | decide | omega)).trans k66
  have k82 : ai_hv t175 212 5 = some (.inl (σ 5 0)) := (e175 212 5 (by first | decide | omega)).trans k67
  have k83 : ai_hv t175 218 5 = some (.inl (σ 6 0)) := (e175 218 5 (by first | decide | omega)).trans k68
  have k84 : ai_hv t175 224 5 = some (.inl (σ 7 0)) := (e175 224 5 (by first | decide | omega)).trans k69
  have k85 : ai_hv t175 7 4 = some (.inl (σ 8 0)) := (e175 7 4 (by first | decide | omega)).trans k70
  have k86 : ai_hv t175 7 5 = some (.inl (σ 9 0)) := (e175 7 5 (by first | decide | omega)).trans k71
  have k87 : ai_hv t175 7 6 = some (.inl (σ 9 1)) := (e175 7 6 (by first | decide | omega)).trans k72
  have k88 : ai_hv t175 7 7 = some (.inl (σ 9 2)) := (e175 7 7 (by first | decide | omega)).trans k73
  have k89 : ai_hv t175 7 1 = some (gx_r 191) := (e175 7 1 (by first | decide | omega)).trans k74
  show en_ex _ _ _ _ (71, [(4, .inl v160), (3, .inl v130), (1, .inr (.inl v115)), (0, gx_r 7)], [.inl v175], t175, n, 0) _
  refine ex_go (S := (73, [(5, .inl v175), (4, .inl v160), (3, .inl v130), (1, .inr (.inl v115)), (0, gx_r 7)], [], t175, n, 0)) rfl (fun _ => rfl) rfl ?_
  refine ex_go (S := (74, [(5, .inl v175), (4, .inl v160), (3, .inl v130), (1, .inr (.inl v115)), (0, gx_r 7)], [gx_r 7], t175, n, 0)) rfl (fun _ => rfl) rfl ?_
  refine ex_go (S := (75, [(5, .inl v175), (4, .inl v160), (3, .inl v130), (1, .inr (.inl v115)), (0, gx_r 7)], [gx_r 7, gx_r 7], t175, n, 0)) rfl (fun _ => rfl) rfl ?_
  refine gxo_get (a := 7) rfl s175.1 rfl rfl k89 rfl ?_
  refine gxo_ref (a := 191) (c := 194) rfl s175.1 rfl rfl rfl rfl rfl ?_
  refine ex_go (S := (82, [(5, .inl v175), (4, .inl v160), (3, .inl v130), (1, .inr (.inl v115)), (0, gx_r 7)], [.inr (.inl v115), gx_r 194, gx_r 7], t175, n, 0)) rfl (fun _ => rfl) rfl ?_
  refine ex_go (S := (83, [(5, .inl v175), (4, .inl v160), (3, .inl v130), (1, .inr (.inl v115)), (0, gx_r 7)], [.inl v130, .inr (.inl v115), gx_r 194, gx_r 7], t175, n, 0)) rfl (fun _ => rfl) rfl ?_
  refine ex_go (S := (85, [(5, .inl v175), (4, .inl v160), (3, .inl v130), (1, .inr (.inl v115)), (0, gx_r 7)], [.inl v160, .inl v130, .inr (.inl v115), gx_r 194, gx_r 7], t175, n, 0)) rfl (fun _ => rfl) rfl ?_
  refine ex_go (S := (87, [(5, .inl v175), (4, .inl v160), (3, .inl v130), (1, .inr (.inl v115)), (0, gx_r 7)], [.inl v175, .inl v160, .inl v130, .inr (.inl v115), gx_r 194, gx_r 7], t175, n, 0)) rfl (fun _ => rfl) rfl ?_
  obtain ⟨_, r90, rfl⟩ := pc_placeOf (d + 2) n (t0 := t175) (x := v160) (y := v175) (by first | decide | omega) (by first | decide | omega)
  refine ex_stat rfl rfl rfl rfl rfl r90 (Nat.le_refl _) rfl ?_
  show en_ex _ _ _ _ (90, [(5, .inl v175), (4, .inl v160), (3, .inl v130), (1, .inr (.inl v115)), (0, gx_r 7)], [.inl (v160 + (8 * v175)), .inl v130, .inr (.inl v115), gx_r 194, gx_r 7], t175, n, 0) _
  refine ex_go (S := (91, [(5, .inl v175), (4, .inl v160), (3, .inl v130), (1, .inr (.inl v115)), (0, gx_r 7)], [.inl 0, .inl (v160 + (8 * v175)), .inl v130, .inr (.inl v115), gx_r 194, gx_r 7], t175, n, 0)) rfl (fun _ => rfl) rfl ?_
  refine ex_go (S := (92, [(5, .inl v175), (4, .inl v160), (3, .inl v130), (1, .inr (.inl v115)), (0, gx_r 7)], [.inl 0, .inl 0, .inl (v160 + (8 * v175)), .inl v130, .inr (.inl v115), gx_r 194, gx_r 7], t175, n, 0)) rfl (fun _ => rfl) rfl ?_
  have hT92 := cT_keep (t' := t175) hT (fun c i h => (e175 c i (by first | decide | omega)).trans ((e160 c i (by first | decide | omega)).trans ((e145 c i (by first | decide | omega)).trans ((e130 c i (by first | decide | omega)).trans ((e115 c i (by first | decide | omega)).trans (e101 c i (by first | decide | omega)))))))
  obtain ⟨_, r191, t191, a191, f191, rfl, s191, e191, z191, q191, u191⟩ := pc_endRow194 (d) n (s175) hT92 (by first | decide | omega) (x := v115) (y1 := v130) (y2 := v160 + (8 * v175)) (y3 := 0) (y4 := 0) k79 (fun h0 => by omega)
  have b191 := s191.2.2.2
  have y191 := z191.trans (congrArg (fs S m N 59) y175)
  refine gx_callo (a := 7) rfl rfl s175.1 rfl rfl rfl r191 rfl ?_
  have k93 : ai_hv t191 191 0 = some (.inl (σ 0 0)) := (e191 191 0 (by first | decide | omega)).trans k77
  have k94 : ai_hv t191 191 1 = some (.inl (σ 1 0)) := (e191 191 1 (by first | decide | omega)).trans k78
  have k95 : ai_hv t191 200 5 = some (.inl (σ 3 0)) := (e191 200 5 (by first | decide | omega)).trans k80
  have k96 : ai_hv t191 206 5 = some (.inl (σ 4 0)) := (e191 206 5 (by first | decide | omega)).trans k81
  have k97 : ai_hv t191 212 5 = some (.inl (σ 5 0)) := (e191 212 5 (by first | decide | omega)).trans k82
  have k98 : ai_hv t191 218 5 = some (.inl (σ 6 0)) := (e191 218 5 (by first | decide | omega)).trans k83
  have k99 : ai_hv t191 224 5 = some (.inl (σ 7 0)) := (e191 224 5 (by first | decide | omega)).trans k84
  have k100 : ai_hv t191 7 4 = some (.inl (σ 8 0)) := (e191 7 4 (by first | decide | omega)).trans k85
  have k101 : ai_hv t191 7 5 = some (.inl (σ 9 0)) := (e191 7 5 (by first | decide | omega)).trans k86
  have k102 : ai_hv t191 7 6 = some (.inl (σ 9 1)) := (e191 7 6 (by first | decide | omega)).trans k87
  have k103 : ai_hv t191 7 7 = some (.inl (σ 9 2)) := (e191 7 7 (by first | decide | omega)).trans k88
  have k104 : ai_hv t191 7 1 = some (gx_r 191) := (e191 7 1 (by first | decide | omega)).trans k89
  show en_ex _ _ _ _ (95, [(5, .inl v175), (4, .inl v160), (3, .inl v130), (1, .inr (.inl v115)), (0, gx_r 7)], [], t191, n, 0) _
  refine ex_ret (r := (none, t191, n, 0)) rfl (fun _ => rfl) ?_
  have hT105 := cT_keep (t' := t191) hT (fun c i h => (e191 c i (by first | decide | omega)).trans ((e175 c i (by first | decide | omega)).trans ((e160 c i (by first | decide | omega)).trans ((e145 c i (by first | decide | omega)).trans ((e130 c i (by first | decide | omega)).trans ((e115 c i (by first | decide | omega)).trans (e101 c i (by first | decide | omega))))))))
  refine ⟨_, rfl, t191, a191, f191, rfl, s191, hT105, k104, (fun c i h => (e191 c i (by first | decide | omega)).trans ((e175 c i (by first | decide | omega)).trans ((e160 c i (by first | decide | omega)).trans ((e145 c i (by first | decide | omega)).trans ((e130 c i (by first | decide | omega)).trans ((e115 c i (by first | decide | omega)).trans (e101 c i (by first | decide | omega)))))))), y191, by omega, fun h0 => ⟨by omega, ?_⟩⟩
  obtain ⟨u1, u2, u3, u4, u5, u6⟩ := u191 h0
  have hnw : v115 = sp_wv S m (a + 1) := by rw [← show a101 = a + 1 by omega]; omega
  rw [hnw] at u2
  have hki : sp_ki S m N (a + 2) = v130 := by
    obtain ⟨w1, w2⟩ := q130.2 (by first | decide | omega)
    rw [show a115 = a + 2 by omega] at w2
    exact sp_ki_eq w1 w2
  rw [← hki] at u3
  have hpl : v160 + (8 * v175) = sp_nv S m (a + 1 + 3) + 8 * sp_nv S m (a + 1 + 4) := by rw [← show a145 = a + 1 + 3 by omega, ← show a160 = a + 1 + 4 by omega]; omega
  rw [hpl] at u4
  have xc106 : ∀ i, i < σ 2 0 → ai_hv t191 197 i = some (.inl (sp_nv S m (σ 16 i + 3) + 8 * sp_nv S m (σ 16 i + 4))) := fun i hi => ((e191 197 i (by first | decide | omega)).trans ((e175 197 i (by first | decide | omega)).trans ((e160 197 i (by first | decide | omega)).trans ((e145 197 i (by first | decide | omega)).trans ((e130 197 i (by first | decide | omega)).trans ((e115 197 i (by first | decide | omega)).trans (e101 197 i (by first | decide | omega)))))))).trans (gcb0 i hi)
  have xc107 : ∀ i, i < σ 4 0 → ai_hv t191 207 i = some (.inr (.inl (sp_wv S m (σ 21 i + 1)))) := fun i hi => ((e191 207 i (by first | decide | omega)).trans ((e175 207 i (by first | decide | omega)).trans ((e160 207 i (by first | decide | omega)).trans ((e145 207 i (by first | decide | omega)).trans ((e130 207 i (by first | decide | omega)).trans ((e115 207 i (by first | decide | omega)).trans (e101 207 i (by first | decide | omega)))))))).trans (gcb1 i hi)
  have xc108 : ∀ i, i < σ 3 0 → ai_hv t191 203 i = some (.inl (sp_nv S m (σ 20 i + 4))) := fun i hi => ((e191 203 i (by first | decide | omega)).trans ((e175 203 i (by first | decide | omega)).trans ((e160 203 i (by first | decide | omega)).trans ((e145 203 i (by first | decide | omega)).trans ((e130 203 i (by first | decide | omega)).trans ((e115 203 i (by first | decide | omega)).trans (e101 203 i (by first | decide | omega)))))))).trans (gcb2 i hi)
  have xc109 : ∀ i, i < σ 3 0 → ai_hv t191 204 i = some (.inl (sp_nv S m (σ 20 i + 6))) := fun i hi => ((e191 204 i (by first | decide | omega)).trans ((e175 204 i (by first | decide | omega)).trans ((e160 204 i (by first | decide | omega)).trans ((e145 204 i (by first | decide | omega)).trans ((e130 204 i (by first | decide | omega)).trans ((e115 204 i (by first | decide | omega)).trans (e101 204 i (by first | decide | omega)))))))).trans (gcb3 i hi)
  have xc110 : ∀ i, i < σ 3 0 → ai_hv t191 205 i = some (.inl (sp_nv S m (σ 20 i + 8))) := fun i hi => ((e191 205 i (by first | decide | omega)).trans ((e175 205 i (by first | decide | omega)).trans ((e160 205 i (by first | decide | omega)).trans ((e145 205 i (by first | decide | omega)).trans ((e130 205 i (by first | decide | omega)).trans ((e115 205 i (by first | decide | omega)).trans (e101 205 i (by first | decide | omega)))))))).trans (gcb4 i hi)
  have xc111 : ∀ i, i < σ 4 0 → ai_hv t191 209 i = some (.inl (sp_nv S m (σ 21 i + 3))) := fun i hi => ((e191 209 i (by first | decide | omega)).trans ((e175 209 i (by first | decide | omega)).trans ((e160 209 i (by first | decide | omega)).trans ((e145 209 i (by first | decide | omega)).trans ((e130 209 i (by first | decide | omega)).trans ((e115 209 i (by first | decide | omega)).trans (e101 209 i (by first | decide | omega)))))))).trans (gcb5 i hi)
  have xc112 : ∀ i, i < σ 4 0 → ai_hv t191 210 i = some (.inl (sp_nv S m (σ 21 i + 5))) := fun i hi => ((e191 210 i (by first | decide | omega)).trans ((e175 210 i (by first | decide | omega)).trans ((e160 210 i (by first | decide | omega)).trans ((e145 210 i (by first | decide | omega)).trans ((e130 210 i (by first | decide | omega)).trans ((e115 210 i (by first | decide | omega)).trans (e101 210 i (by first | decide | omega)))))))).trans (gcb6 i hi)
  have xc113 : ∀ i, i < σ 5 0 → ai_hv t191 214 i = some (.inl (sp_nv S m (σ 17 i + 2))) := fun i hi => ((e191 214 i (by first | decide | omega)).trans ((e175 214 i (by first | decide | omega)).trans ((e160 214 i (by first | decide | omega)).trans ((e145 214 i (by first | decide | omega)).trans ((e130 214 i (by first | decide | omega)).trans ((e115 214 i (by first | decide | omega)).trans (e101 214 i (by first | decide | omega)))))))).trans (gcb7 i hi)
  have xc114 : ∀ i, i < σ 5 0 → ai_hv t191 215 i = some (.inl (sp_nv S m (σ 17 i + 4))) := fun i hi => ((e191 215 i (by first | decide | omega)).trans ((e175 215 i (by first | decide | omega)).trans ((e160 215 i (by first | decide | omega)).trans ((e145 215 i (by first | decide | omega)).trans ((e130 215 i (by first | decide | omega)).trans ((e115 215 i (by first | decide | omega)).trans (e101 215 i (by first | decide | omega)))))))).trans (gcb8 i hi)
  have xc115 : ∀ i, i < σ 6 0 → ai_hv t191 220 i = some (.inl (sp_nv S m (σ 18 i + 2))) := fun i hi => ((e191 220 i (by first | decide | omega)).trans ((e175 220 i (by first | decide | omega)).trans ((e160 220 i (by first | decide | omega)).trans ((e145 220 i (by first | decide | omega)).trans ((e130 220 i (by first | decide | omega)).trans ((e115 220 i (by first | decide | omega)).trans (e101 220 i (by first | decide | omega)))))))).trans (gcb9 i hi)
  have xc116 : ∀ i, i < σ 7 0 → ai_hv t191 226 i = some (.inl (sp_nv S m (σ 19 i + 2))) := fun i hi => ((e191 226 i (by first | decide | omega)).trans ((e175 226 i (by first | decide | omega)).trans ((e160 226 i (by first | decide | omega)).trans ((e145 226 i (by first | decide | omega)).trans ((e130 226 i (by first | decide | omega)).trans ((e115 226 i (by first | decide | omega)).trans (e101 226 i (by first | decide | omega)))))))).trans (gcb10 i hi)
  have xc117 : ∀ i, i < σ 7 0 → ai_hv t191 227 i = some (.inl (sp_nv S m (σ 19 i + 4))) := fun i hi => ((e191 227 i (by first | decide | omega)).trans ((e175 227 i (by first | decide | omega)).trans ((e160 227 i (by first | decide | omega)).trans ((e145 227 i (by first | decide | omega)).trans ((e130 227 i (by first | decide | omega)).trans ((e115 227 i (by first | decide | omega)).trans (e101 227 i (by first | decide | omega)))))))).trans (gcb11 i hi)
  have xc118 : ∀ j, j < 64 → ai_hv t191 192 j = some (.inl (σ 23 j)) := fun j hj => ((e191 192 j (by first | decide | omega)).trans ((e175 192 j (by first | decide | omega)).trans ((e160 192 j (by first | decide | omega)).trans ((e145 192 j (by first | decide | omega)).trans ((e130 192 j (by first | decide | omega)).trans ((e115 192 j (by first | decide | omega)).trans (e101 192 j (by first | decide | omega)))))))).trans (gcb13 j hj)
  exact ⟨⟨k93, k94, u1, k95, k96, k97, k98, k99, k100, k101, k102, k103⟩, (fun i hi => ⟨(cl_up (g := σ 16) (fun i hi => ((e191 195 i (by first | decide | omega)).trans ((e175 195 i (by first | decide | omega)).trans ((e160 195 i (by first | decide | omega)).trans ((e145 195 i (by first | decide | omega)).trans ((e130 195 i (by first | decide | omega)).trans ((e115 195 i (by first | decide | omega)).trans (e101 195 i (by first | decide | omega)))))))).trans (hAt i hi).1) u2) i hi, (ci_up (g := σ 10) (fun i hi => ((e191 196 i (by first | decide | omega)).trans ((e175 196 i (by first | decide | omega)).trans ((e160 196 i (by first | decide | omega)).trans ((e145 196 i (by first | decide | omega)).trans ((e130 196 i (by first | decide | omega)).trans ((e115 196 i (by first | decide | omega)).trans (e101 196 i (by first | decide | omega)))))))).trans (hAt i hi).2) u3) i hi⟩), (fun i hi => ((e191 202 i (by first | decide | omega)).trans ((e175 202 i (by first | decide | omega)).trans ((e160 202 i (by first | decide | omega)).trans ((e145 202 i (by first | decide | omega)).trans ((e130 202 i (by first | decide | omega)).trans ((e115 202 i (by first | decide | omega)).trans (e101 202 i (by first | decide | omega)))))))).trans (hAl i hi)), (fun i hi => ((e191 208 i (by first | decide | omega)).trans ((e175 208 i (by first | decide | omega)).trans ((e160 208 i (by first | decide | omega)).trans ((e145 208 i (by first | decide | omega)).trans ((e130 208 i (by first | decide | omega)).trans ((e115 208 i (by first | decide | omega)).trans (e101 208 i (by first | decide | omega)))))))).trans (hAc i hi)), (fun i hi => ((e191 213 i (by first | decide | omega)).trans ((e175 213 i (by first | decide | omega)).trans ((e160 213 i (by first | decide | omega)).trans ((e145 213 i (by first | decide | omega)).trans ((e130 213 i (by first | decide | omega)).trans ((e115 213 i (by first | decide | omega)).trans (e101 213 i (by first | decide | omega)))))))).trans (hAg i hi)), (fun i hi => ((e191 219 i (by first | decide | omega)).trans ((e175 219 i (by first | decide | omega)).trans ((e160 219 i (by first | decide | omega)).trans ((e145 219 i (by first | decide | omega)).trans ((e130 219 i (by first | decide | omega)).trans ((e115 219 i (by first | decide | omega)).trans (e101 219 i (by first | decide | omega)))))))).trans (hAs i hi)), (fun i hi => ((e191 225 i (by first | decide | omega)).trans ((e175 225 i (by first | decide | omega)).trans ((e160 225 i (by first | decide | omega)).trans ((e145 225 i (by first | decide | omega)).trans ((e130 225 i (by first | decide | omega)).trans ((e115 225 i (by first | decide | omega)).trans (e101 225 i (by first | decide | omega)))))))).trans (hAo i hi)), cp_up (g := σ 16) xc106 u4, xc107, xc108, xc109, xc110, xc111, xc112, xc113, xc114, xc115, xc116, xc117, ((e191 191 2 (by first | decide | omega)).trans ((e175 191 2 (by first | decide | omega)).trans ((e160 191 2 (by first | decide | omega)).trans ((e145 191 2 (by first | decide | omega)).trans ((e130 191 2 (by first | decide | omega)).trans ((e115 191 2 (by first | decide | omega)).trans (e101 191 2 (by first | decide | omega)))))))).trans gcb12, xc118⟩
theorem pc_gapLine191 (d n : Nat) {t0 : en_H} {a : Nat} {S : Nat → Nat} {m N : Nat} {σ : Nat → Nat → Nat} (s0 : cS t0 a 0) (hT : cT t0 S m N) (ha : a < N) (hP : ai_hv t0 7 1 = some (gx_r 191)) (hA : CA t0 191 S m σ) (h3 : W3 S m N σ) : ∃ r, en_u (d + 4) 236 [gx_r 7] t0 n = some r ∧ ∃ t' a' f', r = (none, t', n, 0) ∧ cS t' a' f' ∧ cT t' S m N ∧ ai_hv t' 7 1 = some (gx_r 191) ∧ cW 191 t0 t' ∧ (a', f') = fs S m N 59 (sl_gap S m N σ a) ∧ a' ≤ N ∧ (f' = 0 → a < a' ∧ CA t' 191 S m (sn_gap σ a)) := by
  have b0 := s0.2.2.2
  have hN := hT.2.2.2.2.2.2.1
  have hA0 := hA
  obtain ⟨⟨kk0, kk1, kk2, kk3, kk4, kk5, kk6, kk7, kk8, kk9, kk10, kk11⟩, hAt, hAl, hAc, hAg, hAs, hAo, gcb0, gcb1, gcb2, gcb3, gcb4, gcb5, gcb6, gcb7, gcb8, gcb9, gcb10, gcb11, gcb12, gcb13⟩ := hA0
  have kk0 : ai_hv t0 191 0 = some (.inl (σ 0 0)) := kk0
  have kk1 : ai_hv t0 191 1 = some (.inl (σ 1 0)) := kk1
  have kk2 : ai_hv t0 194 5 = some (.inl (σ 2 0)) := kk2
  have kk3 : ai_hv t0 200 5 = some (.inl (σ 3 0)) := kk3
  have kk4 : ai_hv t0 206 5 = some (.inl (σ 4 0)) := kk4
  have kk5 : ai_hv t0 212 5 = some (.inl (σ 5 0)) := kk5
  have kk6 : ai_hv t0 218 5 = some (.inl (σ 6 0)) := kk6
  have kk7 : ai_hv t0 224 5 = some (.inl (σ 7 0)) := kk7
  have hBB := h3.1.1
  refine en_u_ex (d := d + 3) rfl ?_
  show en_ex _ _ _ _ (0, [(0, gx_r 7)], [], t0, n, 0) _
  refine ex_go (S := (1, [(0, gx_r 7)], [gx_r 7], t0, n, 0)) rfl (fun _ => rfl) rfl ?_
  refine ex_go (S := (2, [(0, gx_r 7)], [gx_r 7, gx_r 7], t0, n, 0)) rfl (fun _ => rfl) rfl ?_
  refine gxo_get (a := 7) rfl s0.1 rfl rfl hP rfl ?_
  refine gxo_ref (a := 191) (c := 212) rfl s0.1 rfl rfl rfl rfl rfl ?_
  obtain ⟨_, r101, t101, a101, f101, rfl, s101, e101, y101, q101⟩ := pc_startRow212 (d + 1) n (s0) hT ha kk5 (by first | decide | omega)
  have b101 := s101.2.2.2
  refine gx_callo (a := 7) rfl rfl s0.1 rfl rfl rfl r101 rfl ?_
  have k2 : ai_hv t101 191 0 = some (.inl (σ 0 0)) := (e101 191 0 (by first | decide | omega)).trans kk0
  have k3 : ai_hv t101 191 1 = some (.inl (σ 1 0)) := (e101 191 1 (by first | decide | omega)).trans kk1
  have k4 : ai_hv t101 194 5 = some (.inl (σ 2 0)) := (e101 194 5 (by first | decide | omega)).trans kk2
  have k5 : ai_hv t101 200 5 = some (.inl (σ 3 0)) := (e101 200 5 (by first | decide | omega)).trans kk3
  have k6 : ai_hv t101 206 5 = some (.inl (σ 4 0)) := (e101 206 5 (by first | decide | omega)).trans kk4
  have k7 : ai_hv t101 212 5 = some (.inl (σ 5 0)) := (e101 212 5 (by first | decide | omega)).trans kk5
  have k8 : ai_hv t101 218 5 = some (.inl (σ 6 0)) := (e101 218 5 (by first | decide | omega)).trans kk6
  have k9 : ai_hv t101 224 5 = some (.inl (σ 7 0)) := (e101 224 5 (by first | decide | omega)).trans kk7
  have k10 : ai_hv t101 7 4 = some (.inl (σ 8 0)) := (e101 7 4 (by first | decide | omega)).trans kk8
  have k11 : ai_hv t101 7 5 = some (.inl (σ 9 0)) := (e101 7 5 (by first | decide | omega)).trans kk9
  have k12 : ai_hv t101 7 6 = some (.inl (σ 9 1)) := (e101 7 6 (by first | decide | omega)).trans kk10
  have k13 : ai_hv t101 7 7 = some (.inl (σ 9 2)) := (e101 7 7 (by first | decide | omega)).trans kk11
  have k14 : ai_hv t101 7 1 = some (gx_r 191) := (e101 7 1 (by first | decide | omega)).trans hP
  show en_ex _ _ _ _ (11, [(0, gx_r 7)], [], t101, n, 0) _
  refine ex_go (S := (12, [(0, gx_r 7)], [gx_r 7], t101, n, 0)) rfl (fun _ => rfl) rfl ?_
  have hA9 : CA t101 191 S m σ := CA_keep (by first | decide | omega) hA (fun c i h h2 => e101 c i (by first | decide | omega))
  have hT16 := cT_keep (t' := t101) hT (fun c i h => e101 c i (by first | decide | omega))
  obtain ⟨_, r115, v115, t115, a115, f115, rfl, s115, e115, z115, q115⟩ := pc_newName191 (d) n (s101) hT16 (by first | decide | omega) k14 hA9 h3
  have b115 := s115.2.2.2
  have y115 := z115.trans (congrArg (fm S m N (sg_told S m σ)) y101)
  refine gx_callo (a := 7) rfl rfl s101.1 rfl rfl rfl r115 rfl ?_
  have k17 : ai_hv t115 191 0 = some (.inl (σ 0 0)) := (e115 191 0 (by first | decide | omega)).trans k2
  have k18 : ai_hv t115 191 1 = some (.inl (σ 1 0)) := (e115 191 1 (by first | decide | omega)).trans k3
  have k19 : ai_hv t115 194 5 = some (.inl (σ 2 0)) := (e115 194 5 (by first | decide | omega)).trans k4
  have k20 : ai_hv t115 200 5 = some (.inl (σ 3 0)) := (e115 200 5 (by first | decide | omega)).trans k5
  have k21 : ai_hv t115 206 5 = some (.inl (σ 4 0)) := (e115 206 5 (by first | decide | omega)).trans k6
  have k22 : ai_hv t115 212 5 = some (.inl (σ 5 0)) := (e115 212 5 (by first | decide | omega)).trans k7
  have k23 : ai_hv t115 218 5 = some (.inl (σ 6 0)) := (e115 218 5 (by first | decide | omega)).trans k8
  have k24 : ai_hv t115 224 5 = some (.inl (σ 7 0)) := (e115 224 5 (by first | decide | omega)).trans k9
  have k25 : ai_hv t115 7 4 = some (.inl (σ 8 0)) := (e115 7 4 (by first | decide | omega)).trans k10
  have k26 : ai_hv t115 7 5 = some (.inl (σ 9 0)) := (e115 7 5 (by first | decide | omega)).trans k11
  have k27 : ai_hv t115 7 6 = some (.inl (σ 9 1)) := (e115 7 6 (by first | decide | omega)).trans k12
  have k28 : ai_hv t115 7 7 = some (.inl (σ 9 2)) := (e115 7 7 (by first | decide | omega)).trans k13
  have k29 : ai_hv t115 7 1 = some (gx_r 191) := (e115 7 1 (by first | decide | omega)).trans k14
  show en_ex _ _ _ _ (15, [(0, gx_r 7)], [.inr (.inl v115)], t115, n, 0) _
  refine ex_go (S := (16, [(1, .inr (.inl v115)), (0, gx_r 7)], [], t115, n, 0)) rfl (fun _ => rfl) rfl ?_
  refine ex_go (S := (17, [(1, .inr (.inl v115)), (0, gx_r 7)], [gx_r 7], t115, n, 0)) rfl (fun _ => rfl) rfl ?_
  refine gxo_ref (a := 7) (c := 1) rfl s115.1 rfl rfl rfl rfl rfl ?_
  refine ex_go (S := (23, [(1, .inr (.inl v115)), (0, gx_r 7)], [gx_w 13, gx_r 1], t115, n, 0)) rfl (fun _ => rfl) rfl ?_
  have hT31 := cT_keep (t' := t115) hT (fun c i h => (e115 c i (by first | decide | omega)).trans (e101 c i (by first | decide | omega)))
  obtain ⟨_, r130, t130, a130, f130, rfl, s130, e130, z130, q130⟩ := pc_takeWord (d + 1) n (s115) hT31 (by first | decide | omega) (w := 13) (by first | decide | omega)
  have b130 := s130.2.2.2
  have y130 := z130.trans (congrArg (fw S m N 13) y115)
  refine gx_callo (a := 1) rfl rfl s115.1 rfl rfl rfl r130 rfl ?_
  have k32 : ai_hv t130 191 0 = some (.inl (σ 0 0)) := (e130 191 0 (by first | decide | omega)).trans k17
  have k33 : ai_hv t130 191 1 = some (.inl (σ 1 0)) := (e130 191 1 (by first | decide | omega)).trans k18
  have k34 : ai_hv t130 194 5 = some (.inl (σ 2 0)) := (e130 194 5 (by first | decide | omega)).trans k19
  have k35 : ai_hv t130 200 5 = some (.inl (σ 3 0)) := (e130 200 5 (by first | decide | omega)).trans k20
  have k36 : ai_hv t130 206 5 = some (.inl (σ 4 0)) := (e130 206 5 (by first | decide | omega)).trans k21
  have k37 : ai_hv t130 212 5 = some (.inl (σ 5 0)) := (e130 212 5 (by first | decide | omega)).trans k22
  have k38 : ai_hv t130 218 5 = some (.inl (σ 6 0)) := (e130 218 5 (by first | decide | omega)).trans k23
  have k39 : ai_hv t130 224 5 = some (.inl (σ 7 0)) := (e130 224 5 (by first | decide | omega)).trans k24
  have k40 : ai_hv t130 7 4 = some (.inl (σ 8 0)) := (e130 7 4 (by first | decide | omega)).trans k25
  have k41 : ai_hv t130 7 5 = some (.inl (σ 9 0)) := (e130 7 5 (by first | decide | omega)).trans k26
  have k42 : ai_hv t130 7 6 = some (.inl (σ 9 1)) := (e130 7 6 (by first | decide | omega)).trans k27
  have k43 : ai_hv t130 7 7 = some (.inl (σ 9 2)) := (e130 7 7 (by first | decide | omega)).trans k28
  have k44 : ai_hv t130 7 1 = some (gx_r 191) := (e130 7 1 (by first | decide | omega)).trans k29
  show en_ex _ _ _ _ (26, [(1, .inr (.inl v115)), (0, gx_r 7)], [], t130, n, 0) _
  refine ex_go (S := (27, [(1, .inr (.inl v115)), (0, gx_r 7)], [gx_r 7], t130, n, 0)) rfl (fun _ => rfl) rfl ?_
  refine gxo_ref (a := 7) (c := 1) rfl s130.1 rfl rfl rfl rfl rfl ?_
  refine ex_go (S := (31, [(1, .inr (.inl v115)), (0, gx_r 7)], [.inl 0, gx_r 1], t130, n, 0)) rfl (fun _ => rfl) rfl ?_
  refine ex_go (S := (33, [(1, .inr (.inl v115)), (0, gx_r 7)], [.inl 10, .inl 0, gx_r 1], t130, n, 0)) rfl (fun _ => rfl) rfl ?_
  have hT46 := cT_keep (t' := t130) hT (fun c i h => (e130 c i (by first | decide | omega)).trans ((e115 c i (by first | decide | omega)).trans (e101 c i (by first | decide | omega))))
  obtain ⟨_, r145, v145, t145, a145, f145, rfl, s145, e145, z145, q145⟩ := pc_takeNumber (d + 1) n (s130) hT46 (by first | decide | omega) (lo := 0) (hi := 10) (by first | decide | omega) (by first | decide | omega) (by first | decide | omega)
  have b145 := s145.2.2.2
  have y145 := z145.trans (congrArg (fn S m N 0 10) y130)
  refine gx_callo (a := 1) rfl rfl s130.1 rfl rfl rfl r145 rfl ?_
  have k47 : ai_hv t145 191 0 = some (.inl (σ 0 0)) := (e145 191 0 (by first | decide | omega)).trans k32
  have k48 : ai_hv t145 191 1 = some (.inl (σ 1 0)) := (e145 191 1 (by first | decide | omega)).trans k33
  have k49 : ai_hv t145 194 5 = some (.inl (σ 2 0)) := (e145 194 5 (by first | decide | omega)).trans k34
  have k50 : ai_hv t145 200 5 = some (.inl (σ 3 0)) := (e145 200 5 (by first | decide | omega)).trans k35
  have k51 : ai_hv t145 206 5 = some (.inl (σ 4 0)) := (e145 206 5 (by first | decide | omega)).trans k36
  have k52 : ai_hv t145 212 5 = some (.inl (σ 5 0)) := (e145 212 5 (by first | decide | omega)).trans k37
  have k53 : ai_hv t145 218 5 = some (.inl (σ 6 0)) := (e145 218 5 (by first | decide | omega)).trans k38
  have k54 : ai_hv t145 224 5 = some (.inl (σ 7 0)) := (e145 224 5 (by first | decide | omega)).trans k39
  have k55 : ai_hv t145 7 4 = some (.inl (σ 8 0)) := (e145 7 4 (by first | decide | omega)).trans k40
  have k56 : ai_hv t145 7 5 = some (.inl (σ 9 0)) := (e145 7 5 (by first | decide | omega)).trans k41
  have k57 : ai_hv t145 7 6 = some (.inl (σ 9 1)) := (e145 7 6 (by first | decide | omega)).trans k42
  have k58 : ai_hv t145 7 7 = some (.inl (σ 9 2)) := (e145 7 7 (by first | decide | omega)).trans k43
  have k59 : ai_hv t145 7 1 = some (gx_r 191) := (e145 7 1 (by first | decide | omega)).trans k44
  show en_ex _ _ _ _ (36, [(1, .inr (.inl v115)), (0, gx_r 7)], [.inl v145], t145, n, 0) _
  refine ex_go (S := (37, [(3, .inl v145), (1, .inr (.inl v115)), (0, gx_r 7)], [], t145, n, 0)) rfl (fun _ => rfl) rfl ?_
  refine ex_go (S := (38, [(3, .inl v145), (1, .inr (.inl v115)), (0, gx_r 7)], [gx_r 7], t145, n, 0)) rfl (fun _ => rfl) rfl ?_
  refine gxo_ref (a := 7) (c := 1) rfl s145.1 rfl rfl rfl rfl rfl ?_
  refine ex_go (S := (44, [(3, .inl v145), (1, .inr (.inl v115)), (0, gx_r 7)], [gx_w 14, gx_r 1], t145, n, 0)) rfl (fun _ => rfl) rfl ?_
  have hT61 := cT_keep (t' := t145) hT (fun c i h => (e145 c i (by first | decide | omega)).trans ((e130 c i (by first | decide | omega)).trans ((e115 c i (by first | decide | omega)).trans (e101 c i (by first | decide | omega)))))
  obtain ⟨_, r160, t160, a160, f160, rfl, s160, e160, z160, q160⟩ := pc_takeWord (d + 1) n (s145) hT61 (by first | decide | omega) (w := 14) (by first | decide | omega)
  have b160 := s160.2.2.2
  have y160 := z160.trans (congrArg (fw S m N 14) y145)
  refine gx_callo (a := 1) rfl rfl s145.1 rfl rfl rfl r160 rfl ?_
  have k62 : ai_hv t160 191 0 = some (.inl (σ 0 0)) := (e160 191 0 (by first | decide | omega)).trans k47
  have k63 : ai_hv t160 191 1 = some (.inl (σ 1 0)) := (e160 191 1 (by first | decide | omega)).trans k48
  have k64 : ai_hv t160 194 5 = some (.inl (σ 2 0)) := (e160 194 5 (by first | decide | omega)).trans k49
  have k65 : ai_hv t160 200 5 = some (.inl (σ 3 0)) := (e160 200 5 (by first | decide | omega)).trans k50
  have k66 : ai_hv t160 206 5 = some (.inl (σ 4 0)) := (e160 206 5 (by first | decide | omega)).trans k51
  have k67 : ai_hv t160 212 5 = some (.inl (σ 5 0)) := (e160 212 5 (by first | decide | omega)).trans k52
  have k68 : ai_hv t160 218 5 = some (.inl (σ 6 0)) := (e160 218 5 (by first | decide | omega)).trans k53
  have k69 : ai_hv t160 224 5 = some (.inl (σ 7 0)) := (e160 224 5 (by first | decide | omega)).trans k54
  have k70 : ai_hv t160 7 4 = some (.inl (σ 8 0)) := (e160 7 4 (by first | decide | omega)).trans k55
  have k71 : ai_hv t160 7 5 = some (.inl (σ 9 0)) := (e160 7 5 (by first | decide | omega)).trans k56
  have k72 : ai_hv t160 7 6 = some (.inl (σ 9 1)) := (e160 7 6 (by first | decide | omega)).trans k57
  have k73 : ai_hv t160 7 7 = some (.inl (σ 9 2)) := (e160 7 7 (by first | decide | omega)).trans k58
  have k74 : ai_hv t160 7 1 = some (gx_r 191) := (e160 7 1 (by first | decide | omega)).trans k59
  show en_ex _ _ _ _ (47, [(3, .inl v145), (1, .inr (.inl v115)), (0, gx_r 7)], [], t160, n, 0) _
  refine ex_go (S := (48, [(3, .inl v145), (1, .inr (.inl v115)), (0, gx_r 7)], [gx_r 7], t160, n, 0)) rfl (fun _ => rfl) rfl ?_
  refine gxo_ref (a := 7) (c := 1) rfl s160.1 rfl rfl rfl rfl rfl ?_
  refine ex_go (S := (52, [(3, .inl v145), (1, .inr (.inl v115)), (0, gx_r 7)], [.inl 0, gx_r 1], t160, n, 0)) rfl (fun _ => rfl) rfl ?_
  refine ex_go (S := (54, [(3, .inl v145), (1, .inr (.inl v115)), (0, gx_r 7)], [.inl 10, .inl 0, gx_r 1], t160, n, 0)) rfl (fun _ => rfl) rfl ?_
  have hT76 := cT_keep (t' := t160) hT (fun c i h => (e160 c i (by first | decide | omega)).trans ((e145 c i (by first | decide | omega)).trans ((e130 c i (by first | decide | omega)).trans ((e115 c i (by first | decide | omega)).trans (e101 c i (by first | decide | omega))))))
  obtain ⟨_, r175, v175, t175, a175, f175, rfl, s175, e175, z175, q175⟩ := pc_takeNumber (d + 1) n (s160) hT76 (by first | decide | omega) (lo := 0) (hi := 10) (by first | decide | omega) (by first | decide | omega) (by first | decide | omega)
  have b175 := s175.2.2.2
  have y175 := z175.trans (congrArg (fn S m N 0 10) y160)
  refine gx_callo (a := 1) rfl rfl s160.1 rfl rfl rfl r175 rfl ?_
  have k77 : ai_hv t175 191 0 = some (.inl (σ 0 0)) := (e175 191 0 (by first | decide | omega)).trans k62
  have k78 : ai_hv t175 191 1 = some (.inl (σ 1 0)) := (e175 191 1 (by first | decide | omega)).trans k63
  have k79 : ai_hv t175 194 5 = some (.inl (σ 2 0)) := (e175 194 5 (by first | decide | omega)).trans k64
  have k80 : ai_hv t175 200 5 = some (.inl (σ 3 0)) := (e175 200 5 (by first | decide | omega)).trans k65
  have k81 : ai_hv t175 206 5 = some (.inl (σ 4 0)) := (e175 206 5 (by first | decide | omega)).trans k66
  have k82 : ai_hv t175 212 5 = some (.inl (σ 5 0)) := (e175 212 5 (by first | decide | omega)).trans k67
  have k83 : ai_hv t175 218 5 = some (.inl (σ 6 0)) := (e175 218 5 (by first | decide | omega)).trans k68
  have k84 : ai_hv t175 224 5 = some (.inl (σ 7 0)) := (e175 224 5 (by first | decide | omega)).trans k69
  have k85 : ai_hv t175 7 4 = some (.inl (σ 8 0)) := (e175 7 4 (by first | decide | omega)).trans k70
  have k86 : ai_hv t175 7 5 = some (.inl (σ 9 0)) := (e175 7 5 (by first | decide | omega)).trans k71
  have k87 : ai_hv t175 7 6 = some (.inl (σ 9 1)) := (e175 7 6 (by first | decide | omega)).trans k72
  have k88 : ai_hv t175 7 7 = some (.inl (σ 9 2)) := (e175 7 7 (by first | decide | omega)).trans k73
  have k89 : ai_hv t175 7 1 = some (gx_r 191) := (e175 7 1 (by first | decide | omega)).trans k74
  show en_ex _ _ _ _ (57, [(3, .inl v145), (1, .inr (.inl v115)), (0, gx_r 7)], [.inl v175], t175, n, 0) _
  refine ex_go (S := (59, [(4, .inl v175), (3, .inl v145), (1, .inr (.inl v115)), (0, gx_r 7)], [], t175, n, 0)) rfl (fun _ => rfl) rfl ?_
  refine ex_go (S := (60, [(4, .inl v175), (3, .inl v145), (1, .inr (.inl v115)), (0, gx_r 7)], [gx_r 7], t175, n, 0)) rfl (fun _ => rfl) rfl ?_
  refine ex_go (S := (61, [(4, .inl v175), (3, .inl v145), (1, .inr (.inl v115)), (0, gx_r 7)], [gx_r 7, gx_r 7], t175, n, 0)) rfl (fun _ => rfl) rfl ?_
  refine gxo_get (a := 7) rfl s175.1 rfl rfl k89 rfl ?_
  refine gxo_ref (a := 191) (c := 212) rfl s175.1 rfl rfl rfl rfl rfl ?_
  refine ex_go (S := (68, [(4, .inl v175), (3, .inl v145), (1, .inr (.inl v115)), (0, gx_r 7)], [.inr (.inl v115), gx_r 212, gx_r 7], t175, n, 0)) rfl (fun _ => rfl) rfl ?_
  refine ex_go (S := (69, [(4, .inl v175), (3, .inl v145), (1, .inr (.inl v115)), (0, gx_r 7)], [.inl v145, .inr (.inl v115), gx_r 212, gx_r 7], t175, n, 0)) rfl (fun _ => rfl) rfl ?_
  refine ex_go (S := (71, [(4, .inl v175), (3, .inl v145), (1, .inr (.inl v115)), (0, gx_r 7)], [.inl v175, .inl v145, .inr (.inl v115), gx_r 212, gx_r 7], t175, n, 0)) rfl (fun _ => rfl) rfl ?_
  refine ex_go (S := (72, [(4, .inl v175), (3, .inl v145), (1, .inr (.inl v115)), (0, gx_r 7)], [.inl 0, .inl v175, .inl v145, .inr (.inl v115), gx_r 212, gx_r 7], t175, n, 0)) rfl (fun _ => rfl) rfl ?_
  refine ex_go (S := (73, [(4, .inl v175), (3, .inl v145), (1, .inr (.inl v115)), (0, gx_r 7)], [.inl 0, .inl 0, .inl v175, .inl v145, .inr (.inl v115), gx_r 212, gx_r 7], t175, n, 0)) rfl (fun _ => rfl) rfl ?_
  have hT91 := cT_keep (t' := t175) hT (fun c i h => (e175 c i (by first | decide | omega)).trans ((e160 c i (by first | decide | omega)).trans ((e145 c i (by first | decide | omega)).trans ((e130 c i (by first | decide | omega)).trans ((e115 c i (by first | decide | omega)).trans (e101 c i (by first | decide | omega)))))))
  obtain ⟨_, r190, t190, a190, f190, rfl, s190, e190, z190, q190, u190⟩ := pc_endRow212 (d) n (s175) hT91 (by first | decide | omega) (x := v115) (y1 := v145) (y2 := v175) (y3 := 0) (y4 := 0) k82 (fun h0 => by omega)
  have b190 := s190.2.2.2
  have y190 := z190.trans (congrArg (fs S m N 59) y175)
  refine gx_callo (a := 7) rfl rfl s175.1 rfl rfl rfl r190 rfl ?_
  have k92 : ai_hv t190 191 0 = some (.inl (σ 0 0)) := (e190 191 0 (by first | decide | omega)).trans k77
  have k93 : ai_hv t190 191 1 = some (.inl (σ 1 0)) := (e190 191 1 (by first | decide | omega)).trans k78
  have k94 : ai_hv t190 194 5 = some (.inl (σ 2 0)) := (e190 194 5 (by first | decide | omega)).trans k79
  have k95 : ai_hv t190 200 5 = some (.inl (σ 3 0)) := (e190 200 5 (by first | decide | omega)).trans k80
  have k96 : ai_hv t190 206 5 = some (.inl (σ 4 0)) := (e190 206 5 (by first | decide | omega)).trans k81
  have k97 : ai_hv t190 218 5 = some (.inl (σ 6 0)) := (e190 218 5 (by first | decide | omega)).trans k83
  have k98 : ai_hv t190 224 5 = some (.inl (σ 7 0)) := (e190 224 5 (by first | decide | omega)).trans k84
  have k99 : ai_hv t190 7 4 = some (.inl (σ 8 0)) := (e190 7 4 (by first | decide | omega)).trans k85
  have k100 : ai_hv t190 7 5 = some (.inl (σ 9 0)) := (e190 7 5 (by first | decide | omega)).trans k86
  have k101 : ai_hv t190 7 6 = some (.inl (σ 9 1)) := (e190 7 6 (by first | decide | omega)).trans k87
  have k102 : ai_hv t190 7 7 = some (.inl (σ 9 2)) := (e190 7 7 (by first | decide | omega)).trans k88
  have k103 : ai_hv t190 7 1 = some (gx_r 191) := (e190 7 1 (by first | decide | omega)).trans k89
  show en_ex _ _ _ _ (76, [(4, .inl v175), (3, .inl v145), (1, .inr (.inl v115)), (0, gx_r 7)], [], t190, n, 0) _
  refine ex_ret (r := (none, t190, n, 0)) rfl (fun _ => rfl) ?_
  have hT104 := cT_keep (t' := t190) hT (fun c i h => (e190 c i (by first | decide | omega)).trans ((e175 c i (by first | decide | omega)).trans ((e160 c i (by first | decide | omega)).trans ((e145 c i (by first | decide | omega)).trans ((e130 c i (by first | decide | omega)).trans ((e115 c i (by first | decide | omega)).trans (e101 c i (by first | decide | omega))))))))
  refine ⟨_, rfl, t190, a190, f190, rfl, s190, hT104, k103, (fun c i h => (e190 c i (by first | decide | omega)).trans ((e175 c i (by first | decide | omega)).trans ((e160 c i (by first | decide | omega)).trans ((e145 c i (by first | decide | omega)).trans ((e130 c i (by first | decide | omega)).trans ((e115 c i (by first | decide | omega)).trans (e101 c i (by first | decide | omega)))))))), y190, by omega, fun h0 => ⟨by omega, ?_⟩⟩
  obtain ⟨u1, u2, u3, u4, u5, u6⟩ := u190 h0
  have hnw : v115 = sp_wv S m (a + 1) := by rw [← show a101 = a + 1 by omega]; omega
  rw [hnw] at u2
  have hq105 : v145 = sp_nv S m (a + 1 + 2) := by rw [← show a130 = a + 1 + 2 by omega]; omega
  rw [hq105] at u3
  have hq106 : v175 = sp_nv S m (a + 1 + 4) := by rw [← show a160 = a + 1 + 4 by omega]; omega
  rw [hq106] at u4
  have xc107 : ∀ i, i < σ 2 0 → ai_hv t190 197 i = some (.inl (sp_nv S m (σ 16 i + 3) + 8 * sp_nv S m (σ 16 i + 4))) := fun i hi => ((e190 197 i (by first | decide | omega)).trans ((e175 197 i (by first | decide | omega)).trans ((e160 197 i (by first | decide | omega)).trans ((e145 197 i (by first | decide | omega)).trans ((e130 197 i (by first | decide | omega)).trans ((e115 197 i (by first | decide | omega)).trans (e101 197 i (by first | decide | omega)))))))).trans (gcb0 i hi)
  have xc108 : ∀ i, i < σ 4 0 → ai_hv t190 207 i = some (.inr (.inl (sp_wv S m (σ 21 i + 1)))) := fun i hi => ((e190 207 i (by first | decide | omega)).trans ((e175 207 i (by first | decide | omega)).trans ((e160 207 i (by first | decide | omega)).trans ((e145 207 i (by first | decide | omega)).trans ((e130 207 i (by first | decide | omega)).trans ((e115 207 i (by first | decide | omega)).trans (e101 207 i (by first | decide | omega)))))))).trans (gcb1 i hi)
  have xc109 : ∀ i, i < σ 3 0 → ai_hv t190 203 i = some (.inl (sp_nv S m (σ 20 i + 4))) := fun i hi => ((e190 203 i (by first | decide | omega)).trans ((e175 203 i (by first | decide | omega)).trans ((e160 203 i (by first | decide | omega)).trans ((e145 203 i (by first | decide | omega)).trans ((e130 203 i (by first | decide | omega)).trans ((e115 203 i (by first | decide | omega)).trans (e101 203 i (by first | decide | omega)))))))).trans (gcb2 i hi)
  have xc110 : ∀ i, i < σ 3 0 → ai_hv t190 204 i = some (.inl (sp_nv S m (σ 20 i + 6))) := fun i hi => ((e190 204 i (by first | decide | omega)).trans ((e175 204 i (by first | decide | omega)).trans ((e160 204 i (by first | decide | omega)).trans ((e145 204 i (by first | decide | omega)).trans ((e130 204 i (by first | decide | omega)).trans ((e115 204 i (by first | decide | omega)).trans (e101 204 i (by first | decide | omega)))))))).trans (gcb3 i hi)
  have xc111 : ∀ i, i < σ 3 0 → ai_hv t190 205 i = some (.inl (sp_nv S m (σ 20 i + 8))) := fun i hi => ((e190 205 i (by first | decide | omega)).trans ((e175 205 i (by first | decide | omega)).trans ((e160 205 i (by first | decide | omega)).trans ((e145 205 i (by first | decide | omega)).trans ((e130 205 i (by first | decide | omega)).trans ((e115 205 i (by first | decide | omega)).trans (e101 205 i (by first | decide | omega)))))))).trans (gcb4 i hi)
  have xc112 : ∀ i, i < σ 4 0 → ai_hv t190 209 i = some (.inl (sp_nv S m (σ 21 i + 3))) := fun i hi => ((e190 209 i (by first | decide | omega)).trans ((e175 209 i (by first | decide | omega)).trans ((e160 209 i (by first | decide | omega)).trans ((e145 209 i (by first | decide | omega)).trans ((e130 209 i (by first | decide | omega)).trans ((e115 209 i (by first | decide | omega)).trans (e101 209 i (by first | decide | omega)))))))).trans (gcb5 i hi)
  have xc113 : ∀ i, i < σ 4 0 → ai_hv t190 210 i = some (.inl (sp_nv S m (σ 21 i + 5))) := fun i hi => ((e190 210 i (by first | decide | omega)).trans ((e175 210 i (by first | decide | omega)).trans ((e160 210 i (by first | decide | omega)).trans ((e145 210 i (by first | decide | omega)).trans ((e130 210 i (by first | decide | omega)).trans ((e115 210 i (by first | decide | omega)).trans (e101 210 i (by first | decide | omega)))))))).trans (gcb6 i hi)
  have xc114 : ∀ i, i < σ 5 0 → ai_hv t190 214 i = some (.inl (sp_nv S m (σ 17 i + 2))) := fun i hi => ((e190 214 i (by first | decide | omega)).trans ((e175 214 i (by first | decide | omega)).trans ((e160 214 i (by first | decide | omega)).trans ((e145 214 i (by first | decide | omega)).trans ((e130 214 i (by first | decide | omega)).trans ((e115 214 i (by first | decide | omega)).trans (e101 214 i (by first | decide | omega)))))))).trans (gcb7 i hi)
  have xc115 : ∀ i, i < σ 5 0 → ai_hv t190 215 i = some (.inl (sp_nv S m (σ 17 i + 4))) := fun i hi => ((e190 215 i (by first | decide | omega)).trans ((e175 215 i (by first | decide | omega)).trans ((e160 215 i (by first | decide | omega)).trans ((e145 215 i (by first | decide | omega)).trans ((e130 215 i (by first | decide | omega)).trans ((e115 215 i (by first | decide | omega)).trans (e101 215 i (by first | decide | omega)))))))).trans (gcb8 i hi)
  have xc116 : ∀ i, i < σ 6 0 → ai_hv t190 220 i = some (.inl (sp_nv S m (σ 18 i + 2))) := fun i hi => ((e190 220 i (by first | decide | omega)).trans ((e175 220 i (by first | decide | omega)).trans ((e160 220 i (by first | decide | omega)).trans ((e145 220 i (by first | decide | omega)).trans ((e130 220 i (by first | decide | omega)).trans ((e115 220 i (by first | decide | omega)).trans (e101 220 i (by first | decide | omega)))))))).trans (gcb9 i hi)
  have xc117 : ∀ i, i < σ 7 0 → ai_hv t190 226 i = some (.inl (sp_nv S m (σ 19 i + 2))) := fun i hi => ((e190 226 i (by first | decide | omega)).trans ((e175 226 i (by first | decide | omega)).trans ((e160 226 i (by first | decide | omega)).trans ((e145 226 i (by first | decide | omega)).trans ((e130 226 i (by first | decide | omega)).trans ((e115 226 i (by first | decide | omega)).trans (e101 226 i (by first | decide | omega)))))))).trans (gcb10 i hi)
  have xc118 : ∀ i, i < σ 7 0 → ai_hv t190 227 i = some (.inl (sp_nv S m (σ 19 i + 4))) := fun i hi => ((e190 227 i (by first | decide | omega)).trans ((e175 227 i (by first | decide | omega)).trans ((e160 227 i (by first | decide | omega)).trans ((e145 227 i (by first | decide | omega)).trans ((e130 227 i (by first | decide | omega)).trans ((e115 227 i (by first | decide | omega)).trans (e101 227 i (by first | decide | omega)))))))).trans (gcb11 i hi)
  have xc119 : ∀ j, j < 64 → ai_hv t190 192 j = some (.inl (σ 23 j)) := fun j hj => ((e190 192 j (by first | decide | omega)).trans ((e175 192 j (by first | decide | omega)).trans ((e160 192 j (by first | decide | omega)).trans ((e145 192 j (by first | decide | omega)).trans ((e130 192 j (by first | decide | omega)).trans ((e115 192 j (by first | decide | omega)).trans (e101 192 j (by first | decide | omega)))))))).trans (gcb13 j hj)
  exact ⟨⟨k92, k93, k94, k95, k96, u1, k97, k98, k99, k100, k101, k102⟩, (fun i hi => ⟨((fun i hi => ((e190 195 i (by first | decide | omega)).trans ((e175 195 i (by first | decide | omega)).trans ((e160 195 i (by first | decide | omega)).trans ((e145 195 i (by first | decide | omega)).trans ((e130 195 i (by first | decide | omega)).trans ((e115 195 i (by first | decide | omega)).trans (e101 195 i (by first | decide | omega)))))))).trans (hAt i hi).1)) i hi, ((fun i hi => ((e190 196 i (by first | decide | omega)).trans ((e175 196 i (by first | decide | omega)).trans ((e160 196 i (by first | decide | omega)).trans ((e145 196 i (by first | decide | omega)).trans ((e130 196 i (by first | decide | omega)).trans ((e115 196 i (by first | decide | omega)).trans (e101 196 i (by first | decide | omega)))))))).trans (hAt i hi).2)) i hi⟩), (fun i hi => ((e190 202 i (by first | decide | omega)).trans ((e175 202 i (by first | decide | omega)).trans ((e160 202 i (by first | decide | omega)).trans ((e145 202 i (by first | decide | omega)).trans ((e130 202 i (by first | decide | omega)).trans ((e115 202 i (by first | decide | omega)).trans (e101 202 i (by first | decide | omega)))))))).trans (hAl i hi)), (fun i hi => ((e190 208 i (by first | decide | omega)).trans ((e175 208 i (by first | decide | omega)).trans ((e160 208 i (by first | decide | omega)).trans ((e145 208 i (by first | decide | omega)).trans ((e130 208 i (by first | decide | omega)).trans ((e115 208 i (by first | decide | omega)).trans (e101 208 i (by first | decide | omega)))))))).trans (hAc i hi)), (cl_up (g := σ 17) (fun i hi => ((e190 213 i (by first | decide | omega)).trans ((e175 213 i (by first | decide | omega)).trans ((e160 213 i (by first | decide | omega)).trans ((e145 213 i (by first | decide | omega)).trans ((e130 213 i (by first | decide | omega)).trans ((e115 213 i (by first | decide | omega)).trans (e101 213 i (by first | decide | omega)))))))).trans (hAg i hi)) u2), (fun i hi => ((e190 219 i (by first | decide | omega)).trans ((e175 219 i (by first | decide | omega)).trans ((e160 219 i (by first | decide | omega)).trans ((e145 219 i (by first | decide | omega)).trans ((e130 219 i (by first | decide | omega)).trans ((e115 219 i (by first | decide | omega)).trans (e101 219 i (by first | decide | omega)))))))).trans (hAs i hi)), (fun i hi => ((e190 225 i (by first | decide | omega)).trans ((e175 225 i (by first | decide | omega)).trans ((e160 225 i (by first | decide | omega)).trans ((e145 225 i (by first | decide | omega)).trans ((e130 225 i (by first | decide | omega)).trans ((e115 225 i (by first | decide | omega)).trans (e101 225 i (by first | decide | omega)))))))).trans (hAo i hi)), xc107, xc108, xc109, xc110, xc111, xc112, xc113, ct_up (g := σ 17) xc114 u3, ct_up (g := σ 17) xc115 u4, xc116, xc117, xc118, ((e190 191 2 (by first | decide | omega)).trans ((e175 191 2 (by first | decide | omega)).trans ((e160 191 2 (by first | decide | omega)).trans ((e145 191 2 (by first | decide | omega)).trans ((e130 191 2 (by first | decide | omega)).trans ((e115 191 2 (by first | decide | omega)).trans (e101 191 2 (by first | decide | omega)))))))).trans gcb12, xc119⟩
theorem pc_signLine191 (d n : Nat) {t0 : en_H} {a : Nat} {S : Nat → Nat} {m N : Nat} {σ : Nat → Nat → Nat} (s0 : cS t0 a 0) (hT : cT t0 S m N) (ha : a < N) (hP : ai_hv t0 7 1 = some (gx_r 191)) (hA : CA t0 191 S m σ) (h3 : W3 S m N σ) : ∃ r, en_u (d + 4) 237 [gx_r 7] t0 n = some r ∧ ∃ t' a' f', r = (none, t', n, 0) ∧ cS t' a' f' ∧ cT t' S m N ∧ ai_hv t' 7 1 = some (gx_r 191) ∧ cW 191 t0 t' ∧ (a', f') = fs S m N 59 (sl_sign S m N σ a) ∧ a' ≤ N ∧ (f' = 0 → a < a' ∧ CA t' 191 S m (sn_sign σ a)) := by
  have b0 := s0.2.2.2
  have hN := hT.2.2.2.2.2.2.1
  have hA0 := hA
  obtain ⟨⟨kk0, kk1, kk2, kk3, kk4, kk5, kk6, kk7, kk8, kk9, kk10, kk11⟩, hAt, hAl, hAc, hAg, hAs, hAo, gcb0, gcb1, gcb2, gcb3, gcb4, gcb5, gcb6, gcb7, gcb8, gcb9, gcb10, gcb11, gcb12, gcb13⟩ := hA0
  have kk0 : ai_hv t0 191 0 = some (.inl (σ 0 0)) := kk0
  have kk1 : ai_hv t0 191 1 = some (.inl (σ 1 0)) := kk1
  have kk2 : ai_hv t0 194 5 = some (.inl (σ 2 0)) := kk2
  have kk3 : ai_hv t0 200 5 = some (.inl (σ 3 0)) := kk3
  have kk4 : ai_hv t0 206 5 = some (.inl (σ 4 0)) := kk4
  have kk5 : ai_hv t0 212 5 = some (.inl (σ 5 0)) := kk5
  have kk6 : ai_hv t0 218 5 = some (.inl (σ 6 0)) := kk6
  have kk7 : ai_hv t0 224 5 = some (.inl (σ 7 0)) := kk7
  have hBB := h3.1.1
  refine en_u_ex (d := d + 3) rfl ?_
  show en_ex _ _ _ _ (0, [(0, gx_r 7)], [], t0, n, 0) _
  refine ex_go (S := (1, [(0, gx_r 7)], [gx_r 7], t0, n, 0)) rfl (fun _ => rfl) rfl ?_
  refine ex_go (S := (2, [(0, gx_r 7)], [gx_r 7, gx_r 7], t0, n, 0)) rfl (fun _ => rfl) rfl ?_
  refine gxo_get (a := 7) rfl s0.1 rfl rfl hP rfl ?_
  refine gxo_ref (a := 191) (c := 218) rfl s0.1 rfl rfl rfl rfl rfl ?_
  obtain ⟨_, r101, t101, a101, f101, rfl, s101, e101, y101, q101⟩ := pc_startRow218 (d + 1) n (s0) hT ha kk6 (by first | decide | omega)
  have b101 := s101.2.2.2
  refine gx_callo (a := 7) rfl rfl s0.1 rfl rfl rfl r101 rfl ?_
  have k2 : ai_hv t101 191 0 = some (.inl (σ 0 0)) := (e101 191 0 (by first | decide | omega)).trans kk0
  have k3 : ai_hv t101 191 1 = some (.inl (σ 1 0)) := (e101 191 1 (by first | decide | omega)).trans kk1
  have k4 : ai_hv t101 194 5 = some (.inl (σ 2 0)) := (e101 194 5 (by first | decide | omega)).trans kk2
  have k5 : ai_hv t101 200 5 = some (.inl (σ 3 0)) := (e101 200 5 (by first | decide | omega)).trans kk3
  have k6 : ai_hv t101 206 5 = some (.inl (σ 4 0)) := (e101 206 5 (by first | decide | omega)).trans kk4
  have k7 : ai_hv t101 212 5 = some (.inl (σ 5 0)) := (e101 212 5 (by first | decide | omega)).trans kk5
  have k8 : ai_hv t101 218 5 = some (.inl (σ 6 0)) := (e101 218 5 (by first | decide | omega)).trans kk6
  have k9 : ai_hv t101 224 5 = some (.inl (σ 7 0)) := (e101 224 5 (by first | decide | omega)).trans kk7
  have k10 : ai_hv t101 7 4 = some (.inl (σ 8 0)) := (e101 7 4 (by first | decide | omega)).trans kk8
  have k11 : ai_hv t101 7 5 = some (.inl (σ 9 0)) := (e101 7 5 (by first | decide | omega)).trans kk9
  have k12 : ai_hv t101 7 6 = some (.inl (σ 9 1)) := (e101 7 6 (by first | decide | omega)).trans kk10
  have k13 : ai_hv t101 7 7 = some (.inl (σ 9 2)) := (e101 7 7 (by first | decide | omega)).trans kk11
  have k14 : ai_hv t101 7 1 = some (gx_r 191) := (e101 7 1 (by first | decide | omega)).trans hP
  show en_ex _ _ _ _ (11, [(0, gx_r 7)], [], t101, n, 0) _
  refine ex_go (S := (12, [(0, gx_r 7)], [gx_r 7], t101, n, 0)) rfl (fun _ => rfl) rfl ?_
  have hA9 : CA t101 191 S m σ := CA_keep (by first | decide | omega) hA (fun c i h h2 => e101 c i (by first | decide | omega))
  have hT16 := cT_keep (t' := t101) hT (fun c i h => e101 c i (by first | decide | omega))
  obtain ⟨_, r115, v115, t115, a115, f115, rfl, s115, e115, z115, q115⟩ := pc_newName191 (d) n (s101) hT16 (by first | decide | omega) k14 hA9 h3
  have b115 := s115.2.2.2
  have y115 := z115.trans (congrArg (fm S m N (sg_told S m σ)) y101)
  refine gx_callo (a := 7) rfl rfl s101.1 rfl rfl rfl r115 rfl ?_
  have k17 : ai_hv t115 191 0 = some (.inl (σ 0 0)) := (e115 191 0 (by first | decide | omega)).trans k2
  have k18 : ai_hv t115 191 1 = some (.inl (σ 1 0)) := (e115 191 1 (by first | decide | omega)).trans k3
  have k19 : ai_hv t115 194 5 = some (.inl (σ 2 0)) := (e115 194 5 (by first | decide | omega)).trans k4
  have k20 : ai_hv t115 200 5 = some (.inl (σ 3 0)) := (e115 200 5 (by first | decide | omega)).trans k5
  have k21 : ai_hv t115 206 5 = some (.inl (σ 4 0)) := (e115 206 5 (by first | decide | omega)).trans k6
  have k22 : ai_hv t115 212 5 = some (.inl (σ 5 0)) := (e115 212 5 (by first | decide | omega)).trans k7
  have k23 : ai_hv t115 218 5 = some (.inl (σ 6 0)) := (e115 218 5 (by first | decide | omega)).trans k8
  have k24 : ai_hv t115 224 5 = some (.inl (σ 7 0)) := (e115 224 5 (by first | decide | omega)).trans k9
  have k25 : ai_hv t115 7 4 = some (.inl (σ 8 0)) := (e115 7 4 (by first | decide | omega)).trans k10
  have k26 : ai_hv t115 7 5 = some (.inl (σ 9 0)) := (e115 7 5 (by first | decide | omega)).trans k11
  have k27 : ai_hv t115 7 6 = some (.inl (σ 9 1)) := (e115 7 6 (by first | decide | omega)).trans k12
  have k28 : ai_hv t115 7 7 = some (.inl (σ 9 2)) := (e115 7 7 (by first | decide | omega)).trans k13
  have k29 : ai_hv t115 7 1 = some (gx_r 191) := (e115 7 1 (by first | decide | omega)).trans k14
  show en_ex _ _ _ _ (15, [(0, gx_r 7)], [.inr (.inl v115)], t115, n, 0) _
  refine ex_go (S := (16, [(1, .inr (.inl v115)), (0, gx_r 7)], [], t115, n, 0)) rfl (fun _ => rfl) rfl ?_
  refine ex_go (S := (17, [(1, .inr (.inl v115)), (0, gx_r 7)], [gx_r 7], t115, n, 0)) rfl (fun _ => rfl) rfl ?_
  refine gxo_ref (a := 7) (c := 1) rfl s115.1 rfl rfl rfl rfl rfl ?_
  refine ex_go (S := (23, [(1, .inr (.inl v115)), (0, gx_r 7)], [gx_w 16, gx_r 1], t115, n, 0)) rfl (fun _ => rfl) rfl ?_
  have hT31 := cT_keep (t' := t115) hT (fun c i h => (e115 c i (by first | decide | omega)).trans (e101 c i (by first | decide | omega)))
  obtain ⟨_, r130, t130, a130, f130, rfl, s130, e130, z130, q130⟩ := pc_takeWord (d + 1) n (s115) hT31 (by first | decide | omega) (w := 16) (by first | decide | omega)
  have b130 := s130.2.2.2
  have y130 := z130.trans (congrArg (fw S m N 16) y115)
  refine gx_callo (a := 1) rfl rfl s115.1 rfl rfl rfl r130 rfl ?_
  have k32 : ai_hv t130 191 0 = some (.inl (σ 0 0)) := (e130 191 0 (by first | decide | omega)).trans k17
  have k33 : ai_hv t130 191 1 = some (.inl (σ 1 0)) := (e130 191 1 (by first | decide | omega)).trans k18
  have k34 : ai_hv t130 194 5 = some (.inl (σ 2 0)) := (e130 194 5 (by first | decide | omega)).trans k19
  have k35 : ai_hv t130 200 5 = some (.inl (σ 3 0)) := (e130 200 5 (by first | decide | omega)).trans k20
  have k36 : ai_hv t130 206 5 = some (.inl (σ 4 0)) := (e130 206 5 (by first | decide | omega)).trans k21
  have k37 : ai_hv t130 212 5 = some (.inl (σ 5 0)) := (e130 212 5 (by first | decide | omega)).trans k22
  have k38 : ai_hv t130 218 5 = some (.inl (σ 6 0)) := (e130 218 5 (by first | decide | omega)).trans k23
  have k39 : ai_hv t130 224 5 = some (.inl (σ 7 0)) := (e130 224 5 (by first | decide | omega)).trans k24
  have k40 : ai_hv t130 7 4 = some (.inl (σ 8 0)) := (e130 7 4 (by first | decide | omega)).trans k25
  have k41 : ai_hv t130 7 5 = some (.inl (σ 9 0)) := (e130 7 5 (by first | decide | omega)).trans k26
  have k42 : ai_hv t130 7 6 = some (.inl (σ 9 1)) := (e130 7 6 (by first | decide | omega)).trans k27
  have k43 : ai_hv t130 7 7 = some (.inl (σ 9 2)) := (e130 7 7 (by first | decide | omega)).trans k28
  have k44 : ai_hv t130 7 1 = some (gx_r 191) := (e130 7 1 (by first | decide | omega)).trans k29
  show en_ex _ _ _ _ (26, [(1, .inr (.inl v115)), (0, gx_r 7)], [], t130, n, 0) _
  refine ex_go (S := (27, [(1, .inr (.inl v115)), (0, gx_r 7)], [gx_r 7], t130, n, 0)) rfl (fun _ => rfl) rfl ?_
  refine gxo_ref (a := 7) (c := 1) rfl s130.1 rfl rfl rfl rfl rfl ?_
  refine ex_go (S := (31, [(1, .inr (.inl v115)), (0, gx_r 7)], [.inl 1, gx_r 1], t130, n, 0)) rfl (fun _ => rfl) rfl ?_
  refine ex_go (S := (33, [(1, .inr (.inl v115)), (0, gx_r 7)], [.inl 99, .inl 1, gx_r 1], t130, n, 0)) rfl (fun _ => rfl) rfl ?_
  have hT46 := cT_keep (t' := t130) hT (fun c i h => (e130 c i (by first | decide | omega)).trans ((e115 c i (by first | decide | omega)).trans (e101 c i (by first | decide | omega))))
  obtain ⟨_, r145, v145, t145, a145, f145, rfl, s145, e145, z145, q145⟩ := pc_takeNumber (d + 1) n (s130) hT46 (by first | decide | omega) (lo := 1) (hi := 99) (by first | decide | omega) (by first | decide | omega) (by first | decide | omega)
  have b145 := s145.2.2.2
  have y145 := z145.trans (congrArg (fn S m N 1 99) y130)
  refine gx_callo (a := 1) rfl rfl s130.1 rfl rfl rfl r145 rfl ?_
  have k47 : ai_hv t145 191 0 = some (.inl (σ 0 0)) := (e145 191 0 (by first | decide | omega)).trans k32
  have k48 : ai_hv t145 191 1 = some (.inl (σ 1 0)) := (e145 191 1 (by first | decide | omega)).trans k33
  have k49 : ai_hv t145 194 5 = some (.inl (σ 2 0)) := (e145 194 5 (by first | decide | omega)).trans k34
  have k50 : ai_hv t145 200 5 = some (.inl (σ 3 0)) := (e145 200 5 (by first | decide | omega)).trans k35
  have k51 : ai_hv t145 206 5 = some (.inl (σ 4 0)) := (e145 206 5 (by first | decide | omega)).trans k36
  have k52 : ai_hv t145 212 5 = some (.inl (σ 5 0)) := (e145 212 5 (by first | decide | omega)).trans k37
  have k53 : ai_hv t145 218 5 = some (.inl (σ 6 0)) := (e145 218 5 (by first | decide | omega)).trans k38
  have k54 : ai_hv t145 224 5 = some (.inl (σ 7 0)) := (e145 224 5 (by first | decide | omega)).trans k39
  have k55 : ai_hv t145 7 4 = some (.inl (σ 8 0)) := (e145 7 4 (by first | decide | omega)).trans k40
  have k56 : ai_hv t145 7 5 = some (.inl (σ 9 0)) := (e145 7 5 (by first | decide | omega)).trans k41
  have k57 : ai_hv t145 7 6 = some (.inl (σ 9 1)) := (e145 7 6 (by first | decide | omega)).trans k42
  have k58 : ai_hv t145 7 7 = some (.inl (σ 9 2)) := (e145 7 7 (by first | decide | omega)).trans k43
  have k59 : ai_hv t145 7 1 = some (gx_r 191) := (e145 7 1 (by first | decide | omega)).trans k44
  show en_ex _ _ _ _ (36, [(1, .inr (.inl v115)), (0, gx_r 7)], [.inl v145], t145, n, 0) _
  refine ex_go (S := (37, [(3, .inl v145), (1, .inr (.inl v115)), (0, gx_r 7)], [], t145, n, 0)) rfl (fun _ => rfl) rfl ?_
  refine ex_go (S := (38, [(3, .inl v145), (1, .inr (.inl v115)), (0, gx_r 7)], [gx_r 7], t145, n, 0)) rfl (fun _ => rfl) rfl ?_
  refine ex_go (S := (39, [(3, .inl v145), (1, .inr (.inl v115)), (0, gx_r 7)], [gx_r 7, gx_r 7], t145, n, 0)) rfl (fun _ => rfl) rfl ?_
  refine gxo_get (a := 7) rfl s145.1 rfl rfl k59 rfl ?_
  refine gxo_ref (a := 191) (c := 218) rfl s145.1 rfl rfl rfl rfl rfl ?_
  refine ex_go (S := (46, [(3, .inl v145), (1, .inr (.inl v115)), (0, gx_r 7)], [.inr (.inl v115), gx_r 218, gx_r 7], t145, n, 0)) rfl (fun _ => rfl) rfl ?_
  refine ex_go (S := (47, [(3, .inl v145), (1, .inr (.inl v115)), (0, gx_r 7)], [.inl v145, .inr (.inl v115), gx_r 218, gx_r 7], t145, n, 0)) rfl (fun _ => rfl) rfl ?_
  refine ex_go (S := (48, [(3, .inl v145), (1, .inr (.inl v115)), (0, gx_r 7)], [.inl 0, .inl v145, .inr (.inl v115), gx_r 218, gx_r 7], t145, n, 0)) rfl (fun _ => rfl) rfl ?_
  refine ex_go (S := (49, [(3, .inl v145), (1, .inr (.inl v115)), (0, gx_r 7)], [.inl 0, .inl 0, .inl v145, .inr (.inl v115), gx_r 218, gx_r 7], t145, n, 0)) rfl (fun _ => rfl) rfl ?_
  refine ex_go (S := (50, [(3, .inl v145), (1, .inr (.inl v115)), (0, gx_r 7)], [.inl 0, .inl 0, .inl 0, .inl v145, .inr (.inl v115), gx_r 218, gx_r 7], t145, n, 0)) rfl (fun _ => rfl) rfl ?_
  have hT61 := cT_keep (t' := t145) hT (fun c i h => (e145 c i (by first | decide | omega)).trans ((e130 c i (by first | decide | omega)).trans ((e115 c i (by first | decide | omega)).trans (e101 c i (by first | decide | omega)))))
  obtain ⟨_, r160, t160, a160, f160, rfl, s160, e160, z160, q160, u160⟩ := pc_endRow218 (d) n (s145) hT61 (by first | decide | omega) (x := v115) (y1 := v145) (y2 := 0) (y3 := 0) (y4 := 0) k53 (fun h0 => by omega)
  have b160 := s160.2.2.2
  have y160 := z160.trans (congrArg (fs S m N 59) y145)
  refine gx_callo (a := 7) rfl rfl s145.1 rfl rfl rfl r160 rfl ?_
  have k62 : ai_hv t160 191 0 = some (.inl (σ 0 0)) := (e160 191 0 (by first | decide | omega)).trans k47
  have k63 : ai_hv t160 191 1 = some (.inl (σ 1 0)) := (e160 191 1 (by first | decide | omega)).trans k48
  have k64 : ai_hv t160 194 5 = some (.inl (σ 2 0)) := (e160 194 5 (by first | decide | omega)).trans k49
  have k65 : ai_hv t160 200 5 = some (.inl (σ 3 0)) := (e160 200 5 (by first | decide | omega)).trans k50
  have k66 : ai_hv t160 206 5 = some (.inl (σ 4 0)) := (e160 206 5 (by first | decide | omega)).trans k51
  have k67 : ai_hv t160 212 5 = some (.inl (σ 5 0)) := (e160 212 5 (by first | decide | omega)).trans k52
  have k68 : ai_hv t160 224 5 = some (.inl (σ 7 0)) := (e160 224 5 (by first | decide | omega)).trans k54
  have k69 : ai_hv t160 7 4 = some (.inl (σ 8 0)) := (e160 7 4 (by first | decide | omega)).trans k55
  have k70 : ai_hv t160 7 5 = some (.inl (σ 9 0)) := (e160 7 5 (by first | decide | omega)).trans k56
  have k71 : ai_hv t160 7 6 = some (.inl (σ 9 1)) := (e160 7 6 (by first | decide | omega)).trans k57
  have k72 : ai_hv t160 7 7 = some (.inl (σ 9 2)) := (e160 7 7 (by first | decide | omega)).trans k58
  have k73 : ai_hv t160 7 1 = some (gx_r 191) := (e160 7 1 (by first | decide | omega)).trans k59
  show en_ex _ _ _ _ (53, [(3, .inl v145), (1, .inr (.inl v115)), (0, gx_r 7)], [], t160, n, 0) _
  refine ex_ret (r := (none, t160, n, 0)) rfl (fun _ => rfl) ?_
  have hT74 := cT_keep (t' := t160) hT (fun c i h => (e160 c i (by first | decide | omega)).trans ((e145 c i (by first | decide | omega)).trans ((e130 c i (by first | decide | omega)).trans ((e115 c i (by first | decide | omega)).trans (e101 c i (by first | decide | omega))))))
  refine ⟨_, rfl, t160, a160, f160, rfl, s160, hT74, k73, (fun c i h => (e160 c i (by first | decide | omega)).trans ((e145 c i (by first | decide | omega)).trans ((e130 c i (by first | decide | omega)).trans ((e115 c i (by first | decide | omega)).trans (e101 c i (by first | decide | omega)))))), y160, by omega, fun h0 => ⟨by omega, ?_⟩⟩
  obtain ⟨u1, u2, u3, u4, u5, u6⟩ := u160 h0
  have hnw : v115 = sp_wv S m (a + 1) := by rw [← show a101 = a + 1 by omega]; omega
  rw [hnw] at u2
  have hq75 : v145 = sp_nv S m (a + 1 + 2) := by rw [← show a130 = a + 1 + 2 by omega]; omega
  rw [hq75] at u3
  have xc76 : ∀ i, i < σ 2 0 → ai_hv t160 197 i = some (.inl (sp_nv S m (σ 16 i + 3) + 8 * sp_nv S m (σ 16 i + 4))) := fun i hi => ((e160 197 i (by first | decide | omega)).trans ((e145 197 i (by first | decide | omega)).trans ((e130 197 i (by first | decide | omega)).trans ((e115 197 i (by first | decide | omega)).trans (e101 197 i (by first | decide | omega)))))).trans (gcb0 i hi)
  have xc77 : ∀ i, i < σ 4 0 → ai_hv t160 207 i = some (.inr (.inl (sp_wv S m (σ 21 i + 1)))) := fun i hi => ((e160 207 i (by first | decide | omega)).trans ((e145 207 i (by first | decide | omega)).trans ((e130 207 i (by first | decide | omega)).trans ((e115 207 i (by first | decide | omega)).trans (e101 207 i (by first | decide | omega)))))).trans (gcb1 i hi)
  have xc78 : ∀ i, i < σ 3 0 → ai_hv t160 203 i = some (.inl (sp_nv S m (σ 20 i + 4))) := fun i hi => ((e160 203 i (by first | decide | omega)).trans ((e145 203 i (by first | decide | omega)).trans ((e130 203 i (by first | decide | omega)).trans ((e115 203 i (by first | decide | omega)).trans (e101 203 i (by first | decide | omega)))))).trans (gcb2 i hi)
  have xc79 : ∀ i, i < σ 3 0 → ai_hv t160 204 i = some (.inl (sp_nv S m (σ 20 i + 6))) := fun i hi => ((e160 204 i (by first | decide | omega)).trans ((e145 204 i (by first | decide | omega)).trans ((e130 204 i (by first | decide | omega)).trans ((e115 204 i (by first | decide | omega)).trans (e101 204 i (by first | decide | omega)))))).trans (gcb3 i hi)
  have xc80 : ∀ i, i < σ 3 0 → ai_hv t160 205 i = some (.inl (sp_nv S m (σ 20 i + 8))) := fun i hi => ((e160 205 i (by first | decide | omega)).trans ((e145 205 i (by first | decide | omega)).trans ((e130 205 i (by first | decide | omega)).trans ((e115 205 i (by first | decide | omega)).trans (e101 205 i (by first | decide | omega)))))).trans (gcb4 i hi)
  have xc81 : ∀ i, i < σ 4 0 → ai_hv t160 209 i = some (.inl (sp_nv S m (σ 21 i + 3))) := fun i hi => ((e160 209 i (by first | decide | omega)).trans ((e145 209 i (by first | decide | omega)).trans ((e130 209 i (by first | decide | omega)).trans ((e115 209 i (by first | decide | omega)).trans (e101 209 i (by first | decide | omega)))))).trans (gcb5 i hi)
  have xc82 : ∀ i, i < σ 4 0 → ai_hv t160 210 i = some (.inl (sp_nv S m (σ 21 i + 5))) := fun i hi => ((e160 210 i (by first | decide | omega)).trans ((e145 210 i (by first | decide | omega)).trans ((e130 210 i (by first | decide | omega)).trans ((e115 210 i (by first | decide | omega)).trans (e101 210 i (by first | decide | omega)))))).trans (gcb6 i hi)
  have xc83 : ∀ i, i < σ 5 0 → ai_hv t160 214 i = some (.inl (sp_nv S m (σ 17 i + 2))) := fun i hi => ((e160 214 i (by first | decide | omega)).trans ((e145 214 i (by first | decide | omega)).trans ((e130 214 i (by first | decide | omega)).trans ((e115 214 i (by first | decide | omega)).trans (e101 214 i (by first | decide | omega)))))).trans (gcb7 i hi)
  have xc84 : ∀ i, i < σ 5 0 → ai_hv t160 215 i = some (.inl (sp_nv S m (σ 17 i + 4))) := fun i hi => ((e160 215 i (by first | decide | omega)).trans ((e145 215 i (by first | decide | omega)).trans ((e130 215 i (by first | decide | omega)).trans ((e115 215 i (by first | decide | omega)).trans (e101 215 i (by first | decide | omega)))))).trans (gcb8 i hi)
  have xc85 : ∀ i, i < σ 6 0 → ai_hv t160 220 i = some (.inl (sp_nv S m (σ 18 i + 2))) := fun i hi => ((e160 220 i (by first | decide | omega)).trans ((e145 220 i (by first | decide | omega)).trans ((e130 220 i (by first | decide | omega)).trans ((e115 220 i (by first | decide | omega)).trans (e101 220 i (by first | decide | omega)))))).trans (gcb9 i hi)
  have xc86 : ∀ i, i < σ 7 0 → ai_hv t160 226 i = some (.inl (sp_nv S m (σ 19 i + 2))) := fun i hi => ((e160 226 i (by first | decide | omega)).trans ((e145 226 i (by first | decide | omega)).trans ((e130 226 i (by first | decide | omega)).trans ((e115 226 i (by first | decide | omega)).trans (e101 226 i (by first | decide | omega)))))).trans (gcb10 i hi)
  have xc87 : ∀ i, i < σ 7 0 → ai_hv t160 227 i = some (.inl (sp_nv S m (σ 19 i + 4))) := fun i hi => ((e160 227 i (by first | decide | omega)).trans ((e145 227 i (by first | decide | omega)).trans ((e130 227 i (by first | decide | omega)).trans ((e115 227 i (by first | decide | omega)).trans (e101 227 i (by first | decide | omega)))))).trans (gcb11 i hi)
  have xc88 : ∀ j, j < 64 → ai_hv t160 192 j = some (.inl (σ 23 j)) := fun j hj => ((e160 192 j (by first | decide | omega)).trans ((e145 192 j (by first | decide | omega)).trans ((e130 192 j (by first | decide | omega)).trans ((e115 192 j (by first | decide | omega)).trans (e101 192 j (by first | decide | omega)))))).trans (gcb13 j hj)
  exact ⟨⟨k62, k63, k64, k65, k66, k67, u1, k68, k69, k70, k71, k72⟩, (fun i hi => ⟨((fun i hi => ((e160 195 i (by first | decide | omega)).trans ((e145 195 i (by first | decide | omega)).trans ((e130 195 i (by first | decide | omega)).trans ((e115 195 i (by first | decide | omega)).trans (e101 195 i (by first | decide | omega)))))).trans (hAt i hi).1)) i hi, ((fun i hi => ((e160 196 i (by first | decide | omega)).trans ((e145 196 i (by first | decide | omega)).trans ((e130 196 i (by first | decide | omega)).trans ((e115 196 i (by first | decide | omega)).trans (e101 196 i (by first | decide | omega)))))).trans (hAt i hi).2)) i hi⟩), (fun i hi => ((e160 202 i (by first | decide | omega)).trans ((e145 202 i (by first | decide | omega)).trans ((e130 202 i (by first | decide | omega)).trans ((e115 202 i (by first | decide | omega)).trans (e101 202 i (by first | decide | omega)))))).trans (hAl i hi)), (fun i hi => ((e160 208 i (by first | decide | omega)).trans ((e145 208 i (by first | decide | omega)).trans ((e130 208 i (by first | decide | omega)).trans ((e115 208 i (by first | decide | omega)).trans (e101 208 i (by first | decide | omega)))))).trans (hAc i hi)), (fun i hi => ((e160 213 i (by first | decide | omega)).trans ((e145 213 i (by first | decide | omega)).trans ((e130 213 i (by first | decide | omega)).trans ((e115 213 i (by first | decide | omega)).trans (e101 213 i (by first | decide | omega)))))).trans (hAg i hi)), (cl_up (g := σ 18) (fun i hi => ((e160 219 i (by first | decide | omega)).trans ((e145 219 i (by first | decide | omega)).trans ((e130 219 i (by first | decide | omega)).trans ((e115 219 i (by first | decide | omega)).trans (e101 219 i (by first | decide | omega)))))).trans (hAs i hi)) u2), (fun i hi => ((e160 225 i (by first | decide | omega)).trans ((e145 225 i (by first | decide | omega)).trans ((e130 225 i (by first | decide | omega)).trans ((e115 225 i (by first | decide | omega)).trans (e101 225 i (by first | decide | omega)))))).trans (hAo i hi)), xc76, xc77, xc78, xc79, xc80, xc81, xc82, xc83, xc84, ct_up (g := σ 18) xc85 u3, xc86, xc87, ((e160 191 2 (by first | decide | omega)).trans ((e145 191 2 (by first | decide | omega)).trans ((e130 191 2 (by first | decide | omega)).trans ((e115 191 2 (by first | decide | omega)).trans (e101 191 2 (by first | decide | omega)))))).trans gcb12, xc88⟩
theorem pc_loadLine191 (d n : Nat) {t0 : en_H} {a : Nat} {S : Nat → Nat} {m N : Nat} {σ : Nat → Nat → Nat} (s0 : cS t0 a 0) (hT : cT t0 S m N) (ha : a < N) (hP : ai_hv t0 7 1 = some (gx_r 191)) (hA : CA t0 191 S m σ) (h3 : W3 S m N σ) : ∃ r, en_u (d + 4) 238 [gx_r 7] t0 n = some r ∧ ∃ t' a' f', r = (none, t', n, 0) ∧ cS t' a' f' ∧ cT t' S m N ∧ ai_hv t' 7 1 = some (gx_r 191) ∧ cW 191 t0 t' ∧ (a', f') = fs S m N 59 (sl_load S m N σ a) ∧ a' ≤ N ∧ (f' = 0 → a < a' ∧ CA t' 191 S m (sn_load σ a)) := by
  have b0 := s0.2.2.2
  have hN := hT.2.2.2.2.2.2.1
  have hA0 := hA
  obtain ⟨⟨kk0, kk1, kk2, kk3, kk4, kk5, kk6, kk7, kk8, kk9, kk10, kk11⟩, hAt, hAl, hAc, hAg, hAs, hAo, gcb0, gcb1, gcb2, gcb3, gcb4, gcb5, gcb6, gcb7, gcb8, gcb9, gcb10, gcb11, gcb12, gcb13⟩ := hA0
  have kk0 : ai_hv t0 191 0 = some (.inl (σ 0 0)) := kk0
  have kk1 : ai_hv t0 191 1 = some (.inl (σ 1 0)) := kk1
  have kk2 : ai_hv t0 194 5 = some (.inl (σ 2 0)) := kk2
  have kk3 : ai_hv t0 200 5 = some (.inl (σ 3 0)) := kk3
  have kk4 : ai_hv t0 206 5 = some (.inl (σ 4 0)) := kk4
  have kk5 : ai_hv t0 212 5 = some (.inl (σ 5 0)) := kk5
  have kk6 : ai_hv t0 218 5 = some (.inl (σ 6 0)) := kk6
  have kk7 : ai_hv t0 224 5 = some (.inl (σ 7 0)) := kk7
  have hBB := h3.1.1
  refine en_u_ex (d := d + 3) rfl ?_
  show en_ex _ _ _ _ (0, [(0, gx_r 7)], [], t0, n, 0) _
  refine ex_go (S := (1, [(0, gx_r 7)], [gx_r 7], t0, n, 0)) rfl (fun _ => rfl) rfl ?_
  refine ex_go (S := (2, [(0, gx_r 7)], [gx_r 7, gx_r 7], t0, n, 0)) rfl (fun _ => rfl) rfl ?_
  refine gxo_get (a := 7) rfl s0.1 rfl rfl hP rfl ?_
  refine gxo_ref (a := 191) (c := 224) rfl s0.1 rfl rfl rfl rfl rfl ?_
  obtain ⟨_, r101, t101, a101, f101, rfl, s101, e101, y101, q101⟩ := pc_startRow224 (d + 1) n (s0) hT ha kk7 (by first | decide | omega)
  have b101 := s101.2.2.2
  refine gx_callo (a := 7) rfl rfl s0.1 rfl rfl rfl r101 rfl ?_
  have k2 : ai_hv t101 191 0 = some (.inl (σ 0 0)) := (e101 191 0 (by first | decide | omega)).trans kk0
  have k3 : ai_hv t101 191 1 = some (.inl (σ 1 0)) := (e101 191 1 (by first | decide | omega)).trans kk1
  have k4 : ai_hv t101 194 5 = some (.inl (σ 2 0)) := (e101 194 5 (by first | decide | omega)).trans kk2
  have k5 : ai_hv t101 200 5 = some (.inl (σ 3 0)) := (e101 200 5 (by first | decide | omega)).trans kk3
  have k6 : ai_hv t101 206 5 = some (.inl (σ 4 0)) := (e101 206 5 (by first | decide | omega)).trans kk4
  have k7 : ai_hv t101 212 5 = some (.inl (σ 5 0)) := (e101 212 5 (by first | decide | omega)).trans kk5
  have k8 : ai_hv t101 218 5 = some (.inl (σ 6 0)) := (e101 218 5 (by first | decide | omega)).trans kk6
  have k9 : ai_hv t101 224 5 = some (.inl (σ 7 0)) := (e101 224 5 (by first | decide | omega)).trans kk7
  have k10 : ai_hv t101 7 4 = some (.inl (σ 8 0)) := (e101 7 4 (by first | decide | omega)).trans kk8
  have k11 : ai_hv t101 7 5 = some (.inl (σ 9 0)) := (e101 7 5 (by first | decide | omega)).trans kk9
  have k12 : ai_hv t101 7 6 = some (.inl (σ 9 1)) := (e101 7 6 (by first | decide | omega)).trans kk10
  have k13 : ai_hv t101 7 7 = some (.inl (σ 9 2)) := (e101 7 7 (by first | decide | omega)).trans kk11
  have k14 : ai_hv t101 7 1 = some (gx_r 191) := (e101 7 1 (by first | decide | omega)).trans hP
  show en_ex _ _ _ _ (11, [(0, gx_r 7)], [], t101, n, 0) _
  refine ex_go (S := (12, [(0, gx_r 7)], [gx_r 7], t101, n, 0)) rfl (fun _ => rfl) rfl ?_
  have hA9 : CA t101 191 S m σ := CA_keep (by first | decide | omega) hA (fun c i h h2 => e101 c i (by first | decide | omega))
  have hT16 := cT_keep (t' := t101) hT (fun c i h => e101 c i (by first | decide | omega))
  obtain ⟨_, r115, v115, t115, a115, f115, rfl, s115, e115, z115, q115⟩ := pc_newName191 (d) n (s101) hT16 (by first | decide | omega) k14 hA9 h3
  have b115 := s115.2.2.2
  have y115 := z115.trans (congrArg (fm S m N (sg_told S m σ)) y101)
  refine gx_callo (a := 7) rfl rfl s101.1 rfl rfl rfl r115 rfl ?_
  have k17 : ai_hv t115 191 0 = some (.inl (σ 0 0)) := (e115 191 0 (by first | decide | omega)).trans k2
  have k18 : ai_hv t115 191 1 = some (.inl (σ 1 0)) := (e115 191 1 (by first | decide | omega)).trans k3
  have k19 : ai_hv t115 194 5 = some (.inl (σ 2 0)) := (e115 194 5 (by first | decide | omega)).trans k4
  have k20 : ai_hv t115 200 5 = some (.inl (σ 3 0)) := (e115 200 5 (by first | decide | omega)).trans k5
  have k21 : ai_hv t115 206 5 = some (.inl (σ 4 0)) := (e115 206 5 (by first | decide | omega)).trans k6
  have k22 : ai_hv t115 212 5 = some (.inl (σ 5 0)) := (e115 212 5 (by first | decide | omega)).trans k7
  have k23 : ai_hv t115 218 5 = some (.inl (σ 6 0)) := (e115 218 5 (by first | decide | omega)).trans k8
  have k24 : ai_hv t115 224 5 = some (.inl (σ 7 0)) := (e115 224 5 (by first | decide | omega)).trans k9
  have k25 : ai_hv t115 7 4 = some (.inl (σ 8 0)) := (e115 7 4 (by first | decide | omega)).trans k10
  have k26 : ai_hv t115 7 5 = some (.inl (σ 9 0)) := (e115 7 5 (by first | decide | omega)).trans k11
  have k27 : ai_hv t115 7 6 = some (.inl (σ 9 1)) := (e115 7 6 (by first | decide | omega)).trans k12
  have k28 : ai_hv t115 7 7 = some (.inl (σ 9 2)) := (e115 7 7 (by first | decide | omega)).trans k13
  have k29 : ai_hv t115 7 1 = some (gx_r 191) := (e115 7 1 (by first | decide | omega)).trans k14
  show en_ex _ _ _ _ (15, [(0, gx_r 7)], [.inr (.inl v115)], t115, n, 0) _
  refine ex_go (S := (16, [(1, .inr (.inl v115)), (0, gx_r 7)], [], t115, n, 0)) rfl (fun _ => rfl) rfl ?_
  refine ex_go (S := (17, [(1, .inr (.inl v115)), (0, gx_r 7)], [gx_r 7], t115, n, 0)) rfl (fun _ => rfl) rfl ?_
  refine gxo_ref (a := 7) (c := 1) rfl s115.1 rfl rfl rfl rfl rfl ?_
  refine ex_go (S := (23, [(1, .inr (.inl v115)), (0, gx_r 7)], [gx_w 18, gx_r 1], t115, n, 0)) rfl (fun _ => rfl) rfl ?_
  have hT31 := cT_keep (t' := t115) hT (fun c i h => (e115 c i (by first | decide | omega)).trans (e101 c i (by first | decide | omega)))
  obtain ⟨_, r130, t130, a130, f130, rfl, s130, e130, z130, q130⟩ := pc_takeWord (d + 1) n (s115) hT31 (by first | decide | omega) (w := 18) (by first | decide | omega)
  have b130 := s130.2.2.2
  have y130 := z130.trans (congrArg (fw S m N 18) y115)
  refine gx_callo (a := 1) rfl rfl s115.1 rfl rfl rfl r130 rfl ?_
  have k32 : ai_hv t130 191 0 = some (.inl (σ 0 0)) := (e130 191 0 (by first | decide | omega)).trans k17
  have k33 : ai_hv t130 191 1 = some (.inl (σ 1 0)) := (e130 191 1 (by first | decide | omega)).trans k18
  have k34 : ai_hv t130 194 5 = some (.inl (σ 2 0)) := (e130 194 5 (by first | decide | omega)).trans k19
  have k35 : ai_hv t130 200 5 = some (.inl (σ 3 0)) := (e130 200 5 (by first | decide | omega)).trans k20
  have k36 : ai_hv t130 206 5 = some (.inl (σ 4 0)) := (e130 206 5 (by first | decide | omega)).trans k21
  have k37 : ai_hv t130 212 5 = some (.inl (σ 5 0)) := (e130 212 5 (by first | decide | omega)).trans k22
  have k38 : ai_hv t130 218 5 = some (.inl (σ 6 0)) := (e130 218 5 (by first | decide | omega)).trans k23
  have k39 : ai_hv t130 224 5 = some (.inl (σ 7 0)) := (e130 224 5 (by first | decide | omega)).trans k24
  have k40 : ai_hv t130 7 4 = some (.inl (σ 8 0)) := (e130 7 4 (by first | decide | omega)).trans k25
  have k41 : ai_hv t130 7 5 = some (.inl (σ 9 0)) := (e130 7 5 (by first | decide | omega)).trans k26
  have k42 : ai_hv t130 7 6 = some (.inl (σ 9 1)) := (e130 7 6 (by first | decide | omega)).trans k27
  have k43 : ai_hv t130 7 7 = some (.inl (σ 9 2)) := (e130 7 7 (by first | decide | omega)).trans k28
  have k44 : ai_hv t130 7 1 = some (gx_r 191) := (e130 7 1 (by first | decide | omega)).trans k29
  show en_ex _ _ _ _ (26, [(1, .inr (.inl v115)), (0, gx_r 7)], [], t130, n, 0) _
  refine ex_go (S := (27, [(1, .inr (.inl v115)), (0, gx_r 7)], [gx_r 7], t130, n, 0)) rfl (fun _ => rfl) rfl ?_
  refine gxo_ref (a := 7) (c := 1) rfl s130.1 rfl rfl rfl rfl rfl ?_
  refine ex_go (S := (31, [(1, .inr (.inl v115)), (0, gx_r 7)], [.inl 0, gx_r 1], t130, n, 0)) rfl (fun _ => rfl) rfl ?_
  refine ex_go (S := (34, [(1, .inr (.inl v115)), (0, gx_r 7)], [.inl 999, .inl 0, gx_r 1], t130, n, 0)) rfl (fun _ => rfl) rfl ?_
  have hT46 := cT_keep (t' := t130) hT (fun c i h => (e130 c i (by first | decide | omega)).trans ((e115 c i (by first | decide | omega)).trans (e101 c i (by first | decide | omega))))
  obtain ⟨_, r145, v145, t145, a145, f145, rfl, s145, e145, z145, q145⟩ := pc_takeNumber (d + 1) n (s130) hT46 (by first | decide | omega) (lo := 0) (hi := 999) (by first | decide | omega) (by first | decide | omega) (by first | decide | omega)
  have b145 := s145.2.2.2
  have y145 := z145.trans (congrArg (fn S m N 0 999) y130)
  refine gx_callo (a := 1) rfl rfl s130.1 rfl rfl rfl r145 rfl ?_
  have k47 : ai_hv t145 191 0 = some (.inl (σ 0 0)) := (e145 191 0 (by first | decide | omega)).trans k32
  have k48 : ai_hv t145 191 1 = some (.inl (σ 1 0)) := (e145 191 1 (by first | decide | omega)).trans k33
  have k49 : ai_hv t145 194 5 = some (.inl (σ 2 0)) := (e145 194 5 (by first | decide | omega)).trans k34
  have k50 : ai_hv t145 200 5 = some (.inl (σ 3 0)) := (e145 200 5 (by first | decide | omega)).trans k35
  have k51 : ai_hv t145 206 5 = some (.inl (σ 4 0)) := (e145 206 5 (by first | decide | omega)).trans k36
  have k52 : ai_hv t145 212 5 = some (.inl (σ 5 0)) := (e145 212 5 (by first | decide | omega)).trans k37
  have k53 : ai_hv t145 218 5 = some (.inl (σ 6 0)) := (e145 218 5 (by first | decide | omega)).trans k38
  have k54 : ai_hv t145 224 5 = some (.inl (σ 7 0)) := (e145 224 5 (by first | decide | omega)).trans k39
  have k55 : ai_hv t145 7 4 = some (.inl (σ 8 0)) := (e145 7 4 (by first | decide | omega)).trans k40
  have k56 : ai_hv t145 7 5 = some (.inl (σ 9 0)) := (e145 7 5 (by first | decide | omega)).trans k41
  have k57 : ai_hv t145 7 6 = some (.inl (σ 9 1)) := (e145 7 6 (by first | decide | omega)).trans k42
  have k58 : ai_hv t145 7 7 = some (.inl (σ 9 2)) := (e145 7 7 (by first | decide | omega)).trans k43
  have k59 : ai_hv t145 7 1 = some (gx_r 191) := (e145 7 1 (by first | decide | omega)).trans k44
  show en_ex _ _ _ _ (37, [(1, .inr (.inl v115)), (0, gx_r 7)], [.inl v145], t145, n, 0) _
  refine ex_go (S := (38, [(3, .inl v145), (1, .inr (.inl v115)), (0, gx_r 7)], [], t145, n, 0)) rfl (fun _ => rfl) rfl ?_
  refine ex_go (S := (39, [(3, .inl v145), (1, .inr (.inl v115)), (0, gx_r 7)], [gx_r 7], t145, n, 0)) rfl (fun _ => rfl) rfl ?_
  refine gxo_ref (a := 7) (c := 1) rfl s145.1 rfl rfl rfl rfl rfl ?_
  refine ex_go (S := (45, [(3, .inl v145), (1, .inr (.inl v115)), (0, gx_r 7)], [gx_w 19, gx_r 1], t145, n, 0)) rfl (fun _ => rfl) rfl ?_
  have hT61 := cT_keep (t' := t145) hT (fun c i h => (e145 c i (by first | decide | omega)).trans ((e130 c i (by first | decide | omega)).trans ((e115 c i (by first | decide | omega)).trans (e101 c i (by first | decide | omega)))))
  obtain ⟨_, r160, t160, a160, f160, rfl, s160, e160, z160, q160⟩ := pc_takeWord (d + 1) n (s145) hT61 (by first | decide | omega) (w := 19) (by first | decide | omega)
  have b160 := s160.2.2.2
  have y160 := z160.trans (congrArg (fw S m N 19) y145)
  refine gx_callo (a := 1) rfl rfl s145.1 rfl rfl rfl r160 rfl ?_
  have k62 : ai_hv t160 191 0 = some (.inl (σ 0 0)) := (e160 191 0 (by first | decide | omega)).trans k47
  have k63 : ai_hv t160 191 1 = some (.inl (σ 1 0)) := (e160 191 1 (by first | decide | omega)).trans k48
  have k64 : ai_hv t160 194 5 = some (.inl (σ 2 0)) := (e160 194 5 (by first | decide | omega)).trans k49
  have k65 : ai_hv t160 200 5 = some (.inl (σ 3 0)) := (e160 200 5 (by first | decide | omega)).trans k50
  have k66 : ai_hv t160 206 5 = some (.inl (σ 4 0)) := (e160 206 5 (by first | decide | omega)).trans k51
  have k67 : ai_hv t160 212 5 = some (.inl (σ 5 0)) := (e160 212 5 (by first | decide | omega)).trans k52
  have k68 : ai_hv t160 218 5 = some (.inl (σ 6 0)) := (e160 218 5 (by first | decide | omega)).trans k53
  have k69 : ai_hv t160 224 5 = some (.inl (σ 7 0)) := (e160 224 5 (by first | decide | omega)).trans k54
  have k70 : ai_hv t160 7 4 = some (.inl (σ 8 0)) := (e160 7 4 (by first | decide | omega)).trans k55
  have k71 : ai_hv t160 7 5 = some (.inl (σ 9 0)) := (e160 7 5 (by first | decide | omega)).trans k56
  have k72 : ai_hv t160 7 6 = some (.inl (σ 9 1)) := (e160 7 6 (by first | decide | omega)).trans k57
  have k73 : ai_hv t160 7 7 = some (.inl (σ 9 2)) := (e160 7 7 (by first | decide | omega)).trans k58
  have k74 : ai_hv t160 7 1 = some (gx_r 191) := (e160 7 1 (by first | decide | omega)).trans k59
  show en_ex _ _ _ _ (48, [(3, .inl v145), (1, .inr (.inl v115)), (0, gx_r 7)], [], t160, n, 0) _
  refine ex_go (S := (49, [(3, .inl v145), (1, .inr (.inl v115)), (0, gx_r 7)], [gx_r 7], t160, n, 0)) rfl (fun _ => rfl) rfl ?_
  refine gxo_ref (a := 7) (c := 1) rfl s160.1 rfl rfl rfl rfl rfl ?_
  refine ex_go (S := (53, [(3, .inl v145), (1, .inr (.inl v115)), (0, gx_r 7)], [.inl 1, gx_r 1], t160, n, 0)) rfl (fun _ => rfl) rfl ?_
  refine ex_go (S := (55, [(3, .inl v145), (1, .inr (.inl v115)), (0, gx_r 7)], [.inl 9, .inl 1, gx_r 1], t160, n, 0)) rfl (fun _ => rfl) rfl ?_
  have hT76 := cT_keep (t' := t160) hT (fun c i h => (e160 c i (by first | decide | omega)).trans ((e145 c i (by first | decide | omega)).trans ((e130 c i (by first | decide | omega)).trans ((e115 c i (by first | decide | omega)).trans (e101 c i (by first | decide | omega))))))
  obtain ⟨_, r175, v175, t175, a175, f175, rfl, s175, e175, z175, q175⟩ := pc_takeNumber (d + 1) n (s160) hT76 (by first | decide | omega) (lo := 1) (hi := 9) (by first | decide | omega) (by first | decide | omega) (by first | decide | omega)
  have b175 := s175.2.2.2
  have y175 := z175.trans (congrArg (fn S m N 1 9) y160)
  refine gx_callo (a := 1) rfl rfl s160.1 rfl rfl rfl r175 rfl ?_
  have k77 : ai_hv t175 191 0 = some (.inl (σ 0 0)) := (e175 191 0 (by first | decide | omega)).trans k62
  have k78 : ai_hv t175 191 1 = some (.inl (σ 1 0)) := (e175 191 1 (by first | decide | omega)).trans k63
  have k79 : ai_hv t175 194 5 = some (.inl (σ 2 0)) := (e175 194 5 (by first | decide | omega)).trans k64
  have k80 : ai_hv t175 200 5 = some (.inl (σ 3 0)) := (e175 200 5 (by first | decide | omega)).trans k65
  have k81 : ai_hv t175 206 5 = some (.inl (σ 4 0)) := (e175 206 5 (by first | decide | omega)).trans k66
  have k82 : ai_hv t175 212 5 = some (.inl (σ 5 0)) := (e175 212 5 (by first | decide | omega)).trans k67
  have k83 : ai_hv t175 218 5 = some (.inl (σ 6 0)) := (e175 218 5 (by first | decide | omega)).trans k68
  have k84 : ai_hv t175 224 5 = some (.inl (σ 7 0)) := (e175 224 5 (by first | decide | omega)).trans k69
  have k85 : ai_hv t175 7 4 = some (.inl (σ 8 0)) := (e175 7 4 (by first | decide | omega)).trans k70
  have k86 : ai_hv t175 7 5 = some (.inl (σ 9 0)) := (e175 7 5 (by first | decide | omega)).trans k71
  have k87 : ai_hv t175 7 6 = some (.inl (σ 9 1)) := (e175 7 6 (by first | decide | omega)).trans k72
  have k88 : ai_hv t175 7 7 = some (.inl (σ 9 2)) := (e175 7 7 (by first | decide | omega)).trans k73
  have k89 : ai_hv t175 7 1 = some (gx_r 191) := (e175 7 1 (by first | decide | omega)).trans k74
  show en_ex _ _ _ _ (58, [(3, .inl v145), (1, .inr (.inl v115)), (0, gx_r 7)], [.inl v175], t175, n, 0) _
  refine ex_go (S := (60, [(4, .inl v175), (3, .inl v145), (1, .inr (.inl v115)), (0, gx_r 7)], [], t175, n, 0)) rfl (fun _ => rfl) rfl ?_
  refine ex_go (S := (61, [(4, .inl v175), (3, .inl v145), (1, .inr (.inl v115)), (0, gx_r 7)], [gx_r 7], t175, n, 0)) rfl (fun _ => rfl) rfl ?_
  refine ex_go (S := (62, [(4, .inl v175), (3, .inl v145), (1, .inr (.inl v115)), (0, gx_r 7)], [gx_r 7, gx_r 7], t175, n, 0)) rfl (fun _ => rfl) rfl ?_
  refine gxo_get (a := 7) rfl s175.1 rfl rfl k89 rfl ?_
  refine gxo_ref (a := 191) (c := 224) rfl s175.1 rfl rfl rfl rfl rfl ?_
  refine ex_go (S := (69, [(4, .inl v175), (3, .inl v145), (1, .inr (.inl v115)), (0, gx_r 7)], [.inr (.inl v115), gx_r 224, gx_r 7], t175, n, 0)) rfl (fun _ => rfl) rfl ?_
  refine ex_go (S := (70, [(4, .inl v175), (3, .inl v145), (1, .inr (.inl v115)), (0, gx_r 7)], [.inl v145, .inr (.inl v115), gx_r 224, gx_r 7], t175, n, 0)) rfl (fun _ => rfl) rfl ?_
  refine ex_go (S := (72, [(4, .inl v175), (3, .inl v145), (1, .inr (.inl v115)), (0, gx_r 7)], [.inl v175, .inl v145, .inr (.inl v115), gx_r 224, gx_r 7], t175, n, 0)) rfl (fun _ => rfl) rfl ?_
  refine ex_go (S := (73, [(4, .inl v175), (3, .inl v145), (1, .inr (.inl v115)), (0, gx_r 7)], [.inl 0, .inl v175, .inl v145, .inr (.inl v115), gx_r 224, gx_r 7], t175, n, 0)) rfl (fun _ => rfl) rfl ?_
  refine ex_go (S := (74, [(4, .inl v175), (3, .inl v145), (1, .inr (.inl v115)), (0, gx_r 7)], [.inl 0, .inl 0, .inl v175, .inl v145, .inr (.inl v115), gx_r 224, gx_r 7], t175, n, 0)) rfl (fun _ => rfl) rfl ?_
  have hT91 := cT_keep (t' := t175) hT (fun c i h => (e175 c i (by first | decide | omega)).trans ((e160 c i (by first | decide | omega)).trans ((e145 c i (by first | decide | omega)).trans ((e130 c i (by first | decide | omega)).trans ((e115 c i (by first | decide | omega)).trans (e101 c i (by first | decide | omega)))))))
  obtain ⟨_, r190, t190, a190, f190, rfl, s190, e190, z190, q190, u190⟩ := pc_endRow224 (d) n (s175) hT91 (by first | decide | omega) (x := v115) (y1 := v145) (y2 := v175) (y3 := 0) (y4 := 0) k84 (fun h0 => by omega)
  have b190 := s190.2.2.2
  have y190 := z190.trans (congrArg (fs S m N 59) y175)
  refine gx_callo (a := 7) rfl rfl s175.1 rfl rfl rfl r190 rfl ?_
  have k92 : ai_hv t190 191 0 = some (.inl (σ 0 0)) := (e190 191 0 (by first | decide | omega)).trans k77
  have k93 : ai_hv t190 191 1 = some (.inl (σ 1 0)) := (e190 191 1 (by first | decide | omega)).trans k78
  have k94 : ai_hv t190 194 5 = some (.inl (σ 2 0)) := (e190 194 5 (by first | decide | omega)).trans k79
  have k95 : ai_hv t190 200 5 = some (.inl (σ 3 0)) := (e190 200 5 (by first | decide | omega)).trans k80
  have k96 : ai_hv t190 206 5 = some (.inl (σ 4 0)) := (e190 206 5 (by first | decide | omega)).trans k81
  have k97 : ai_hv t190 212 5 = some (.inl (σ 5 0)) := (e190 212 5 (by first | decide | omega)).trans k82
  have k98 : ai_hv t190 218 5 = some (.inl (σ 6 0)) := (e190 218 5 (by first | decide | omega)).trans k83
  have k99 : ai_hv t190 7 4 = some (.inl (σ 8 0)) := (e190 7 4 (by first | decide | omega)).trans k85
  have k100 : ai_hv t190 7 5 = some (.inl (σ 9 0)) := (e190 7 5 (by first | decide | omega)).trans k86
  have k101 : ai_hv t190 7 6 = some (.inl (σ 9 1)) := (e190 7 6 (by first | decide | omega)).trans k87
  have k102 : ai_hv t190 7 7 = some (.inl (σ 9 2)) := (e190 7 7 (by first | decide | omega)).trans k88
  have k103 : ai_hv t190 7 1 = some (gx_r 191) := (e190 7 1 (by first | decide | omega)).trans k89
  show en_ex _ _ _ _ (77, [(4, .inl v175), (3, .inl v145), (1, .inr (.inl v115)), (0, gx_r 7)], [], t190, n, 0) _
  refine ex_ret (r := (none, t190, n, 0)) rfl (fun _ => rfl) ?_
  have hT104 := cT_keep (t' := t190) hT (fun c i h => (e190 c i (by first | decide | omega)).trans ((e175 c i (by first | decide | omega)).trans ((e160 c i (by first | decide | omega)).trans ((e145 c i (by first | decide | omega)).trans ((e130 c i (by first | decide | omega)).trans ((e115 c i (by first | decide | omega)).trans (e101 c i (by first | decide | omega))))))))
  refine ⟨_, rfl, t190, a190, f190, rfl, s190, hT104, k103, (fun c i h => (e190 c i (by first | decide | omega)).trans ((e175 c i (by first | decide | omega)).trans ((e160 c i (by first | decide | omega)).trans ((e145 c i (by first | decide | omega)).trans ((e130 c i (by first | decide | omega)).trans ((e115 c i (by first | decide | omega)).trans (e101 c i (by first | decide | omega)))))))), y190, by omega, fun h0 => ⟨by omega, ?_⟩⟩
  obtain ⟨u1, u2, u3, u4, u5, u6⟩ := u190 h0
  have hnw : v115 = sp_wv S m (a + 1) := by rw [← show a101 = a + 1 by omega]; omega
  rw [hnw] at u2
  have hq105 : v145 = sp_nv S m (a + 1 + 2) := by rw [← show a130 = a + 1 + 2 by omega]; omega
  rw [hq105] at u3
  have hq106 : v175 = sp_nv S m (a + 1 + 4) := by rw [← show a160 = a + 1 + 4 by omega]; omega
  rw [hq106] at u4
  have xc107 : ∀ i, i < σ 2 0 → ai_hv t190 197 i = some (.inl (sp_nv S m (σ 16 i + 3) + 8 * sp_nv S m (σ 16 i + 4))) := fun i hi => ((e190 197 i (by first | decide | omega)).trans ((e175 197 i (by first | decide | omega)).trans ((e160 197 i (by first | decide | omega)).trans ((e145 197 i (by first | decide | omega)).trans ((e130 197 i (by first | decide | omega)).trans ((e115 197 i (by first | decide | omega)).trans (e101 197 i (by first | decide | omega)))))))).trans (gcb0 i hi)
  have xc108 : ∀ i, i < σ 4 0 → ai_hv t190 207 i = some (.inr (.inl (sp_wv S m (σ 21 i + 1)))) := fun i hi => ((e190 207 i (by first | decide | omega)).trans ((e175 207 i (by first | decide | omega)).trans ((e160 207 i (by first | decide | omega)).trans ((e145 207 i (by first | decide | omega)).trans ((e130 207 i (by first | decide | omega)).trans ((e115 207 i (by first | decide | omega)).trans (e101 207 i (by first | decide | omega)))))))).trans (gcb1 i hi)
  have xc109 : ∀ i, i < σ 3 0 → ai_hv t190 203 i = some (.inl (sp_nv S m (σ 20 i + 4))) := fun i hi => ((e190 203 i (by first | decide | omega)).trans ((e175 203 i (by first | decide | omega)).trans ((e160 203 i (by first | decide | omega)).trans ((e145 203 i (by first | decide | omega)).trans ((e130 203 i (by first | decide | omega)).trans ((e115 203 i (by first | decide | omega)).trans (e101 203 i (by first | decide | omega)))))))).trans (gcb2 i hi)
  have xc110 : ∀ i, i < σ 3 0 → ai_hv t190 204 i = some (.inl (sp_nv S m (σ 20 i + 6))) := fun i hi => ((e190 204 i (by first | decide | omega)).trans ((e175 204 i (by first | decide | omega)).trans ((e160 204 i (by first | decide | omega)).trans ((e145 204 i (by first | decide | omega)).trans ((e130 204 i (by first | decide | omega)).trans ((e115 204 i (by first | decide | omega)).trans (e101 204 i (by first | decide | omega)))))))).trans (gcb3 i hi)
  have xc111 : ∀ i, i < σ 3 0 → ai_hv t190 205 i = some (.inl (sp_nv S m (σ 20 i + 8))) := fun i hi => ((e190 205 i (by first | decide | omega)).trans ((e175 205 i (by first | decide | omega)).trans ((e160 205 i (by first | decide | omega)).trans ((e145 205 i (by first | decide | omega)).trans ((e130 205 i (by first | decide | omega)).trans ((e115 205 i (by first | decide | omega)).trans (e101 205 i (by first | decide | omega)))))))).trans (gcb4 i hi)
  have xc112 : ∀ i, i < σ 4 0 → ai_hv t190 209 i = some (.inl (sp_nv S m (σ 21 i + 3))) := fun i hi => ((e190 209 i (by first | decide | omega)).trans ((e175 209 i (by first | decide | omega)).trans ((e160 209 i (by first | decide | omega)).trans ((e145 209 i (by first | decide | omega)).trans ((e130 209 i (by first | decide | omega)).trans ((e115 209 i (by first | decide | omega)).trans (e101 209 i (by first | decide | omega)))))))).trans (gcb5 i hi)
  have xc113 : ∀ i, i < σ 4 0 → ai_hv t190 210 i = some (.inl (sp_nv S m (σ 21 i + 5))) := fun i hi => ((e190 210 i (by first | decide | omega)).trans ((e175 210 i (by first | decide | omega)).trans ((e160 210 i (by first | decide | omega)).trans ((e145 210 i (by first | decide | omega)).trans ((e130 210 i (by first | decide | omega)).trans ((e115 210 i (by first | decide | omega)).trans (e101 210 i (by first | decide | omega)))))))).trans (gcb6 i hi)
  have xc114 : ∀ i, i < σ 5 0 → ai_hv t190 214 i = some (.inl (sp_nv S m (σ 17 i + 2))) := fun i hi => ((e190 214 i (by first | decide | omega)).trans ((e175 214 i (by first | decide | omega)).trans ((e160 214 i (by first | decide | omega)).trans ((e145 214 i (by first | decide | omega)).trans ((e130 214 i (by first | decide | omega)).trans ((e115 214 i (by first | decide | omega)).trans (e101 214 i (by first | decide | omega)))))))).trans (gcb7 i hi)
  have xc115 : ∀ i, i < σ 5 0 → ai_hv t190 215 i = some (.inl (sp_nv S m (σ 17 i + 4))) := fun i hi => ((e190 215 i (by first | decide | omega)).trans ((e175 215 i (by first | decide | omega)).trans ((e160 215 i (by first | decide | omega)).trans ((e145 215 i (by first | decide | omega)).trans ((e130 215 i (by first | decide | omega)).trans ((e115 215 i (by first | decide | omega)).trans (e101 215 i (by first | decide | omega)))))))).trans (gcb8 i hi)
  have xc116 : ∀ i, i < σ 6 0 → ai_hv t190 220 i = some (.inl (sp_nv S m (σ 18 i + 2))) := fun i hi => ((e190 220 i (by first | decide | omega)).trans ((e175 220 i (by first | decide | omega)).trans ((e160 220 i (by first | decide | omega)).trans ((e145 220 i (by first | decide | omega)).trans ((e130 220 i (by first | decide | omega)).trans ((e115 220 i (by first | decide | omega)).trans (e101 220 i (by first | decide | omega)))))))).trans (gcb9 i hi)
  have xc117 : ∀ i, i < σ 7 0 → ai_hv t190 226 i = some (.inl (sp_nv S m (σ 19 i + 2))) := fun i hi => ((e190 226 i (by first | decide | omega)).trans ((e175 226 i (by first | decide | omega)).trans ((e160 226 i (by first | decide | omega)).trans ((e145 226 i (by first | decide | omega)).trans ((e130 226 i (by first | decide | omega)).trans ((e115 226 i (by first | decide | omega)).trans (e101 226 i (by first | decide | omega)))))))).trans (gcb10 i hi)
  have xc118 : ∀ i, i < σ 7 0 → ai_hv t190 227 i = some (.inl (sp_nv S m (σ 19 i + 4))) := fun i hi => ((e190 227 i (by first | decide | omega)).trans ((e175 227 i (by first | decide | omega)).trans ((e160 227 i (by first | decide | omega)).trans ((e145 227 i (by first | decide | omega)).trans ((e130 227 i (by first | decide | omega)).trans ((e115 227 i (by first | decide | omega)).trans (e101 227 i (by first | decide | omega)))))))).trans (gcb11 i hi)
  have xc119 : ∀ j, j < 64 → ai_hv t190 192 j = some (.inl (σ 23 j)) := fun j hj => ((e190 192 j (by first | decide | omega)).trans ((e175 192 j (by first | decide | omega)).trans ((e160 192 j (by first | decide | omega)).trans ((e145 192 j (by first | decide | omega)).trans ((e130 192 j (by first | decide | omega)).trans ((e115 192 j (by first | decide | omega)).trans (e101 192 j (by first | decide | omega)))))))).trans (gcb13 j hj)
  exact ⟨⟨k92, k93, k94, k95, k96, k97, k98, u1, k99, k100, k101, k102⟩, (fun i hi => ⟨((fun i hi => ((e190 195 i (by first | decide | omega)).trans ((e175 195 i (by first | decide | omega)).trans ((e160 195 i (by first | decide | omega)).trans ((e145 195 i (by first | decide | omega)).trans ((e130 195 i (by first | decide | omega)).trans ((e115 195 i (by first | decide | omega)).trans (e101 195 i (by first | decide | omega)))))))).trans (hAt i hi).1)) i hi, ((fun i hi => ((e190 196 i (by first | decide | omega)).trans ((e175 196 i (by first | decide | omega)).trans ((e160 196 i (by first | decide | omega)).trans ((e145 196 i (by first | decide | omega)).trans ((e130 196 i (by first | decide | omega)).trans ((e115 196 i (by first | decide | omega)).trans (e101 196 i (by first | decide | omega)))))))).trans (hAt i hi).2)) i hi⟩), (fun i hi => ((e190 202 i (by first | decide | omega)).trans ((e175 202 i (by first | decide | omega)).trans ((e160 202 i (by first | decide | omega)).trans ((e145 202 i (by first | decide | omega)).trans ((e130 202 i (by first | decide | omega)).trans ((e115 202 i (by first | decide | omega)).trans (e101 202 i (by first | decide | omega)))))))).trans (hAl i hi)), (fun i hi => ((e190 208 i (by first | decide | omega)).trans ((e175 208 i (by first | decide | omega)).trans ((e160 208 i (by first | decide | omega)).trans ((e145 208 i (by first | decide | omega)).trans ((e130 208 i (by first | decide | omega)).trans ((e115 208 i (by first | decide | omega)).trans (e101 208 i (by first | decide | omega)))))))).trans (hAc i hi)), (fun i hi => ((e190 213 i (by first | decide | omega)).trans ((e175 213 i (by first | decide | omega)).trans ((e160 213 i (by first | decide | omega)).trans ((e145 213 i (by first | decide | omega)).trans ((e130 213 i (by first | decide | omega)).trans ((e115 213 i (by first | decide | omega)).trans (e101 213 i (by first | decide | omega)))))))).trans (hAg i hi)), (fun i hi => ((e190 219 i (by first | decide | omega)).trans ((e175 219 i (by first | decide | omega)).trans ((e160 219 i (by first | decide | omega)).trans ((e145 219 i (by first | decide | omega)).trans ((e130 219 i (by first | decide | omega)).trans ((e115 219 i (by first | decide | omega)).trans (e101 219 i (by first | decide | omega)))))))).trans (hAs i hi)), (cl_up (g := σ 19) (fun i hi => ((e190 225 i (by first | decide | omega)).trans ((e175 225 i (by first | decide | omega)).trans ((e160 225 i (by first | decide | omega)).trans ((e145 225 i (by first | decide | omega)).trans ((e130 225 i (by first | decide | omega)).trans ((e115 225 i (by first | decide | omega)).trans (e101 225 i (by first | decide | omega)))))))).trans (hAo i hi)) u2), xc107, xc108, xc109, xc110, xc111, xc112, xc113, xc114, xc115, xc116, ct_up (g := σ 19) xc117 u3, ct_up (g := σ 19) xc118 u4, ((e190 191 2 (by first | decide | omega)).trans ((e175 191 2 (by first | decide | omega)).trans ((e160 191 2 (by first | decide | omega)).trans ((e145 191 2 (by first | decide | omega)).trans ((e130 191 2 (by first | decide | omega)).trans ((e115 191 2 (by first | decide | omega)).trans (e101 191 2 (by first | decide | omega)))))))).trans gcb12, xc119⟩
theorem pc_drift191_l (d n : Nat) {a f row fl fr to : Nat} {tb : en_H} {Q : en_O → Prop} (hr : row ≤ 7) (hfl : fl ≤ 4) (hto : to ≤ 7) (hP : ai_hv tb 7 1 = some (gx_r 191)) (hQ : ∀ t1, cS t1 a f → (∀ c i, ¬ c = 192 → ai_hv t1 c i = ai_hv tb c i) → ((∀ j, 8 * row + fr ≤ j → j < 8 * row + (to + 1) → ai_hv t1 192 j = some (.inl fl)) ∧ (∀ j, ¬ (8 * row + fr ≤ j ∧ j < 8 * row + (to + 1)) → ai_hv t1 192 j = ai_hv tb 192 j)) → Q (.inl (none, t1, n, 0))) : ∀ j x t0, x + j = 8 → (fr ≤ x ∧ x ≤ to + 1) → cS t0 a f → (∀ c i, ¬ c = 192 → ai_hv t0 c i = ai_hv tb c i) → ((∀ j, 8 * row + fr ≤ j → j < 8 * row + x → ai_hv t0 192 j = some (.inl fl)) ∧ (∀ j, ¬ (8 * row + fr ≤ j ∧ j < 8 * row + x) → ai_hv t0 192 j = ai_hv tb 192 j)) → en_ex none (en_u (d + 1)) (en_code 231) (fun _ => false) (93, [(5, .inl x), (4, .inl to), (3, .inl fr), (2, .inl fl), (1, .inl row), (0, gx_r 7)], [], t0, n, 0) Q := by
  intro j
  induction j with
  | zero =>
    intro x t0 hx hxt s0 h0 hD
    have b0 := s0.2.2.2
    refine ex_go (S := (95, [(5, .inl x), (4, .inl to), (3, .inl fr), (2, .inl fl), (1, .inl row), (0, gx_r 7)], [.inl x], t0, n, 0)) rfl (fun _ => rfl) rfl ?_
    refine ex_go (S := (97, [(5, .inl x), (4, .inl to), (3, .inl fr), (2, .inl fl), (1, .inl row), (0, gx_r 7)], [.inl to, .inl x], t0, n, 0)) rfl (fun _ => rfl) rfl ?_
    refine gx_2t (c := .gt) rfl (by first | decide | omega) (by first | decide | omega) (show to < x from by omega) rfl ?_
    refine ex_ret (r := (none, t0, n, 0)) rfl (fun _ => rfl) ?_
    refine hQ t0 s0 (fun c i h => h0 c i h) ?_
    have he9 : to + 1 = x := by omega
    rw [he9]
    exact hD
  | succ j ih =>
    intro x t0 hx hxt s0 h0 hD
    have b0 := s0.2.2.2
    have kp := (h0 7 1 (by first | decide | omega)).trans hP
    refine ex_go (S := (95, [(5, .inl x), (4, .inl to), (3, .inl fr), (2, .inl fl), (1, .inl row), (0, gx_r 7)], [.inl x], t0, n, 0)) rfl (fun _ => rfl) rfl ?_
    refine ex_go (S := (97, [(5, .inl x), (4, .inl to), (3, .inl fr), (2, .inl fl), (1, .inl row), (0, gx_r 7)], [.inl to, .inl x], t0, n, 0)) rfl (fun _ => rfl) rfl ?_
    by_cases hc1 : to < x
    · refine gx_2t (c := .gt) rfl (by first | decide | omega) (by first | decide | omega) hc1 rfl ?_
      refine ex_ret (r := (none, t0, n, 0)) rfl (fun _ => rfl) ?_
      refine hQ t0 s0 (fun c i h => h0 c i h) ?_
      have he9 : to + 1 = x := by omega
      rw [he9]
      exact hD
    · refine gx_2f (c := .gt) rfl (by first | decide | omega) (by first | decide | omega) hc1 rfl ?_
      refine ex_go (S := (101, [(5, .inl x), (4, .inl to), (3, .inl fr), (2, .inl fl), (1, .inl row), (0, gx_r 7)], [gx_r 7], t0, n, 0)) rfl (fun _ => rfl) rfl ?_
      refine gxo_get (a := 7) rfl s0.1 rfl rfl kp rfl ?_
      refine gxo_ref (a := 191) (c := 192) rfl s0.1 rfl rfl rfl rfl rfl ?_
      refine ex_go (S := (109, [(5, .inl x), (4, .inl to), (3, .inl fr), (2, .inl fl), (1, .inl row), (0, gx_r 7)], [.inl x, gx_r 192], t0, n, 0)) rfl (fun _ => rfl) rfl ?_
      refine ex_go (S := (110, [(5, .inl x), (4, .inl to), (3, .inl fr), (2, .inl fl), (1, .inl row), (0, gx_r 7)], [.inl row, .inl x, gx_r 192], t0, n, 0)) rfl (fun _ => rfl) rfl ?_
      obtain ⟨_, r2, rfl⟩ := pc_placeOf (d) n (t0 := t0) (x := x) (y := row) (by first | decide | omega) (by first | decide | omega)
      refine ex_stat rfl rfl rfl rfl rfl r2 (Nat.le_refl _) rfl ?_
      show en_ex _ _ _ _ (113, [(5, .inl x), (4, .inl to), (3, .inl fr), (2, .inl fl), (1, .inl row), (0, gx_r 7)], [.inl (x + (8 * row)), gx_r 192], t0, n, 0) _
      refine ex_go (S := (114, [(5, .inl x), (4, .inl to), (3, .inl fr), (2, .inl fl), (1, .inl row), (0, gx_r 7)], [.inl fl, .inl (x + (8 * row)), gx_r 192], t0, n, 0)) rfl (fun _ => rfl) rfl ?_
      refine gx_ap rfl (fun _ => rfl) s0.1 rfl rfl rfl (show x + (8 * row) < 64 from by omega) (gx_run1 (show x + (8 * row) < 64 from by omega)) (ai_in_h (by first | decide | omega) (by first | decide | omega) (by first | decide | omega)) rfl (fun t103 g103 k103 e103 => ?_)
      have k4 : ai_hv t103 7 1 = some (gx_r 191) := (e103 7 1 (by first | decide | omega)).trans kp
      have s103 : cS t103 a f := ⟨g103, (e103 1 8 (by first | decide | omega)).trans s0.2.1, (e103 1 1 (by first | decide | omega)).trans s0.2.2.1, s0.2.2.2⟩
      refine gx_iinc (i := 5) (k := 1) rfl (fun _ => rfl) (by first | decide | omega) rfl ?_
      show en_ex _ _ _ _ (118, [(5, .inl (x + 1)), (4, .inl to), (3, .inl fr), (2, .inl fl), (1, .inl row), (0, gx_r 7)], [], t103, n, 0) _
      refine ex_go (S := (93, [(5, .inl (x + 1)), (4, .inl to), (3, .inl fr), (2, .inl fl), (1, .inl row), (0, gx_r 7)], [], t103, n, 0)) rfl (fun _ => rfl) rfl ?_
      refine ih (x + 1) t103 (by first | decide | omega) (by first | decide | omega) s103 (fun c i h => (e103 c i (by first | decide | omega)).trans (h0 c i h)) ?_
      obtain ⟨d1, d2⟩ := hD
      refine ⟨fun j9 g1 g2 => ?_, fun j9 g1 => ?_⟩
      · by_cases e9 : j9 = 8 * row + x
        · rw [show j9 = x + (8 * row) by omega]; exact k103
        · exact (e103 192 j9 (by first | decide | omega)).trans (d1 j9 g1 (by first | decide | omega))
      · exact (e103 192 j9 (by first | decide | omega)).trans (d2 j9 (by first | decide | omega))
theorem pc_driftLine191 (d n : Nat) {t0 : en_H} {a : Nat} {S : Nat → Nat} {m N : Nat} {σ : Nat → Nat → Nat} (s0 : cS t0 a 0) (hT : cT t0 S m N) (ha : a < N) (hP : ai_hv t0 7 1 = some (gx_r 191)) (hA : CA t0 191 S m σ) (h3 : W3 S m N σ) : ∃ r, en_u (d + 4) 231 [gx_r 7] t0 n = some r ∧ ∃ t' a' f', r = (none, t', n, 0) ∧ cS t' a' f' ∧ cT t' S m N ∧ ai_hv t' 7 1 = some (gx_r 191) ∧ cW 191 t0 t' ∧ (a', f') = fs S m N 59 (sl_drift S m N σ a) ∧ a' ≤ N ∧ (f' = 0 → a < a' ∧ CA t' 191 S m (sn_drift S m N σ a)) := by
  have b0 := s0.2.2.2
  have hN := hT.2.2.2.2.2.2.1
  have hA0 := hA
  obtain ⟨⟨kk0, kk1, kk2, kk3, kk4, kk5, kk6, kk7, kk8, kk9, kk10, kk11⟩, hAt, hAl, hAc, hAg, hAs, hAo, gcb0, gcb1, gcb2, gcb3, gcb4, gcb5, gcb6, gcb7, gcb8, gcb9, gcb10, gcb11, gcb12, gcb13⟩ := hA0
  have kk0 : ai_hv t0 191 0 = some (.inl (σ 0 0)) := kk0
  have kk1 : ai_hv t0 191 1 = some (.inl (σ 1 0)) := kk1
  have kk2 : ai_hv t0 194 5 = some (.inl (σ 2 0)) := kk2
  have kk3 : ai_hv t0 200 5 = some (.inl (σ 3 0)) := kk3
  have kk4 : ai_hv t0 206 5 = some (.inl (σ 4 0)) := kk4
  have kk5 : ai_hv t0 212 5 = some (.inl (σ 5 0)) := kk5
  have kk6 : ai_hv t0 218 5 = some (.inl (σ 6 0)) := kk6
  have kk7 : ai_hv t0 224 5 = some (.inl (σ 7 0)) := kk7
  have hBB := h3.1.1
  refine en_u_ex (d := d + 3) rfl ?_
  show en_ex _ _ _ _ (0, [(0, gx_r 7)], [], t0, n, 0) _
  refine ex_go (S := (1, [(0, gx_r 7)], [gx_r 7], t0, n, 0)) rfl (fun _ => rfl) rfl ?_
  refine gxo_ref (a := 7) (c := 1) rfl s0.1 rfl rfl rfl rfl rfl ?_
  obtain ⟨_, r101, t101, a101, f101, rfl, s101, e101, q101⟩ := pc_goOn (d + 2) n (s0) hT (by first | decide | omega) 
  have b101 := s101.2.2.2
  refine gx_callo (a := 1) rfl rfl s0.1 rfl rfl rfl r101 rfl ?_
  have k2 : ai_hv t101 191 0 = some (.inl (σ 0 0)) := (e101 191 0 (by first | decide | omega)).trans kk0
  have k3 : ai_hv t101 191 1 = some (.inl (σ 1 0)) := (e101 191 1 (by first | decide | omega)).trans kk1
  have k4 : ai_hv t101 194 5 = some (.inl (σ 2 0)) := (e101 194 5 (by first | decide | omega)).trans kk2
  have k5 : ai_hv t101 200 5 = some (.inl (σ 3 0)) := (e101 200 5 (by first | decide | omega)).trans kk3
  have k6 : ai_hv t101 206 5 = some (.inl (σ 4 0)) := (e101 206 5 (by first | decide | omega)).trans kk4
  have k7 : ai_hv t101 212 5 = some (.inl (σ 5 0)) := (e101 212 5 (by first | decide | omega)).trans kk5
  have k8 : ai_hv t101 218 5 = some (.inl (σ 6 0)) := (e101 218 5 (by first | decide | omega)).trans kk6
  have k9 : ai_hv t101 224 5 = some (.inl (σ 7 0)) := (e101 224 5 (by first | decide | omega)).trans kk7
  have k10 : ai_hv t101 7 4 = some (.inl (σ 8 0)) := (e101 7 4 (by first | decide | omega)).trans kk8
  have k11 : ai_hv t101 7 5 = some (.inl (σ 9 0)) := (e101 7 5 (by first | decide | omega)).trans kk9
  have k12 : ai_hv t101 7 6 = some (.inl (σ 9 1)) := (e101 7 6 (by first | decide | omega)).trans kk10
  have k13 : ai_hv t101 7 7 = some (.inl (σ 9 2)) := (e101 7 7 (by first | decide | omega)).trans kk11
  have k14 : ai_hv t101 7 1 = some (gx_r 191) := (e101 7 1 (by first | decide | omega)).trans hP
  show en_ex _ _ _ _ (7, [(0, gx_r 7)], [], t101, n, 0) _
  have ya : (a101, f101) = (a + 1, 0) := Prod.ext (by show a101 = a + 1; omega) (by show f101 = 0; omega)
  refine ex_go (S := (8, [(0, gx_r 7)], [gx_r 7], t101, n, 0)) rfl (fun _ => rfl) rfl ?_
  refine gxo_ref (a := 7) (c := 1) rfl s101.1 rfl rfl rfl rfl rfl ?_
  refine ex_go (S := (12, [(0, gx_r 7)], [.inl 0, gx_r 1], t101, n, 0)) rfl (fun _ => rfl) rfl ?_
  refine ex_go (S := (13, [(0, gx_r 7)], [gx_r 7, .inl 0, gx_r 1], t101, n, 0)) rfl (fun _ => rfl) rfl ?_
  refine gxo_get (a := 7) rfl s101.1 rfl rfl k14 rfl ?_
  refine gxo_get (a := 191) rfl s101.1 rfl rfl k3 rfl ?_
  refine ex_go (S := (20, [(0, gx_r 7)], [.inl 1, .inl (σ 1 0), .inl 0, gx_r 1], t101, n, 0)) rfl (fun _ => rfl) rfl ?_
  refine gx_isub rfl (by first | decide | omega) (by first | decide | omega) rfl ?_
  have hT16 := cT_keep (t' := t101) hT (fun c i h => e101 c i (by first | decide | omega))
  obtain ⟨_, r115, v115, t115, a115, f115, rfl, s115, e115, z115, q115⟩ := pc_takeNumber (d + 1) n (s101) hT16 (by first | decide | omega) (lo := 0) (hi := (σ 1 0) - 1) (by first | decide | omega) (by first | decide | omega) (by first | decide | omega)
  have b115 := s115.2.2.2
  have y115 := z115.trans (congrArg (fn S m N 0 ((σ 1 0) - 1)) ya)
  refine gx_callo (a := 1) rfl rfl s101.1 rfl rfl rfl r115 rfl ?_
  have k17 : ai_hv t115 191 0 = some (.inl (σ 0 0)) := (e115 191 0 (by first | decide | omega)).trans k2
  have k18 : ai_hv t115 191 1 = some (.inl (σ 1 0)) := (e115 191 1 (by first | decide | omega)).trans k3
  have k19 : ai_hv t115 194 5 = some (.inl (σ 2 0)) := (e115 194 5 (by first | decide | omega)).trans k4
  have k20 : ai_hv t115 200 5 = some (.inl (σ 3 0)) := (e115 200 5 (by first | decide | omega)).trans k5
  have k21 : ai_hv t115 206 5 = some (.inl (σ 4 0)) := (e115 206 5 (by first | decide | omega)).trans k6
  have k22 : ai_hv t115 212 5 = some (.inl (σ 5 0)) := (e115 212 5 (by first | decide | omega)).trans k7
  have k23 : ai_hv t115 218 5 = some (.inl (σ 6 0)) := (e115 218 5 (by first | decide | omega)).trans k8
  have k24 : ai_hv t115 224 5 = some (.inl (σ 7 0)) := (e115 224 5 (by first | decide | omega)).trans k9
  have k25 : ai_hv t115 7 4 = some (.inl (σ 8 0)) := (e115 7 4 (by first | decide | omega)).trans k10
  have k26 : ai_hv t115 7 5 = some (.inl (σ 9 0)) := (e115 7 5 (by first | decide | omega)).trans k11
  have k27 : ai_hv t115 7 6 = some (.inl (σ 9 1)) := (e115 7 6 (by first | decide | omega)).trans k12
  have k28 : ai_hv t115 7 7 = some (.inl (σ 9 2)) := (e115 7 7 (by first | decide | omega)).trans k13
  have k29 : ai_hv t115 7 1 = some (gx_r 191) := (e115 7 1 (by first | decide | omega)).trans k14
  show en_ex _ _ _ _ (24, [(0, gx_r 7)], [.inl v115], t115, n, 0) _
  refine ex_go (S := (25, [(1, .inl v115), (0, gx_r 7)], [], t115, n, 0)) rfl (fun _ => rfl) rfl ?_
  refine ex_go (S := (26, [(1, .inl v115), (0, gx_r 7)], [gx_r 7], t115, n, 0)) rfl (fun _ => rfl) rfl ?_
  refine gxo_ref (a := 7) (c := 1) rfl s115.1 rfl rfl rfl rfl rfl ?_
  refine ex_go (S := (30, [(1, .inl v115), (0, gx_r 7)], [.inl 1, gx_r 1], t115, n, 0)) rfl (fun _ => rfl) rfl ?_
  have hT31 := cT_keep (t' := t115) hT (fun c i h => (e115 c i (by first | decide | omega)).trans (e101 c i (by first | decide | omega)))
  obtain ⟨_, r130, v130, t130, a130, f130, rfl, s130, e130, z130, q130⟩ := pc_takeRank1 (d + 1) n (s115) hT31 (by first | decide | omega) 
  have b130 := s130.2.2.2
  have y130 := z130.trans (congrArg (fo S m N 26 5) y115)
  refine gx_callo (a := 1) rfl rfl s115.1 rfl rfl rfl r130 rfl ?_
  have k32 : ai_hv t130 191 0 = some (.inl (σ 0 0)) := (e130 191 0 (by first | decide | omega)).trans k17
  have k33 : ai_hv t130 191 1 = some (.inl (σ 1 0)) := (e130 191 1 (by first | decide | omega)).trans k18
  have k34 : ai_hv t130 194 5 = some (.inl (σ 2 0)) := (e130 194 5 (by first | decide | omega)).trans k19
  have k35 : ai_hv t130 200 5 = some (.inl (σ 3 0)) := (e130 200 5 (by first | decide | omega)).trans k20
  have k36 : ai_hv t130 206 5 = some (.inl (σ 4 0)) := (e130 206 5 (by first | decide | omega)).trans k21
  have k37 : ai_hv t130 212 5 = some (.inl (σ 5 0)) := (e130 212 5 (by first | decide | omega)).trans k22
  have k38 : ai_hv t130 218 5 = some (.inl (σ 6 0)) := (e130 218 5 (by first | decide | omega)).trans k23
  have k39 : ai_hv t130 224 5 = some (.inl (σ 7 0)) := (e130 224 5 (by first | decide | omega)).trans k24
  have k40 : ai_hv t130 7 4 = some (.inl (σ 8 0)) := (e130 7 4 (by first | decide | omega)).trans k25
  have k41 : ai_hv t130 7 5 = some (.inl (σ 9 0)) := (e130 7 5 (by first | decide | omega)).trans k26
  have k42 : ai_hv t130 7 6 = some (.inl (σ 9 1)) := (e130 7 6 (by first | decide | omega)).trans k27
  have k43 : ai_hv t130 7 7 = some (.inl (σ 9 2)) := (e130 7 7 (by first | decide | omega)).trans k28
  have k44 : ai_hv t130 7 1 = some (gx_r 191) := (e130 7 1 (by first | decide | omega)).trans k29
  show en_ex _ _ _ _ (33, [(1, .inl v115), (0, gx_r 7)], [.inl v130], t130, n, 0) _
  refine ex_go (S := (34, [(2, .inl v130), (1, .inl v115), (0, gx_r 7)], [], t130, n, 0)) rfl (fun _ => rfl) rfl ?_
  refine ex_go (S := (35, [(2, .inl v130), (1, .inl v115), (0, gx_r 7)], [gx_r 7], t130, n, 0)) rfl (fun _ => rfl) rfl ?_
  refine gxo_ref (a := 7) (c := 1) rfl s130.1 rfl rfl rfl rfl rfl ?_
  refine ex_go (S := (39, [(2, .inl v130), (1, .inl v115), (0, gx_r 7)], [.inl 0, gx_r 1], t130, n, 0)) rfl (fun _ => rfl) rfl ?_
  refine ex_go (S := (40, [(2, .inl v130), (1, .inl v115), (0, gx_r 7)], [gx_r 7, .inl 0, gx_r 1], t130, n, 0)) rfl (fun _ => rfl) rfl ?_
  refine gxo_get (a := 7) rfl s130.1 rfl rfl k44 rfl ?_
  refine gxo_get (a := 191) rfl s130.1 rfl rfl k32 rfl ?_
  refine ex_go (S := (47, [(2, .inl v130), (1, .inl v115), (0, gx_r 7)], [.inl 1, .inl (σ 0 0), .inl 0, gx_r 1], t130, n, 0)) rfl (fun _ => rfl) rfl ?_
  refine gx_isub rfl (by first | decide | omega) (by first | decide | omega) rfl ?_
  have hT46 := cT_keep (t' := t130) hT (fun c i h => (e130 c i (by first | decide | omega)).trans ((e115 c i (by first | decide | omega)).trans (e101 c i (by first | decide | omega))))
  obtain ⟨_, r145, v145, t145, a145, f145, rfl, s145, e145, z145, q145⟩ := pc_takeNumber (d + 1) n (s130) hT46 (by first | decide | omega) (lo := 0) (hi := (σ 0 0) - 1) (by first | decide | omega) (by first | decide | omega) (by first | decide | omega)
  have b145 := s145.2.2.2
  have y145 := z145.trans (congrArg (fn S m N 0 ((σ 0 0) - 1)) y130)
  refine gx_callo (a := 1) rfl rfl s130.1 rfl rfl rfl r145 rfl ?_
  have k47 : ai_hv t145 191 0 = some (.inl (σ 0 0)) := (e145 191 0 (by first | decide | omega)).trans k32
  have k48 : ai_hv t145 191 1 = some (.inl (σ 1 0)) := (e145 191 1 (by first | decide | omega)).trans k33
  have k49 : ai_hv t145 194 5 = some (.inl (σ 2 0)) := (e145 194 5 (by first | decide | omega)).trans k34
  have k50 : ai_hv t145 200 5 = some (.inl (σ 3 0)) := (e145 200 5 (by first | decide | omega)).trans k35
  have k51 : ai_hv t145 206 5 = some (.inl (σ 4 0)) := (e145 206 5 (by first | decide | omega)).trans k36
  have k52 : ai_hv t145 212 5 = some (.inl (σ 5 0)) := (e145 212 5 (by first | decide | omega)).trans k37
  have k53 : ai_hv t145 218 5 = some (.inl (σ 6 0)) := (e145 218 5 (by first | decide | omega)).trans k38
  have k54 : ai_hv t145 224 5 = some (.inl (σ 7 0)) := (e145 224 5 (by first | decide | omega)).trans k39
  have k55 : ai_hv t145 7 4 = some (.inl (σ 8 0)) := (e145 7 4 (by first | decide | omega)).trans k40
  have k56 : ai_hv t145 7 5 = some (.inl (σ 9 0)) := (e145 7 5 (by first | decide | omega)).trans k41
  have k57 : ai_hv t145 7 6 = some (.inl (σ 9 1)) := (e145 7 6 (by first | decide | omega)).trans k42
  have k58 : ai_hv t145 7 7 = some (.inl (σ 9 2)) := (e145 7 7 (by first | decide | omega)).trans k43
  have k59 : ai_hv t145 7 1 = some (gx_r 191) := (e145 7 1 (by first | decide | omega)).trans k44
  show en_ex _ _ _ _ (51, [(2, .inl v130), (1, .inl v115), (0, gx_r 7)], [.inl v145], t145, n, 0) _
  refine ex_go (S := (52, [(3, .inl v145), (2, .inl v130), (1, .inl v115), (0, gx_r 7)], [], t145, n, 0)) rfl (fun _ => rfl) rfl ?_
  refine ex_go (S := (53, [(3, .inl v145), (2, .inl v130), (1, .inl v115), (0, gx_r 7)], [gx_r 7], t145, n, 0)) rfl (fun _ => rfl) rfl ?_
  refine gxo_ref (a := 7) (c := 1) rfl s145.1 rfl rfl rfl rfl rfl ?_
  refine ex_go (S := (57, [(3, .inl v145), (2, .inl v130), (1, .inl v115), (0, gx_r 7)], [.inl v145, gx_r 1], t145, n, 0)) rfl (fun _ => rfl) rfl ?_
  refine ex_go (S := (58, [(3, .inl v145), (2, .inl v130), (1, .inl v115), (0, gx_r 7)], [gx_r 7, .inl v145, gx_r 1], t145, n, 0)) rfl (fun _ => rfl) rfl ?_
  refine gxo_get (a := 7) rfl s145.1 rfl rfl k59 rfl ?_
  refine gxo_get (a := 191) rfl s145.1 rfl rfl k47 rfl ?_
  refine ex_go (S := (65, [(3, .inl v145), (2, .inl v130), (1, .inl v115), (0, gx_r 7)], [.inl 1, .inl (σ 0 0), .inl v145, gx_r 1], t145, n, 0)) rfl (fun _ => rfl) rfl ?_
  refine gx_isub rfl (by first | decide | omega) (by first | decide | omega) rfl ?_
  have hT61 := cT_keep (t' := t145) hT (fun c i h => (e145 c i (by first | decide | omega)).trans ((e130 c i (by first | decide | omega)).trans ((e115 c i (by first | decide | omega)).trans (e101 c i (by first | decide | omega)))))
  obtain ⟨_, r160, v160, t160, a160, f160, rfl, s160, e160, z160, q160⟩ := pc_takeNumber (d + 1) n (s145) hT61 (by first | decide | omega) (lo := v145) (hi := (σ 0 0) - 1) (by first | decide | omega) (by first | decide | omega) (by first | decide | omega)
  have b160 := s160.2.2.2
  have y160 := z160.trans (congrArg (fn S m N v145 ((σ 0 0) - 1)) y145)
  refine gx_callo (a := 1) rfl rfl s145.1 rfl rfl rfl r160 rfl ?_
  have k62 : ai_hv t160 191 0 = some (.inl (σ 0 0)) := (e160 191 0 (by first | decide | omega)).trans k47
  have k63 : ai_hv t160 191 1 = some (.inl (σ 1 0)) := (e160 191 1 (by first | decide | omega)).trans k48
  have k64 : ai_hv t160 194 5 = some (.inl (σ 2 0)) := (e160 194 5 (by first | decide | omega)).trans k49
  have k65 : ai_hv t160 200 5 = some (.inl (σ 3 0)) := (e160 200 5 (by first | decide | omega)).trans k50
  have k66 : ai_hv t160 206 5 = some (.inl (σ 4 0)) := (e160 206 5 (by first | decide | omega)).trans k51
  have k67 : ai_hv t160 212 5 = some (.inl (σ 5 0)) := (e160 212 5 (by first | decide | omega)).trans k52
  have k68 : ai_hv t160 218 5 = some (.inl (σ 6 0)) := (e160 218 5 (by first | decide | omega)).trans k53
  have k69 : ai_hv t160 224 5 = some (.inl (σ 7 0)) := (e160 224 5 (by first | decide | omega)).trans k54
  have k70 : ai_hv t160 7 4 = some (.inl (σ 8 0)) := (e160 7 4 (by first | decide | omega)).trans k55
  have k71 : ai_hv t160 7 5 = some (.inl (σ 9 0)) := (e160 7 5 (by first | decide | omega)).trans k56
  have k72 : ai_hv t160 7 6 = some (.inl (σ 9 1)) := (e160 7 6 (by first | decide | omega)).trans k57
  have k73 : ai_hv t160 7 7 = some (.inl (σ 9 2)) := (e160 7 7 (by first | decide | omega)).trans k58
  have k74 : ai_hv t160 7 1 = some (gx_r 191) := (e160 7 1 (by first | decide | omega)).trans k59
  show en_ex _ _ _ _ (69, [(3, .inl v145), (2, .inl v130), (1, .inl v115), (0, gx_r 7)], [.inl v160], t160, n, 0) _
  refine ex_go (S := (71, [(4, .inl v160), (3, .inl v145), (2, .inl v130), (1, .inl v115), (0, gx_r 7)], [], t160, n, 0)) rfl (fun _ => rfl) rfl ?_
  refine ex_go (S := (72, [(4, .inl v160), (3, .inl v145), (2, .inl v130), (1, .inl v115), (0, gx_r 7)], [gx_r 7], t160, n, 0)) rfl (fun _ => rfl) rfl ?_
  refine gxo_ref (a := 7) (c := 1) rfl s160.1 rfl rfl rfl rfl rfl ?_
  refine ex_go (S := (77, [(4, .inl v160), (3, .inl v145), (2, .inl v130), (1, .inl v115), (0, gx_r 7)], [.inl 59, gx_r 1], t160, n, 0)) rfl (fun _ => rfl) rfl ?_
  have hT76 := cT_keep (t' := t160) hT (fun c i h => (e160 c i (by first | decide | omega)).trans ((e145 c i (by first | decide | omega)).trans ((e130 c i (by first | decide | omega)).trans ((e115 c i (by first | decide | omega)).trans (e101 c i (by first | decide | omega))))))
  obtain ⟨_, r175, t175, a175, f175, rfl, s175, e175, z175, q175⟩ := pc_takeSign (d + 1) n (s160) hT76 (by first | decide | omega) (w := 59) (by first | decide | omega)
  have b175 := s175.2.2.2
  have y175 := z175.trans (congrArg (fs S m N 59) y160)
  refine gx_callo (a := 1) rfl rfl s160.1 rfl rfl rfl r175 rfl ?_
  have k77 : ai_hv t175 191 0 = some (.inl (σ 0 0)) := (e175 191 0 (by first | decide | omega)).trans k62
  have k78 : ai_hv t175 191 1 = some (.inl (σ 1 0)) := (e175 191 1 (by first | decide | omega)).trans k63
  have k79 : ai_hv t175 194 5 = some (.inl (σ 2 0)) := (e175 194 5 (by first | decide | omega)).trans k64
  have k80 : ai_hv t175 200 5 = some (.inl (σ 3 0)) := (e175 200 5 (by first | decide | omega)).trans k65
  have k81 : ai_hv t175 206 5 = some (.inl (σ 4 0)) := (e175 206 5 (by first | decide | omega)).trans k66
  have k82 : ai_hv t175 212 5 = some (.inl (σ 5 0)) := (e175 212 5 (by first | decide | omega)).trans k67
  have k83 : ai_hv t175 218 5 = some (.inl (σ 6 0)) := (e175 218 5 (by first | decide | omega)).trans k68
  have k84 : ai_hv t175 224 5 = some (.inl (σ 7 0)) := (e175 224 5 (by first | decide | omega)).trans k69
  have k85 : ai_hv t175 7 4 = some (.inl (σ 8 0)) := (e175 7 4 (by first | decide | omega)).trans k70
  have k86 : ai_hv t175 7 5 = some (.inl (σ 9 0)) := (e175 7 5 (by first | decide | omega)).trans k71
  have k87 : ai_hv t175 7 6 = some (.inl (σ 9 1)) := (e175 7 6 (by first | decide | omega)).trans k72
  have k88 : ai_hv t175 7 7 = some (.inl (σ 9 2)) := (e175 7 7 (by first | decide | omega)).trans k73
  have k89 : ai_hv t175 7 1 = some (gx_r 191) := (e175 7 1 (by first | decide | omega)).trans k74
  show en_ex _ _ _ _ (80, [(4, .inl v160), (3, .inl v145), (2, .inl v130), (1, .inl v115), (0, gx_r 7)], [], t175, n, 0) _
  refine ex_go (S := (81, [(4, .inl v160), (3, .inl v145), (2, .inl v130), (1, .inl v115), (0, gx_r 7)], [gx_r 7], t175, n, 0)) rfl (fun _ => rfl) rfl ?_
  refine gxo_ref (a := 7) (c := 1) rfl s175.1 rfl rfl rfl rfl rfl ?_
  refine gxo_get (a := 1) rfl s175.1 rfl rfl s175.2.2.1 rfl ?_
  by_cases hc90 : f175 ≠ 0
  · refine gx_1t (c := .ne) rfl (by first | decide | omega) hc90 rfl ?_
    refine ex_ret (r := (none, t175, n, 0)) rfl (fun _ => rfl) ?_
    have h3v : f145 = 0 → v145 = sp_nv S m (a + 3) := fun z => by rw [← show a130 = a + 3 by omega]; omega
    have y9 : (a175, f175) = fs S m N 59 (sl_drift S m N σ a) := by
      have y8 := y160.trans (fn_any (lo' := sp_nv S m (a + 3)) (hi' := σ 0 0 - 1) (fun h => ⟨h3v ((congrArg Prod.snd y145).trans h), rfl⟩))
      unfold sl_drift
      rw [← y8]; exact z175
    have hT91 := cT_keep (t' := t175) hT (fun c i h => (e175 c i (by first | decide | omega)).trans ((e160 c i (by first | decide | omega)).trans ((e145 c i (by first | decide | omega)).trans ((e130 c i (by first | decide | omega)).trans ((e115 c i (by first | decide | omega)).trans (e101 c i (by first | decide | omega)))))))
    exact ⟨_, rfl, t175, a175, f175, rfl, s175, hT91, k89, (fun c i h => (e175 c i (by first | decide | omega)).trans ((e160 c i (by first | decide | omega)).trans ((e145 c i (by first | decide | omega)).trans ((e130 c i (by first | decide | omega)).trans ((e115 c i (by first | decide | omega)).trans (e101 c i (by first | decide | omega))))))), y9, by omega, fun h0 => by omega⟩
  · refine gx_1f (c := .ne) rfl (by first | decide | omega) hc90 rfl ?_
    refine ex_go (S := (91, [(4, .inl v160), (3, .inl v145), (2, .inl v130), (1, .inl v115), (0, gx_r 7)], [.inl v145], t175, n, 0)) rfl (fun _ => rfl) rfl ?_
    refine ex_go (S := (93, [(5, .inl v145), (4, .inl v160), (3, .inl v145), (2, .inl v130), (1, .inl v115), (0, gx_r 7)], [], t175, n, 0)) rfl (fun _ => rfl) rfl ?_
    have hqr := q115
    have hqf := q145
    have hqt := q160
    refine pc_drift191_l (d + 2) n (tb := t175) (by first | decide | omega) (by first | decide | omega) (by first | decide | omega) k89 (fun t192 s192 e192 dq192 => ?_) (8 - v145) _ _ (by first | decide | omega) (by first | decide | omega) s175 (fun _ _ _ => rfl) ⟨fun j9 g1 g2 => by omega, fun j9 g1 => rfl⟩
    have k93 : ai_hv t192 191 0 = some (.inl (σ 0 0)) := (e192 191 0 (by first | decide | omega)).trans k77
    have k94 : ai_hv t192 191 1 = some (.inl (σ 1 0)) := (e192 191 1 (by first | decide | omega)).trans k78
    have k95 : ai_hv t192 194 5 = some (.inl (σ 2 0)) := (e192 194 5 (by first | decide | omega)).trans k79
    have k96 : ai_hv t192 200 5 = some (.inl (σ 3 0)) := (e192 200 5 (by first | decide | omega)).trans k80
    have k97 : ai_hv t192 206 5 = some (.inl (σ 4 0)) := (e192 206 5 (by first | decide | omega)).trans k81
    have k98 : ai_hv t192 212 5 = some (.inl (σ 5 0)) := (e192 212 5 (by first | decide | omega)).trans k82
    have k99 : ai_hv t192 218 5 = some (.inl (σ 6 0)) := (e192 218 5 (by first | decide | omega)).trans k83
    have k100 : ai_hv t192 224 5 = some (.inl (σ 7 0)) := (e192 224 5 (by first | decide | omega)).trans k84
    have k101 : ai_hv t192 7 4 = some (.inl (σ 8 0)) := (e192 7 4 (by first | decide | omega)).trans k85
    have k102 : ai_hv t192 7 5 = some (.inl (σ 9 0)) := (e192 7 5 (by first | decide | omega)).trans k86
    have k103 : ai_hv t192 7 6 = some (.inl (σ 9 1)) := (e192 7 6 (by first | decide | omega)).trans k87
    have k104 : ai_hv t192 7 7 = some (.inl (σ 9 2)) := (e192 7 7 (by first | decide | omega)).trans k88
    have k105 : ai_hv t192 7 1 = some (gx_r 191) := (e192 7 1 (by first | decide | omega)).trans k89
    have h3v : f145 = 0 → v145 = sp_nv S m (a + 3) := fun z => by rw [← show a130 = a + 3 by omega]; omega
    have y9 : (a175, f175) = fs S m N 59 (sl_drift S m N σ a) := by
      have y8 := y160.trans (fn_any (lo' := sp_nv S m (a + 3)) (hi' := σ 0 0 - 1) (fun h => ⟨h3v ((congrArg Prod.snd y145).trans h), rfl⟩))
      unfold sl_drift
      rw [← y8]; exact z175
    have hT106 := cT_keep (t' := t192) hT (fun c i h => (e192 c i (by first | decide | omega)).trans ((e175 c i (by first | decide | omega)).trans ((e160 c i (by first | decide | omega)).trans ((e145 c i (by first | decide | omega)).trans ((e130 c i (by first | decide | omega)).trans ((e115 c i (by first | decide | omega)).trans (e101 c i (by first | decide | omega))))))))
    refine ⟨_, rfl, t192, a175, f175, rfl, s192, hT106, k105, (fun c i h => (e192 c i (by first | decide | omega)).trans ((e175 c i (by first | decide | omega)).trans ((e160 c i (by first | decide | omega)).trans ((e145 c i (by first | decide | omega)).trans ((e130 c i (by first | decide | omega)).trans ((e115 c i (by first | decide | omega)).trans (e101 c i (by first | decide | omega)))))))), y9, by omega, fun h0 => ⟨by omega, ?_⟩⟩
    have hv1 : v115 = sp_nv S m (a + 1) := by rw [← show a101 = a + 1 by omega]; omega
    have hv4 : v160 = sp_nv S m (a + 4) := by rw [← show a145 = a + 4 by omega]; omega
    have hv3 := h3v (by first | decide | omega)
    have hwy : sp_wy S m N (a + 2) = v130 := by
      obtain ⟨w1, w2⟩ := q130.2 (by first | decide | omega)
      rw [show a115 = a + 2 by omega] at w2
      exact sp_wy_eq w1 w2
    obtain ⟨d1, d2⟩ := dq192
    have hfl : ∀ i, i < 64 → ai_hv t192 192 i = some (.inl (sn_drift S m N σ a 23 i)) := fun i hi => by
      by_cases gcb9 : 8 * sp_nv S m (a + 1) + sp_nv S m (a + 3) ≤ i ∧ i ≤ 8 * sp_nv S m (a + 1) + sp_nv S m (a + 4)
      · rw [dr_in gcb9.1 gcb9.2, hwy]; exact d1 i (by first | decide | omega) (by first | decide | omega)
      · rw [dr_out gcb9]
        exact (d2 i (by first | decide | omega)).trans (((e175 192 i (by first | decide | omega)).trans ((e160 192 i (by first | decide | omega)).trans ((e145 192 i (by first | decide | omega)).trans ((e130 192 i (by first | decide | omega)).trans ((e115 192 i (by first | decide | omega)).trans (e101 192 i (by first | decide | omega))))))).trans (gcb13 i hi))
    have xc107 : ∀ i, i < σ 2 0 → ai_hv t192 197 i = some (.inl (sp_nv S m (σ 16 i + 3) + 8 * sp_nv S m (σ 16 i + 4))) := fun i hi => ((e192 197 i (by first | decide | omega)).trans ((e175 197 i (by first | decide | omega)).trans ((e160 197 i (by first | decide | omega)).trans ((e145 197 i (by first | decide | omega)).trans ((e130 197 i (by first | decide | omega)).trans ((e115 197 i (by first | decide | omega)).trans (e101 197 i (by first | decide | omega)))))))).trans (gcb0 i hi)
    have xc108 : ∀ i, i < σ 4 0 → ai_hv t192 207 i = some (.inr (.inl (sp_wv S m (σ 21 i + 1)))) := fun i hi => ((e192 207 i (by first | decide | omega)).trans ((e175 207 i (by first | decide | omega)).trans ((e160 207 i (by first | decide | omega)).trans ((e145 207 i (by first | decide | omega)).trans ((e130 207 i (by first | decide | omega)).trans ((e115 207 i (by first | decide | omega)).trans (e101 207 i (by first | decide | omega)))))))).trans (gcb1 i hi)
    have xc109 : ∀ i, i < σ 3 0 → ai_hv t192 203 i = some (.inl (sp_nv S m (σ 20 i + 4))) := fun i hi => ((e192 203 i (by first | decide | omega)).trans ((e175 203 i (by first | decide | omega)).trans ((e160 203 i (by first | decide | omega)).trans ((e145 203 i (by first | decide | omega)).trans ((e130 203 i (by first | decide | omega)).trans ((e115 203 i (by first | decide | omega)).trans (e101 203 i (by first | decide | omega)))))))).trans (gcb2 i hi)
    have xc110 : ∀ i, i < σ 3 0 → ai_hv t192 204 i = some (.inl (sp_nv S m (σ 20 i + 6))) := fun i hi => ((e192 204 i (by first | decide | omega)).trans ((e175 204 i (by first | decide | omega)).trans ((e160 204 i (by first | decide | omega)).trans ((e145 204 i (by first | decide | omega)).trans ((e130 204 i (by first | decide | omega)).trans ((e115 204 i (by first | decide | omega)).trans (e101 204 i (by first | decide | omega)))))))).trans (gcb3 i hi)
    have xc111 : ∀ i, i < σ 3 0 → ai_hv t192 205 i = some (.inl (sp_nv S m (σ 20 i + 8))) := fun i hi => ((e192 205 i (by first | decide | omega)).trans ((e175 205 i (by first | decide | omega)).trans ((e160 205 i (by first | decide | omega)).trans ((e145 205 i (by first | decide | omega)).trans ((e130 205 i (by first | decide | omega)).trans ((e115 205 i (by first | decide | omega)).trans (e101 205 i (by first | decide | omega)))))))).trans (gcb4 i hi)
    have xc112 : ∀ i, i < σ 4 0 → ai_hv t192 209 i = some (.inl (sp_nv S m (σ 21 i + 3))) := fun i hi => ((e192 209 i (by first | decide | omega)).trans ((e175 209 i (by first | decide | omega)).trans ((e160 209 i (by first | decide | omega)).trans ((e145 209 i (by first | decide | omega)).trans ((e130 209 i (by first | decide | omega)).trans ((e115 209 i (by first | decide | omega)).trans (e101 209 i (by first | decide | omega)))))))).trans (gcb5 i hi)
    have xc113 : ∀ i, i < σ 4 0 → ai_hv t192 210 i = some (.inl (sp_nv S m (σ 21 i + 5))) := fun i hi => ((e192 210 i (by first | decide | omega)).trans ((e175 210 i (by first | decide | omega)).trans ((e160 210 i (by first | decide | omega)).trans ((e145 210 i (by first | decide | omega)).trans ((e130 210 i (by first | decide | omega)).trans ((e115 210 i (by first | decide | omega)).trans (e101 210 i (by first | decide | omega)))))))).trans (gcb6 i hi)
    have xc114 : ∀ i, i < σ 5 0 → ai_hv t192 214 i = some (.inl (sp_nv S m (σ 17 i + 2))) := fun i hi => ((e192 214 i (by first | decide | omega)).trans ((e175 214 i (by first | decide | omega)).trans ((e160 214 i (by first | decide | omega)).trans ((e145 214 i (by first | decide | omega)).trans ((e130 214 i (by first | decide | omega)).trans ((e115 214 i (by first | decide | omega)).trans (e101 214 i (by first | decide | omega)))))))).trans (gcb7 i hi)
    have xc115 : ∀ i, i < σ 5 0 → ai_hv t192 215 i = some (.inl (sp_nv S m (σ 17 i + 4))) := fun i hi => ((e192 215 i (by first | decide | omega)).trans ((e175 215 i (by first | decide | omega)).trans ((e160 215 i (by first | decide | omega)).trans ((e145 215 i (by first | decide | omega)).trans ((e130 215 i (by first | decide | omega)).trans ((e115 215 i (by first | decide | omega)).trans (e101 215 i (by first | decide | omega)))))))).trans (gcb8 i hi)
    have xc116 : ∀ i, i < σ 6 0 → ai_hv t192 220 i = some (.inl (sp_nv S m (σ 18 i + 2))) := fun i hi => ((e192 220 i (by first | decide | omega)).trans ((e175 220 i (by first | decide | omega)).trans ((e160 220 i (by first | decide | omega)).trans ((e145 220 i (by first | decide | omega)).trans ((e130 220 i (by first | decide | omega)).trans ((e115 220 i (by first | decide | omega)).trans (e101 220 i (by first | decide | omega)))))))).trans (gcb9 i hi)
    have xc117 : ∀ i, i < σ 7 0 → ai_hv t192 226 i = some (.inl (sp_nv S m (σ 19 i + 2))) := fun i hi => ((e192 226 i (by first | decide | omega)).trans ((e175 226 i (by first | decide | omega)).trans ((e160 226 i (by first | decide | omega)).trans ((e145 226 i (by first | decide | omega)).trans ((e130 226 i (by first | decide | omega)).trans ((e115 226 i (by first | decide | omega)).trans (e101 226 i (by first | decide | omega)))))))).trans (gcb10 i hi)
    have xc118 : ∀ i, i < σ 7 0 → ai_hv t192 227 i = some (.inl (sp_nv S m (σ 19 i + 4))) := fun i hi => ((e192 227 i (by first | decide | omega)).trans ((e175 227 i (by first | decide | omega)).trans ((e160 227 i (by first | decide | omega)).trans ((e145 227 i (by first | decide | omega)).trans ((e130 227 i (by first | decide | omega)).trans ((e115 227 i (by first | decide | omega)).trans (e101 227 i (by first | decide | omega)))))))).trans (gcb11 i hi)
    exact ⟨⟨k93, k94, k95, k96, k97, k98, k99, k100, k101, k102, k103, k104⟩, (fun i hi => ⟨((fun i hi => ((e192 195 i (by first | decide | omega)).trans ((e175 195 i (by first | decide | omega)).trans ((e160 195 i (by first | decide | omega)).trans ((e145 195 i (by first | decide | omega)).trans ((e130 195 i (by first | decide | omega)).trans ((e115 195 i (by first | decide | omega)).trans (e101 195 i (by first | decide | omega)))))))).trans (hAt i hi).1)) i hi, ((fun i hi => ((e192 196 i (by first | decide | omega)).trans ((e175 196 i (by first | decide | omega)).trans ((e160 196 i (by first | decide | omega)).trans ((e145 196 i (by first | decide | omega)).trans ((e130 196 i (by first | decide | omega)).trans ((e115 196 i (by first | decide | omega)).trans (e101 196 i (by first | decide | omega)))))))).trans (hAt i hi).2)) i hi⟩), (fun i hi => ((e192 202 i (by first | decide | omega)).trans ((e175 202 i (by first | decide | omega)).trans ((e160 202 i (by first | decide | omega)).trans ((e145 202 i (by first | decide | omega)).trans ((e130 202 i (by first | decide | omega)).trans ((e115 202 i (by first | decide | omega)).trans (e101 202 i (by first | decide | omega)))))))).trans (hAl i hi)), (fun i hi => ((e192 208 i (by first | decide | omega)).trans ((e175 208 i (by first | decide | omega)).trans ((e160 208 i (by first | decide | omega)).trans ((e145 208 i (by first | decide | omega)).trans ((e130 208 i (by first | decide | omega)).trans ((e115 208 i (by first | decide | omega)).trans (e101 208 i (by first | decide | omega)))))))).trans (hAc i hi)), (fun i hi => ((e192 213 i (by first | decide | omega)).trans ((e175 213 i (by first | decide | omega)).trans ((e160 213 i (by first | decide | omega)).trans ((e145 213 i (by first | decide | omega)).trans ((e130 213 i (by first | decide | omega)).trans ((e115 213 i (by first | decide | omega)).trans (e101 213 i (by first | decide | omega)))))))).trans (hAg i hi)), (fun i hi => ((e192 219 i (by first | decide | omega)).trans ((e175 219 i (by first | decide | omega)).trans ((e160 219 i (by first | decide | omega)).trans ((e145 219 i (by first | decide | omega)).trans ((e130 219 i (by first | decide | omega)).trans ((e115 219 i (by first | decide | omega)).trans (e101 219 i (by first | decide | omega)))))))).trans (hAs i hi)), (fun i hi => ((e192 225 i (by first | decide | omega)).trans ((e175 225 i (by first | decide | omega)).trans ((e160 225 i (by first | decide | omega)).trans ((e145 225 i (by first | decide | omega)).trans ((e130 225 i (by first | decide | omega)).trans ((e115 225 i (by first | decide | omega)).trans (e101 225 i (by first | decide | omega)))))))).trans (hAo i hi)), xc107, xc108, xc109, xc110, xc111, xc112, xc113, xc114, xc115, xc116, xc117, xc118, ((e192 191 2 (by first | decide | omega)).trans ((e175 191 2 (by first | decide | omega)).trans ((e160 191 2 (by first | decide | omega)).trans ((e145 191 2 (by first | decide | omega)).trans ((e130 191 2 (by first | decide | omega)).trans ((e115 191 2 (by first | decide | omega)).trans (e101 191 2 (by first | decide | omega)))))))).trans gcb12, hfl⟩
theorem pc_paceLine191 (d n : Nat) {t0 : en_H} {a : Nat} {S : Nat → Nat} {m N : Nat} {σ : Nat → Nat → Nat} (s0 : cS t0 a 0) (hT : cT t0 S m N) (ha : a < N) (hP : ai_hv t0 7 1 = some (gx_r 191)) (hA : CA t0 191 S m σ) (h3 : W3 S m N σ) : ∃ r, en_u (d + 4) 235 [gx_r 7] t0 n = some r ∧ ∃ t' a' f', r = (none, t', n, 0) ∧ cS t' a' f' ∧ cT t' S m N ∧ ai_hv t' 7 1 = some (gx_r 191) ∧ cW 191 t0 t' ∧ (a', f') = fs S m N 59 (sl_pace S m N σ a) ∧ a' ≤ N ∧ (f' = 0 → a < a' ∧ CA t' 191 S m (sn_pace σ a)) := by
  have b0 := s0.2.2.2
  have hN := hT.2.2.2.2.2.2.1
  have hA0 := hA
  obtain ⟨⟨kk0, kk1, kk2, kk3, kk4, kk5, kk6, kk7, kk8, kk9, kk10, kk11⟩, hAt, hAl, hAc, hAg, hAs, hAo, gcb0, gcb1, gcb2, gcb3, gcb4, gcb5, gcb6, gcb7, gcb8, gcb9, gcb10, gcb11, gcb12, gcb13⟩ := hA0
  have kk0 : ai_hv t0 191 0 = some (.inl (σ 0 0)) := kk0
  have kk1 : ai_hv t0 191 1 = some (.inl (σ 1 0)) := kk1
  have kk2 : ai_hv t0 194 5 = some (.inl (σ 2 0)) := kk2
  have kk3 : ai_hv t0 200 5 = some (.inl (σ 3 0)) := kk3
  have kk4 : ai_hv t0 206 5 = some (.inl (σ 4 0)) := kk4
  have kk5 : ai_hv t0 212 5 = some (.inl (σ 5 0)) := kk5
  have kk6 : ai_hv t0 218 5 = some (.inl (σ 6 0)) := kk6
  have kk7 : ai_hv t0 224 5 = some (.inl (σ 7 0)) := kk7
  have hBB := h3.1.1
  refine en_u_ex (d := d + 3) rfl ?_
  show en_ex _ _ _ _ (0, [(0, gx_r 7)], [], t0, n, 0) _
  refine ex_go (S := (1, [(0, gx_r 7)], [gx_r 7], t0, n, 0)) rfl (fun _ => rfl) rfl ?_
  refine gxo_get (a := 7) rfl s0.1 rfl rfl kk8 rfl ?_
  by_cases hc1 : σ 8 0 = 0
  · refine gx_1t (c := .eq) rfl (by first | decide | omega) hc1 rfl ?_
    refine ex_go (S := (16, [(0, gx_r 7)], [gx_r 7], t0, n, 0)) rfl (fun _ => rfl) rfl ?_
    refine ex_go (S := (17, [(0, gx_r 7)], [.inl 1, gx_r 7], t0, n, 0)) rfl (fun _ => rfl) rfl ?_
    refine gxo_put (a := 7) rfl s0.1 rfl rfl rfl (ai_in_h (by first | decide | omega) (by first | decide | omega) (by first | decide | omega)) rfl (fun t102 g102 k102 e102 => ?_)
    have k3 : ai_hv t102 191 0 = some (.inl (σ 0 0)) := (e102 191 0 (by first | decide | omega)).trans kk0
    have k4 : ai_hv t102 191 1 = some (.inl (σ 1 0)) := (e102 191 1 (by first | decide | omega)).trans kk1
    have k5 : ai_hv t102 194 5 = some (.inl (σ 2 0)) := (e102 194 5 (by first | decide | omega)).trans kk2
    have k6 : ai_hv t102 200 5 = some (.inl (σ 3 0)) := (e102 200 5 (by first | decide | omega)).trans kk3
    have k7 : ai_hv t102 206 5 = some (.inl (σ 4 0)) := (e102 206 5 (by first | decide | omega)).trans kk4
    have k8 : ai_hv t102 212 5 = some (.inl (σ 5 0)) := (e102 212 5 (by first | decide | omega)).trans kk5
    have k9 : ai_hv t102 218 5 = some (.inl (σ 6 0)) := (e102 218 5 (by first | decide | omega)).trans kk6
    have k10 : ai_hv t102 224 5 = some (.inl (σ 7 0)) := (e102 224 5 (by first | decide | omega)).trans kk7
    have k11 : ai_hv t102 7 5 = some (.inl (σ 9 0)) := (e102 7 5 (by first | decide | omega)).trans kk9
    have k12 : ai_hv t102 7 6 = some (.inl (σ 9 1)) := (e102 7 6 (by first | decide | omega)).trans kk10
    have k13 : ai_hv t102 7 7 = some (.inl (σ 9 2)) := (e102 7 7 (by first | decide | omega)).trans kk11
    have k14 : ai_hv t102 7 1 = some (gx_r 191) := (e102 7 1 (by first | decide | omega)).trans hP
    have s102 : cS t102 a 0 := ⟨g102, (e102 1 8 (by first | decide | omega)).trans s0.2.1, (e102 1 1 (by first | decide | omega)).trans s0.2.2.1, s0.2.2.2⟩
    refine ex_go (S := (21, [(0, gx_r 7)], [gx_r 7], t102, n, 0)) rfl (fun _ => rfl) rfl ?_
    refine gxo_ref (a := 7) (c := 1) rfl s102.1 rfl rfl rfl rfl rfl ?_
    have hT16 := cT_keep (t' := t102) hT (fun c i h => e102 c i (by first | decide | omega))
    obtain ⟨_, r115, t115, a115, f115, rfl, s115, e115, q115⟩ := pc_goOn (d + 2) n (s102) hT16 (by first | decide | omega) 
    have b115 := s115.2.2.2
    refine gx_callo (a := 1) rfl rfl s102.1 rfl rfl rfl r115 rfl ?_
    have k17 : ai_hv t115 191 0 = some (.inl (σ 0 0)) := (e115 191 0 (by first | decide | omega)).trans k3
    have k18 : ai_hv t115 191 1 = some (.inl (σ 1 0)) := (e115 191 1 (by first | decide | omega)).trans k4
    have k19 : ai_hv t115 194 5 = some (.inl (σ 2 0)) := (e115 194 5 (by first | decide | omega)).trans k5
    have k20 : ai_hv t115 200 5 = some (.inl (σ 3 0)) := (e115 200 5 (by first | decide | omega)).trans k6
    have k21 : ai_hv t115 206 5 = some (.inl (σ 4 0)) := (e115 206 5 (by first | decide | omega)).trans k7
    have k22 : ai_hv t115 212 5 = some (.inl (σ 5 0)) := (e115 212 5 (by first | decide | omega)).trans k8
    have k23 : ai_hv t115 218 5 = some (.inl (σ 6 0)) := (e115 218 5 (by first | decide | omega)).trans k9
    have k24 : ai_hv t115 224 5 = some (.inl (σ 7 0)) := (e115 224 5 (by first | decide | omega)).trans k10
    have k25 : ai_hv t115 7 5 = some (.inl (σ 9 0)) := (e115 7 5 (by first | decide | omega)).trans k11
    have k26 : ai_hv t115 7 6 = some (.inl (σ 9 1)) := (e115 7 6 (by first | decide | omega)).trans k12
    have k27 : ai_hv t115 7 7 = some (.inl (σ 9 2)) := (e115 7 7 (by first | decide | omega)).trans k13
    have k28 : ai_hv t115 7 1 = some (gx_r 191) := (e115 7 1 (by first | decide | omega)).trans k14
    have k29 : ai_hv t115 7 4 = some (.inl 1) := (e115 7 4 (by first | decide | omega)).trans k102
    show en_ex _ _ _ _ (27, [(0, gx_r 7)], [], t115, n, 0) _
    have ya : (a115, f115) = fr S m (σ 8 0 ≠ 0) 3 (a, 0) := by
      rw [fr_yes (show ¬ σ 8 0 ≠ 0 by omega)]; exact Prod.ext (by show a115 = a + 1; omega) (by show f115 = 0; omega)
    refine ex_go (S := (28, [(0, gx_r 7)], [gx_r 7], t115, n, 0)) rfl (fun _ => rfl) rfl ?_
    refine gxo_get (a := 7) rfl s115.1 rfl rfl k28 rfl ?_
    refine ex_go (S := (32, [(0, gx_r 7)], [gx_r 7, gx_r 191], t115, n, 0)) rfl (fun _ => rfl) rfl ?_
    refine gxo_ref (a := 7) (c := 1) rfl s115.1 rfl rfl rfl rfl rfl ?_
    refine ex_go (S := (36, [(0, gx_r 7)], [.inl 1, gx_r 1, gx_r 191], t115, n, 0)) rfl (fun _ => rfl) rfl ?_
    refine ex_go (S := (37, [(0, gx_r 7)], [.inl 4, .inl 1, gx_r 1, gx_r 191], t115, n, 0)) rfl (fun _ => rfl) rfl ?_
    have hT31 := cT_keep (t' := t115) hT (fun c i h => (e115 c i (by first | decide | omega)).trans (e102 c i (by first | decide | omega)))
    obtain ⟨_, r130, v130, t130, a130, f130, rfl, s130, e130, z130, q130⟩ := pc_takeNumber (d + 1) n (s115) hT31 (by first | decide | omega) (lo := 1) (hi := 4) (by first | decide | omega) (by first | decide | omega) (by first | decide | omega)
    have b130 := s130.2.2.2
    have y130 := z130.trans (congrArg (fn S m N 1 4) ya)
    refine gx_callo (a := 1) rfl rfl s115.1 rfl rfl rfl r130 rfl ?_
    have k32 : ai_hv t130 191 0 = some (.inl (σ 0 0)) := (e130 191 0 (by first | decide | omega)).trans k17
    have k33 : ai_hv t130 191 1 = some (.inl (σ 1 0)) := (e130 191 1 (by first | decide | omega)).trans k18
    have k34 : ai_hv t130 194 5 = some (.inl (σ 2 0)) := (e130 194 5 (by first | decide | omega)).trans k19
    have k35 : ai_hv t130 200 5 = some (.inl (σ 3 0)) := (e130 200 5 (by first | decide | omega)).trans k20
    have k36 : ai_hv t130 206 5 = some (.inl (σ 4 0)) := (e130 206 5 (by first | decide | omega)).trans k21
    have k37 : ai_hv t130 212 5 = some (.inl (σ 5 0)) := (e130 212 5 (by first | decide | omega)).trans k22
    have k38 : ai_hv t130 218 5 = some (.inl (σ 6 0)) := (e130 218 5 (by first | decide | omega)).trans k23
    have k39 : ai_hv t130 224 5 = some (.inl (σ 7 0)) := (e130 224 5 (by first | decide | omega)).trans k24
    have k40 : ai_hv t130 7 5 = some (.inl (σ 9 0)) := (e130 7 5 (by first | decide | omega)).trans k25
    have k41 : ai_hv t130 7 6 = some (.inl (σ 9 1)) := (e130 7 6 (by first | decide | omega)).trans k26
    have k42 : ai_hv t130 7 7 = some (.inl (σ 9 2)) := (e130 7 7 (by first | decide | omega)).trans k27
    have k43 : ai_hv t130 7 1 = some (gx_r 191) := (e130 7 1 (by first | decide | omega)).trans k28
    have k44 : ai_hv t130 7 4 = some (.inl 1) := (e130 7 4 (by first | decide | omega)).trans k29
    show en_ex _ _ _ _ (40, [(0, gx_r 7)], [.inl v130, gx_r 191], t130, n, 0) _
    refine gxo_put (a := 191) rfl s130.1 rfl rfl rfl (gx_full (by first | decide | omega)) rfl (fun t145 g145 k145 e145 => ?_)
    have k46 : ai_hv t145 191 0 = some (.inl (σ 0 0)) := (e145 191 0 (by first | decide | omega)).trans k32
    have k47 : ai_hv t145 191 1 = some (.inl (σ 1 0)) := (e145 191 1 (by first | decide | omega)).trans k33
    have k48 : ai_hv t145 194 5 = some (.inl (σ 2 0)) := (e145 194 5 (by first | decide | omega)).trans k34
    have k49 : ai_hv t145 200 5 = some (.inl (σ 3 0)) := (e145 200 5 (by first | decide | omega)).trans k35
    have k50 : ai_hv t145 206 5 = some (.inl (σ 4 0)) := (e145 206 5 (by first | decide | omega)).trans k36
    have k51 : ai_hv t145 212 5 = some (.inl (σ 5 0)) := (e145 212 5 (by first | decide | omega)).trans k37
    have k52 : ai_hv t145 218 5 = some (.inl (σ 6 0)) := (e145 218 5 (by first | decide | omega)).trans k38
    have k53 : ai_hv t145 224 5 = some (.inl (σ 7 0)) := (e145 224 5 (by first | decide | omega)).trans k39
    have k54 : ai_hv t145 7 5 = some (.inl (σ 9 0)) := (e145 7 5 (by first | decide | omega)).trans k40
    have k55 : ai_hv t145 7 6 = some (.inl (σ 9 1)) := (e145 7 6 (by first | decide | omega)).trans k41
    have k56 : ai_hv t145 7 7 = some (.inl (σ 9 2)) := (e145 7 7 (by first | decide | omega)).trans k42
    have k57 : ai_hv t145 7 1 = some (gx_r 191) := (e145 7 1 (by first | decide | omega)).trans k43
    have k58 : ai_hv t145 7 4 = some (.inl 1) := (e145 7 4 (by first | decide | omega)).trans k44
    have s145 : cS t145 a130 f130 := ⟨g145, (e145 1 8 (by first | decide | omega)).trans s130.2.1, (e145 1 1 (by first | decide | omega)).trans s130.2.2.1, s130.2.2.2⟩
    refine ex_go (S := (44, [(0, gx_r 7)], [gx_r 7], t145, n, 0)) rfl (fun _ => rfl) rfl ?_
    refine gxo_ref (a := 7) (c := 1) rfl s145.1 rfl rfl rfl rfl rfl ?_
    refine ex_go (S := (49, [(0, gx_r 7)], [.inl 59, gx_r 1], t145, n, 0)) rfl (fun _ => rfl) rfl ?_
    have hT60 := cT_keep (t' := t145) hT (fun c i h => (e145 c i (by first | decide | omega)).trans ((e130 c i (by first | decide | omega)).trans ((e115 c i (by first | decide | omega)).trans (e102 c i (by first | decide | omega)))))
    obtain ⟨_, r159, t159, a159, f159, rfl, s159, e159, z159, q159⟩ := pc_takeSign (d + 1) n (s145) hT60 (by first | decide | omega) (w := 59) (by first | decide | omega)
    have b159 := s159.2.2.2
    have y159 := z159.trans (congrArg (fs S m N 59) y130)
    refine gx_callo (a := 1) rfl rfl s145.1 rfl rfl rfl r159 rfl ?_
    have k61 : ai_hv t159 191 0 = some (.inl (σ 0 0)) := (e159 191 0 (by first | decide | omega)).trans k46
    have k62 : ai_hv t159 191 1 = some (.inl (σ 1 0)) := (e159 191 1 (by first | decide | omega)).trans k47
    have k63 : ai_hv t159 194 5 = some (.inl (σ 2 0)) := (e159 194 5 (by first | decide | omega)).trans k48
    have k64 : ai_hv t159 200 5 = some (.inl (σ 3 0)) := (e159 200 5 (by first | decide | omega)).trans k49
    have k65 : ai_hv t159 206 5 = some (.inl (σ 4 0)) := (e159 206 5 (by first | decide | omega)).trans k50
    have k66 : ai_hv t159 212 5 = some (.inl (σ 5 0)) := (e159 212 5 (by first | decide | omega)).trans k51
    have k67 : ai_hv t159 218 5 = some (.inl (σ 6 0)) := (e159 218 5 (by first | decide | omega)).trans k52
    have k68 : ai_hv t159 224 5 = some (.inl (σ 7 0)) := (e159 224 5 (by first | decide | omega)).trans k53
    have k69 : ai_hv t159 7 5 = some (.inl (σ 9 0)) := (e159 7 5 (by first | decide | omega)).trans k54
    have k70 : ai_hv t159 7 6 = some (.inl (σ 9 1)) := (e159 7 6 (by first | decide | omega)).trans k55
    have k71 : ai_hv t159 7 7 = some (.inl (σ 9 2)) := (e159 7 7 (by first | decide | omega)).trans k56
    have k72 : ai_hv t159 7 1 = some (gx_r 191) := (e159 7 1 (by first | decide | omega)).trans k57
    have k73 : ai_hv t159 7 4 = some (.inl 1) := (e159 7 4 (by first | decide | omega)).trans k58
    have k74 : ai_hv t159 191 2 = some (.inl v130) := (e159 191 2 (by first | decide | omega)).trans k145
    show en_ex _ _ _ _ (52, [(0, gx_r 7)], [], t159, n, 0) _
    refine ex_ret (r := (none, t159, n, 0)) rfl (fun _ => rfl) ?_
    have hT75 := cT_keep (t' := t159) hT (fun c i h => (e159 c i (by first | decide | omega)).trans ((e145 c i (by first | decide | omega)).trans ((e130 c i (by first | decide | omega)).trans ((e115 c i (by first | decide | omega)).trans (e102 c i (by first | decide | omega))))))
    refine ⟨_, rfl, t159, a159, f159, rfl, s159, hT75, k72, (fun c i h => (e159 c i (by first | decide | omega)).trans ((e145 c i (by first | decide | omega)).trans ((e130 c i (by first | decide | omega)).trans ((e115 c i (by first | decide | omega)).trans (e102 c i (by first | decide | omega)))))), y159, by omega, fun h0 => ⟨by omega, ?_⟩⟩
    have hpa : ai_hv t159 191 2 = some (.inl (pcv S m (a + 1))) := by
      unfold pcv
      rw [if_neg (show a + 1 ≠ 0 by omega)]
      have h9 : v130 = sp_nv S m (a + 1) := by rw [← show a115 = a + 1 by omega]; omega
      rw [← h9]; exact k74
    have xc76 : ∀ i, i < σ 2 0 → ai_hv t159 197 i = some (.inl (sp_nv S m (σ 16 i + 3) + 8 * sp_nv S m (σ 16 i + 4))) := fun i hi => ((e159 197 i (by first | decide | omega)).trans ((e145 197 i (by first | decide | omega)).trans ((e130 197 i (by first | decide | omega)).trans ((e115 197 i (by first | decide | omega)).trans (e102 197 i (by first | decide | omega)))))).trans (gcb0 i hi)
    have xc77 : ∀ i, i < σ 4 0 → ai_hv t159 207 i = some (.inr (.inl (sp_wv S m (σ 21 i + 1)))) := fun i hi => ((e159 207 i (by first | decide | omega)).trans ((e145 207 i (by first | decide | omega)).trans ((e130 207 i (by first | decide | omega)).trans ((e115 207 i (by first | decide | omega)).trans (e102 207 i (by first | decide | omega)))))).trans (gcb1 i hi)
    have xc78 : ∀ i, i < σ 3 0 → ai_hv t159 203 i = some (.inl (sp_nv S m (σ 20 i + 4))) := fun i hi => ((e159 203 i (by first | decide | omega)).trans ((e145 203 i (by first | decide | omega)).trans ((e130 203 i (by first | decide | omega)).trans ((e115 203 i (by first | decide | omega)).trans (e102 203 i (by first | decide | omega)))))).trans (gcb2 i hi)
    have xc79 : ∀ i, i < σ 3 0 → ai_hv t159 204 i = some (.inl (sp_nv S m (σ 20 i + 6))) := fun i hi => ((e159 204 i (by first | decide | omega)).trans ((e145 204 i (by first | decide | omega)).trans ((e130 204 i (by first | decide | omega)).trans ((e115 204 i (by first | decide | omega)).trans (e102 204 i (by first | decide | omega)))))).trans (gcb3 i hi)
    have xc80 : ∀ i, i < σ 3 0 → ai_hv t159 205 i = some (.inl (sp_nv S m (σ 20 i + 8))) := fun i hi => ((e159 205 i (by first | decide | omega)).trans ((e145 205 i (by first | decide | omega)).trans ((e130 205 i (by first | decide | omega)).trans ((e115 205 i (by first | decide | omega)).trans (e102 205 i (by first | decide | omega)))))).trans (gcb4 i hi)
    have xc81 : ∀ i, i < σ 4 0 → ai_hv t159 209 i = some (.inl (sp_nv S m (σ 21 i + 3))) := fun i hi => ((e159 209 i (by first | decide | omega)).trans ((e145 209 i (by first | decide | omega)).trans ((e130 209 i (by first | decide | omega)).trans ((e115 209 i (by first | decide | omega)).trans (e102 209 i (by first | decide | omega)))))).trans (gcb5 i hi)
    have xc82 : ∀ i, i < σ 4 0 → ai_hv t159 210 i = some (.inl (sp_nv S m (σ 21 i + 5))) := fun i hi => ((e159 210 i (by first | decide | omega)).trans ((e145 210 i (by first | decide | omega)).trans ((e130 210 i (by first | decide | omega)).trans ((e115 210 i (by first | decide | omega)).trans (e102 210 i (by first | decide | omega)))))).trans (gcb6 i hi)
    have xc83 : ∀ i, i < σ 5 0 → ai_hv t159 214 i = some (.inl (sp_nv S m (σ 17 i + 2))) := fun i hi => ((e159 214 i (by first | decide | omega)).trans ((e145 214 i (by first | decide | omega)).trans ((e130 214 i (by first | decide | omega)).trans ((e115 214 i (by first | decide | omega)).trans (e102 214 i (by first | decide | omega)))))).trans (gcb7 i hi)
    have xc84 : ∀ i, i < σ 5 0 → ai_hv t159 215 i = some (.inl (sp_nv S m (σ 17 i + 4))) := fun i hi => ((e159 215 i (by first | decide | omega)).trans ((e145 215 i (by first | decide | omega)).trans ((e130 215 i (by first | decide | omega)).trans ((e115 215 i (by first | decide | omega)).trans (e102 215 i (by first | decide | omega)))))).trans (gcb8 i hi)
    have xc85 : ∀ i, i < σ 6 0 → ai_hv t159 220 i = some (.inl (sp_nv S m (σ 18 i + 2))) := fun i hi => ((e159 220 i (by first | decide | omega)).trans ((e145 220 i (by first | decide | omega)).trans ((e130 220 i (by first | decide | omega)).trans ((e115 220 i (by first | decide | omega)).trans (e102 220 i (by first | decide | omega)))))).trans (gcb9 i hi)
    have xc86 : ∀ i, i < σ 7 0 → ai_hv t159 226 i = some (.inl (sp_nv S m (σ 19 i + 2))) := fun i hi => ((e159 226 i (by first | decide | omega)).trans ((e145 226 i (by first | decide | omega)).trans ((e130 226 i (by first | decide | omega)).trans ((e115 226 i (by first | decide | omega)).trans (e102 226 i (by first | decide | omega)))))).trans (gcb10 i hi)
    have xc87 : ∀ i, i < σ 7 0 → ai_hv t159 227 i = some (.inl (sp_nv S m (σ 19 i + 4))) := fun i hi => ((e159 227 i (by first | decide | omega)).trans ((e145 227 i (by first | decide | omega)).trans ((e130 227 i (by first | decide | omega)).trans ((e115 227 i (by first | decide | omega)).trans (e102 227 i (by first | decide | omega)))))).trans (gcb11 i hi)
    have xc88 : ∀ j, j < 64 → ai_hv t159 192 j = some (.inl (σ 23 j)) := fun j hj => ((e159 192 j (by first | decide | omega)).trans ((e145 192 j (by first | decide | omega)).trans ((e130 192 j (by first | decide | omega)).trans ((e115 192 j (by first | decide | omega)).trans (e102 192 j (by first | decide | omega)))))).trans (gcb13 j hj)
    exact ⟨⟨k61, k62, k63, k64, k65, k66, k67, k68, k73, k69, k70, k71⟩, (fun i hi => ⟨((fun i hi => ((e159 195 i (by first | decide | omega)).trans ((e145 195 i (by first | decide | omega)).trans ((e130 195 i (by first | decide | omega)).trans ((e115 195 i (by first | decide | omega)).trans (e102 195 i (by first | decide | omega)))))).trans (hAt i hi).1)) i hi, ((fun i hi => ((e159 196 i (by first | decide | omega)).trans ((e145 196 i (by first | decide | omega)).trans ((e130 196 i (by first | decide | omega)).trans ((e115 196 i (by first | decide | omega)).trans (e102 196 i (by first | decide | omega)))))).trans (hAt i hi).2)) i hi⟩), (fun i hi => ((e159 202 i (by first | decide | omega)).trans ((e145 202 i (by first | decide | omega)).trans ((e130 202 i (by first | decide | omega)).trans ((e115 202 i (by first | decide | omega)).trans (e102 202 i (by first | decide | omega)))))).trans (hAl i hi)), (fun i hi => ((e159 208 i (by first | decide | omega)).trans ((e145 208 i (by first | decide | omega)).trans ((e130 208 i (by first | decide | omega)).trans ((e115 208 i (by first | decide | omega)).trans (e102 208 i (by first | decide | omega)))))).trans (hAc i hi)), (fun i hi => ((e159 213 i (by first | decide | omega)).trans ((e145 213 i (by first | decide | omega)).trans ((e130 213 i (by first | decide | omega)).trans ((e115 213 i (by first | decide | omega)).trans (e102 213 i (by first | decide | omega)))))).trans (hAg i hi)), (fun i hi => ((e159 219 i (by first | decide | omega)).trans ((e145 219 i (by first | decide | omega)).trans ((e130 219 i (by first | decide | omega)).trans ((e115 219 i (by first | decide | omega)).trans (e102 219 i (by first | decide | omega)))))).trans (hAs i hi)), (fun i hi => ((e159 225 i (by first | decide | omega)).trans ((e145 225 i (by first | decide | omega)).trans ((e130 225 i (by first | decide | omega)).trans ((e115 225 i (by first | decide | omega)).trans (e102 225 i (by first | decide | omega)))))).trans (hAo i hi)), xc76, xc77, xc78, xc79, xc80, xc81, xc82, xc83, xc84, xc85, xc86, xc87, hpa, xc88⟩
  · refine gx_1f (c := .eq) rfl (by first | decide | omega) hc1 rfl ?_
    refine ex_go (S := (8, [(0, gx_r 7)], [gx_r 7], t0, n, 0)) rfl (fun _ => rfl) rfl ?_
    refine gxo_ref (a := 7) (c := 1) rfl s0.1 rfl rfl rfl rfl rfl ?_
    refine ex_go (S := (12, [(0, gx_r 7)], [.inl 3, gx_r 1], t0, n, 0)) rfl (fun _ => rfl) rfl ?_
    obtain ⟨_, r189, t189, a189, f189, rfl, s189, e189, q189⟩ := pc_wrong (d + 2) n (s0) hT (by first | decide | omega) (w := 3) (by first | decide | omega)
    have b189 := s189.2.2.2
    refine gx_callo (a := 1) rfl rfl s0.1 rfl rfl rfl r189 rfl ?_
    have k90 : ai_hv t189 191 0 = some (.inl (σ 0 0)) := (e189 191 0 (by first | decide | omega)).trans kk0
    have k91 : ai_hv t189 191 1 = some (.inl (σ 1 0)) := (e189 191 1 (by first | decide | omega)).trans kk1
    have k92 : ai_hv t189 194 5 = some (.inl (σ 2 0)) := (e189 194 5 (by first | decide | omega)).trans kk2
    have k93 : ai_hv t189 200 5 = some (.inl (σ 3 0)) := (e189 200 5 (by first | decide | omega)).trans kk3
    have k94 : ai_hv t189 206 5 = some (.inl (σ 4 0)) := (e189 206 5 (by first | decide | omega)).trans kk4
    have k95 : ai_hv t189 212 5 = some (.inl (σ 5 0)) := (e189 212 5 (by first | decide | omega)).trans kk5
    have k96 : ai_hv t189 218 5 = some (.inl (σ 6 0)) := (e189 218 5 (by first | decide | omega)).trans kk6
    have k97 : ai_hv t189 224 5 = some (.inl (σ 7 0)) := (e189 224 5 (by first | decide | omega)).trans kk7
    have k98 : ai_hv t189 7 4 = some (.inl (σ 8 0)) := (e189 7 4 (by first | decide | omega)).trans kk8
    have k99 : ai_hv t189 7 5 = some (.inl (σ 9 0)) := (e189 7 5 (by first | decide | omega)).trans kk9
    have k100 : ai_hv t189 7 6 = some (.inl (σ 9 1)) := (e189 7 6 (by first | decide | omega)).trans kk10
    have k101 : ai_hv t189 7 7 = some (.inl (σ 9 2)) := (e189 7 7 (by first | decide | omega)).trans kk11
    have k102 : ai_hv t189 7 1 = some (gx_r 191) := (e189 7 1 (by first | decide | omega)).trans hP
    show en_ex _ _ _ _ (15, [(0, gx_r 7)], [], t189, n, 0) _
    refine ex_go (S := (16, [(0, gx_r 7)], [gx_r 7], t189, n, 0)) rfl (fun _ => rfl) rfl ?_
    refine ex_go (S := (17, [(0, gx_r 7)], [.inl 1, gx_r 7], t189, n, 0)) rfl (fun _ => rfl) rfl ?_
    refine gxo_put (a := 7) rfl s189.1 rfl rfl rfl (ai_in_h (by first | decide | omega) (by first | decide | omega) (by first | decide | omega)) rfl (fun t203 g203 k203 e203 => ?_)
    have k104 : ai_hv t203 191 0 = some (.inl (σ 0 0)) := (e203 191 0 (by first | decide | omega)).trans k90
    have k105 : ai_hv t203 191 1 = some (.inl (σ 1 0)) := (e203 191 1 (by first | decide | omega)).trans k91
    have k106 : ai_hv t203 194 5 = some (.inl (σ 2 0)) := (e203 194 5 (by first | decide | omega)).trans k92
    have k107 : ai_hv t203 200 5 = some (.inl (σ 3 0)) := (e203 200 5 (by first | decide | omega)).trans k93
    have k108 : ai_hv t203 206 5 = some (.inl (σ 4 0)) := (e203 206 5 (by first | decide | omega)).trans k94
    have k109 : ai_hv t203 212 5 = some (.inl (σ 5 0)) := (e203 212 5 (by first | decide | omega)).trans k95
    have k110 : ai_hv t203 218 5 = some (.inl (σ 6 0)) := (e203 218 5 (by first | decide | omega)).trans k96
    have k111 : ai_hv t203 224 5 = some (.inl (σ 7 0)) := (e203 224 5 (by first | decide | omega)).trans k97
    have k112 : ai_hv t203 7 5 = some (.inl (σ 9 0)) := (e203 7 5 (by first | decide | omega)).trans k99
    have k113 : ai_hv t203 7 6 = some (.inl (σ 9 1)) := (e203 7 6 (by first | decide | omega)).trans k100
    have k114 : ai_hv t203 7 7 = some (.inl (σ 9 2)) := (e203 7 7 (by first | decide | omega)).trans k101
    have k115 : ai_hv t203 7 1 = some (gx_r 191) := (e203 7 1 (by first | decide | omega)).trans k102
    have s203 : cS t203 a189 f189 := ⟨g203, (e203 1 8 (by first | decide | omega)).trans s189.2.1, (e203 1 1 (by first | decide | omega)).trans s189.2.2.1, s189.2.2.2⟩
    refine ex_go (S := (21, [(0, gx_r 7)], [gx_r 7], t203, n, 0)) rfl (fun _ => rfl) rfl ?_
    refine gxo_ref (a := 7) (c := 1) rfl s203.1 rfl rfl rfl rfl rfl ?_
    have hT117 := cT_keep (t' := t203) hT (fun c i h => (e203 c i (by first | decide | omega)).trans (e189 c i (by first | decide | omega)))
    obtain ⟨_, r216, t216, a216, f216, rfl, s216, e216, q216⟩ := pc_goOn (d + 2) n (s203) hT117 (by first | decide | omega) 
    have b216 := s216.2.2.2
    refine gx_callo (a := 1) rfl rfl s203.1 rfl rfl rfl r216 rfl ?_
    have k118 : ai_hv t216 191 0 = some (.inl (σ 0 0)) := (e216 191 0 (by first | decide | omega)).trans k104
    have k119 : ai_hv t216 191 1 = some (.inl (σ 1 0)) := (e216 191 1 (by first | decide | omega)).trans k105
    have k120 : ai_hv t216 194 5 = some (.inl (σ 2 0)) := (e216 194 5 (by first | decide | omega)).trans k106
    have k121 : ai_hv t216 200 5 = some (.inl (σ 3 0)) := (e216 200 5 (by first | decide | omega)).trans k107
    have k122 : ai_hv t216 206 5 = some (.inl (σ 4 0)) := (e216 206 5 (by first | decide | omega)).trans k108
    have k123 : ai_hv t216 212 5 = some (.inl (σ 5 0)) := (e216 212 5 (by first | decide | omega)).trans k109
    have k124 : ai_hv t216 218 5 = some (.inl (σ 6 0)) := (e216 218 5 (by first | decide | omega)).trans k110
    have k125 : ai_hv t216 224 5 = some (.inl (σ 7 0)) := (e216 224 5 (by first | decide | omega)).trans k111
    have k126 : ai_hv t216 7 5 = some (.inl (σ 9 0)) := (e216 7 5 (by first | decide | omega)).trans k112
    have k127 : ai_hv t216 7 6 = some (.inl (σ 9 1)) := (e216 7 6 (by first | decide | omega)).trans k113
    have k128 : ai_hv t216 7 7 = some (.inl (σ 9 2)) := (e216 7 7 (by first | decide | omega)).trans k114
    have k129 : ai_hv t216 7 1 = some (gx_r 191) := (e216 7 1 (by first | decide | omega)).trans k115
    have k130 : ai_hv t216 7 4 = some (.inl 1) := (e216 7 4 (by first | decide | omega)).trans k203
    show en_ex _ _ _ _ (27, [(0, gx_r 7)], [], t216, n, 0) _
    have ya : (a216, f216) = fr S m (σ 8 0 ≠ 0) 3 (a, 0) := by
      rw [fr_w (show σ 8 0 ≠ 0 by omega)]; exact Prod.ext (by show a216 = a; omega) (by show f216 = 3 + 16 * sp_st S m a; omega)
    refine ex_go (S := (28, [(0, gx_r 7)], [gx_r 7], t216, n, 0)) rfl (fun _ => rfl) rfl ?_
    refine gxo_get (a := 7) rfl s216.1 rfl rfl k129 rfl ?_
    refine ex_go (S := (32, [(0, gx_r 7)], [gx_r 7, gx_r 191], t216, n, 0)) rfl (fun _ => rfl) rfl ?_
    refine gxo_ref (a := 7) (c := 1) rfl s216.1 rfl rfl rfl rfl rfl ?_
    refine ex_go (S := (36, [(0, gx_r 7)], [.inl 1, gx_r 1, gx_r 191], t216, n, 0)) rfl (fun _ => rfl) rfl ?_
    refine ex_go (S := (37, [(0, gx_r 7)], [.inl 4, .inl 1, gx_r 1, gx_r 191], t216, n, 0)) rfl (fun _ => rfl) rfl ?_
    have hT132 := cT_keep (t' := t216) hT (fun c i h => (e216 c i (by first | decide | omega)).trans ((e203 c i (by first | decide | omega)).trans (e189 c i (by first | decide | omega))))
    obtain ⟨_, r231, v231, t231, a231, f231, rfl, s231, e231, z231, q231⟩ := pc_takeNumber (d + 1) n (s216) hT132 (by first | decide | omega) (lo := 1) (hi := 4) (by first | decide | omega) (by first | decide | omega) (by first | decide | omega)
    have b231 := s231.2.2.2
    have y231 := z231.trans (congrArg (fn S m N 1 4) ya)
    refine gx_callo (a := 1) rfl rfl s216.1 rfl rfl rfl r231 rfl ?_
    have k133 : ai_hv t231 191 0 = some (.inl (σ 0 0)) := (e231 191 0 (by first | decide | omega)).trans k118
    have k134 : ai_hv t231 191 1 = some (.inl (σ 1 0)) := (e231 191 1 (by first | decide | omega)).trans k119
    have k135 : ai_hv t231 194 5 = some (.inl (σ 2 0)) := (e231 194 5 (by first | decide | omega)).trans k120
    have k136 : ai_hv t231 200 5 = some (.inl (σ 3 0)) := (e231 200 5 (by first | decide | omega)).trans k121
    have k137 : ai_hv t231 206 5 = some (.inl (σ 4 0)) := (e231 206 5 (by first | decide | omega)).trans k122
    have k138 : ai_hv t231 212 5 = some (.inl (σ 5 0)) := (e231 212 5 (by first | decide | omega)).trans k123
    have k139 : ai_hv t231 218 5 = some (.inl (σ 6 0)) := (e231 218 5 (by first | decide | omega)).trans k124
    have k140 : ai_hv t231 224 5 = some (.inl (σ 7 0)) := (e231 224 5 (by first | decide | omega)).trans k125
    have k141 : ai_hv t231 7 5 = some (.inl (σ 9 0)) := (e231 7 5 (by first | decide | omega)).trans k126
    have k142 : ai_hv t231 7 6 = some (.inl (σ 9 1)) := (e231 7 6 (by first | decide | omega)).trans k127
    have k143 : ai_hv t231 7 7 = some (.inl (σ 9 2)) := (e231 7 7 (by first | decide | omega)).trans k128
    have k144 : ai_hv t231 7 1 = some (gx_r 191) := (e231 7 1 (by first | decide | omega)).trans k129
    have k145 : ai_hv t231 7 4 = some (.inl 1) := (e231 7 4 (by first | decide | omega)).trans k130
    show en_ex _ _ _ _ (40, [(0, gx_r 7)], [.inl v231, gx_r 191], t231, n, 0) _
    refine gxo_put (a := 191) rfl s231.1 rfl rfl rfl (gx_full (by first | decide | omega)) rfl (fun t246 g246 k246 e246 => ?_)
    have k147 : ai_hv t246 191 0 = some (.inl (σ 0 0)) := (e246 191 0 (by first | decide | omega)).trans k133
    have k148 : ai_hv t246 191 1 = some (.inl (σ 1 0)) := (e246 191 1 (by first | decide | omega)).trans k134
    have k149 : ai_hv t246 194 5 = some (.inl (σ 2 0)) := (e246 194 5 (by first | decide | omega)).trans k135
    have k150 : ai_hv t246 200 5 = some (.inl (σ 3 0)) := (e246 200 5 (by first | decide | omega)).trans k136
    have k151 : ai_hv t246 206 5 = some (.inl (σ 4 0)) := (e246 206 5 (by first | decide | omega)).trans k137
    have k152 : ai_hv t246 212 5 = some (.inl (σ 5 0)) := (e246 212 5 (by first | decide | omega)).trans k138
    have k153 : ai_hv t246 218 5 = some (.inl (σ 6 0)) := (e246 218 5 (by first | decide | omega)).trans k139
    have k154 : ai_hv t246 224 5 = some (.inl (σ 7 0)) := (e246 224 5 (by first | decide | omega)).trans k140
    have k155 : ai_hv t246 7 5 = some (.inl (σ 9 0)) := (e246 7 5 (by first | decide | omega)).trans k141
    have k156 : ai_hv t246 7 6 = some (.inl (σ 9 1)) := (e246 7 6 (by first | decide | omega)).trans k142
    have k157 : ai_hv t246 7 7 = some (.inl (σ 9 2)) := (e246 7 7 (by first | decide | omega)).trans k143
    have k158 : ai_hv t246 7 1 = some (gx_r 191) := (e246 7 1 (by first | decide | omega)).trans k144
    have k159 : ai_hv t246 7 4 = some (.inl 1) := (e246 7 4 (by first | decide | omega)).trans k145
    have s246 : cS t246 a231 f231 := ⟨g246, (e246 1 8 (by first | decide | omega)).trans s231.2.1, (e246 1 1 (by first | decide | omega)).trans s231.2.2.1, s231.2.2.2⟩
    refine ex_go (S := (44, [(0, gx_r 7)], [gx_r 7], t246, n, 0)) rfl (fun _ => rfl) rfl ?_
    refine gxo_ref (a := 7) (c := 1) rfl s246.1 rfl rfl rfl rfl rfl ?_
    refine ex_go (S := (49, [(0, gx_r 7)], [.inl 59, gx_r 1], t246, n, 0)) rfl (fun _ => rfl) rfl ?_
    have hT161 := cT_keep (t' := t246) hT (fun c i h => (e246 c i (by first | decide | omega)).trans ((e231 c i (by first | decide | omega)).trans ((e216 c i (by first | decide | omega)).trans ((e203 c i (by first | decide | omega)).trans (e189 c i (by first | decide | omega))))))
    obtain ⟨_, r260, t260, a260, f260, rfl, s260, e260, z260, q260⟩ := pc_takeSign (d + 1) n (s246) hT161 (by first | decide | omega) (w := 59) (by first | decide | omega)
    have b260 := s260.2.2.2
    have y260 := z260.trans (congrArg (fs S m N 59) y231)
    refine gx_callo (a := 1) rfl rfl s246.1 rfl rfl rfl r260 rfl ?_
    have k162 : ai_hv t260 191 0 = some (.inl (σ 0 0)) := (e260 191 0 (by first | decide | omega)).trans k147
    have k163 : ai_hv t260 191 1 = some (.inl (σ 1 0)) := (e260 191 1 (by first | decide | omega)).trans k148
    have k164 : ai_hv t260 194 5 = some (.inl (σ 2 0)) := (e260 194 5 (by first | decide | omega)).trans k149
    have k165 : ai_hv t260 200 5 = some (.inl (σ 3 0)) := (e260 200 5 (by first | decide | omega)).trans k150
    have k166 : ai_hv t260 206 5 = some (.inl (σ 4 0)) := (e260 206 5 (by first | decide | omega)).trans k151
    have k167 : ai_hv t260 212 5 = some (.inl (σ 5 0)) := (e260 212 5 (by first | decide | omega)).trans k152
    have k168 : ai_hv t260 218 5 = some (.inl (σ 6 0)) := (e260 218 5 (by first | decide | omega)).trans k153
    have k169 : ai_hv t260 224 5 = some (.inl (σ 7 0)) := (e260 224 5 (by first | decide | omega)).trans k154
    have k170 : ai_hv t260 7 5 = some (.inl (σ 9 0)) := (e260 7 5 (by first | decide | omega)).trans k155
    have k171 : ai_hv t260 7 6 = some (.inl (σ 9 1)) := (e260 7 6 (by first | decide | omega)).trans k156
    have k172 : ai_hv t260 7 7 = some (.inl (σ 9 2)) := (e260 7 7 (by first | decide | omega)).trans k157
    have k173 : ai_hv t260 7 1 = some (gx_r 191) := (e260 7 1 (by first | decide | omega)).trans k158
    have k174 : ai_hv t260 7 4 = some (.inl 1) := (e260 7 4 (by first | decide | omega)).trans k159
    have k175 : ai_hv t260 191 2 = some (.inl v231) := (e260 191 2 (by first | decide | omega)).trans k246
    show en_ex _ _ _ _ (52, [(0, gx_r 7)], [], t260, n, 0) _
    refine ex_ret (r := (none, t260, n, 0)) rfl (fun _ => rfl) ?_
    have hT176 := cT_keep (t' := t260) hT (fun c i h => (e260 c i (by first | decide | omega)).trans ((e246 c i (by first | decide | omega)).trans ((e231 c i (by first | decide | omega)).trans ((e216 c i (by first | decide | omega)).trans ((e203 c i (by first | decide | omega)).trans (e189 c i (by first | decide | omega)))))))
    refine ⟨_, rfl, t260, a260, f260, rfl, s260, hT176, k173, (fun c i h => (e260 c i (by first | decide | omega)).trans ((e246 c i (by first | decide | omega)).trans ((e231 c i (by first | decide | omega)).trans ((e216 c i (by first | decide | omega)).trans ((e203 c i (by first | decide | omega)).trans (e189 c i (by first | decide | omega))))))), y260, by omega, fun h0 => ⟨by omega, ?_⟩⟩
    have hpa : ai_hv t260 191 2 = some (.inl (pcv S m (a + 1))) := by
      unfold pcv
      rw [if_neg (show a + 1 ≠ 0 by omega)]
      have h9 : v231 = sp_nv S m (a + 1) := by rw [← show a216 = a + 1 by omega]; omega
      rw [← h9]; exact k175
    have xc177 : ∀ i, i < σ 2 0 → ai_hv t260 197 i = some (.inl (sp_nv S m (σ 16 i + 3) + 8 * sp_nv S m (σ 16 i + 4))) := fun i hi => ((e260 197 i (by first | decide | omega)).trans ((e246 197 i (by first | decide | omega)).trans ((e231 197 i (by first | decide | omega)).trans ((e216 197 i (by first | decide | omega)).trans ((e203 197 i (by first | decide | omega)).trans (e189 197 i (by first | decide | omega))))))).trans (gcb0 i hi)
    have xc178 : ∀ i, i < σ 4 0 → ai_hv t260 207 i = some (.inr (.inl (sp_wv S m (σ 21 i + 1)))) := fun i hi => ((e260 207 i (by first | decide | omega)).trans ((e246 207 i (by first | decide | omega)).trans ((e231 207 i (by first | decide | omega)).trans ((e216 207 i (by first | decide | omega)).trans ((e203 207 i (by first | decide | omega)).trans (e189 207 i (by first | decide | omega))))))).trans (gcb1 i hi)
    have xc179 : ∀ i, i < σ 3 0 → ai_hv t260 203 i = some (.inl (sp_nv S m (σ 20 i + 4))) := fun i hi => ((e260 203 i (by first | decide | omega)).trans ((e246 203 i (by first | decide | omega)).trans ((e231 203 i (by first | decide | omega)).trans ((e216 203 i (by first | decide | omega)).trans ((e203 203 i (by first | decide | omega)).trans (e189 203 i (by first | decide | omega))))))).trans (gcb2 i hi)
    have xc180 : ∀ i, i < σ 3 0 → ai_hv t260 204 i = some (.inl (sp_nv S m (σ 20 i + 6))) := fun i hi => ((e260 204 i (by first | decide | omega)).trans ((e246 204 i (by first | decide | omega)).trans ((e231 204 i (by first | decide | omega)).trans ((e216 204 i (by first | decide | omega)).trans ((e203 204 i (by first | decide | omega)).trans (e189 204 i (by first | decide | omega))))))).trans (gcb3 i hi)
    have xc181 : ∀ i, i < σ 3 0 → ai_hv t260 205 i = some (.inl (sp_nv S m (σ 20 i + 8))) := fun i hi => ((e260 205 i (by first | decide | omega)).trans ((e246 205 i (by first | decide | omega)).trans ((e231 205 i (by first | decide | omega)).trans ((e216 205 i (by first | decide | omega)).trans ((e203 205 i (by first | decide | omega)).trans (e189 205 i (by first | decide | omega))))))).trans (gcb4 i hi)
    have xc182 : ∀ i, i < σ 4 0 → ai_hv t260 209 i = some (.inl (sp_nv S m (σ 21 i + 3))) := fun i hi => ((e260 209 i (by first | decide | omega)).trans ((e246 209 i (by first | decide | omega)).trans ((e231 209 i (by first | decide | omega)).trans ((e216 209 i (by first | decide | omega)).trans ((e203 209 i (by first | decide | omega)).trans (e189 209 i (by first | decide | omega))))))).trans (gcb5 i hi)
    have xc183 : ∀ i, i < σ 4 0 → ai_hv t260 210 i = some (.inl (sp_nv S m (σ 21 i + 5))) := fun i hi => ((e260 210 i (by first | decide | omega)).trans ((e246 210 i (by first | decide | omega)).trans ((e231 210 i (by first | decide | omega)).trans ((e216 210 i (by first | decide | omega)).trans ((e203 210 i (by first | decide | omega)).trans (e189 210 i (by first | decide | omega))))))).trans (gcb6 i hi)
    have xc184 : ∀ i, i < σ 5 0 → ai_hv t260 214 i = some (.inl (sp_nv S m (σ 17 i + 2))) := fun i hi => ((e260 214 i (by first | decide | omega)).trans ((e246 214 i (by first | decide | omega)).trans ((e231 214 i (by first | decide | omega)).trans ((e216 214 i (by first | decide | omega)).trans ((e203 214 i (by first | decide | omega)).trans (e189 214 i (by first | decide | omega))))))).trans (gcb7 i hi)
    have xc185 : ∀ i, i < σ 5 0 → ai_hv t260 215 i = some (.inl (sp_nv S m (σ 17 i + 4))) := fun i hi => ((e260 215 i (by first | decide | omega)).trans ((e246 215 i (by first | decide | omega)).trans ((e231 215 i (by first | decide | omega)).trans ((e216 215 i (by first | decide | omega)).trans ((e203 215 i (by first | decide | omega)).trans (e189 215 i (by first | decide | omega))))))).trans (gcb8 i hi)
    have xc186 : ∀ i, i < σ 6 0 → ai_hv t260 220 i = some (.inl (sp_nv S m (σ 18 i + 2))) := fun i hi => ((e260 220 i (by first | decide | omega)).trans ((e246 220 i (by first | decide | omega)).trans ((e231 220 i (by first | decide | omega)).trans ((e216 220 i (by first | decide | omega)).trans ((e203 220 i (by first | decide | omega)).trans (e189 220 i (by first | decide | omega))))))).trans (gcb9 i hi)
    have xc187 : ∀ i, i < σ 7 0 → ai_hv t260 226 i = some (.inl (sp_nv S m (σ 19 i + 2))) := fun i hi => ((e260 226 i (by first | decide | omega)).trans ((e246 226 i (by first | decide | omega)).trans ((e231 226 i (by first | decide | omega)).trans ((e216 226 i (by first | decide | omega)).trans ((e203 226 i (by first | decide | omega)).trans (e189 226 i (by first | decide | omega))))))).trans (gcb10 i hi)
    have xc188 : ∀ i, i < σ 7 0 → ai_hv t260 227 i = some (.inl (sp_nv S m (σ 19 i + 4))) := fun i hi => ((e260 227 i (by first | decide | omega)).trans ((e246 227 i (by first | decide | omega)).trans ((e231 227 i (by first | decide | omega)).trans ((e216 227 i (by first | decide | omega)).trans ((e203 227 i (by first | decide | omega)).trans (e189 227 i (by first | decide | omega))))))).trans (gcb11 i hi)
    have xc189 : ∀ j, j < 64 → ai_hv t260 192 j = some (.inl (σ 23 j)) := fun j hj => ((e260 192 j (by first | decide | omega)).trans ((e246 192 j (by first | decide | omega)).trans ((e231 192 j (by first | decide | omega)).trans ((e216 192 j (by first | decide | omega)).trans ((e203 192 j (by first | decide | omega)).trans (e189 192 j (by first | decide | omega))))))).trans (gcb13 j hj)
    exact ⟨⟨k162, k163, k164, k165, k166, k167, k168, k169, k174, k170, k171, k172⟩, (fun i hi => ⟨((fun i hi => ((e260 195 i (by first | decide | omega)).trans ((e246 195 i (by first | decide | omega)).trans ((e231 195 i (by first | decide | omega)).trans ((e216 195 i (by first | decide | omega)).trans ((e203 195 i (by first | decide | omega)).trans (e189 195 i (by first | decide | omega))))))).trans (hAt i hi).1)) i hi, ((fun i hi => ((e260 196 i (by first | decide | omega)).trans ((e246 196 i (by first | decide | omega)).trans ((e231 196 i (by first | decide | omega)).trans ((e216 196 i (by first | decide | omega)).trans ((e203 196 i (by first | decide | omega)).trans (e189 196 i (by first | decide | omega))))))).trans (hAt i hi).2)) i hi⟩), (fun i hi => ((e260 202 i (by first | decide | omega)).trans ((e246 202 i (by first | decide | omega)).trans ((e231 202 i (by first | decide | omega)).trans ((e216 202 i (by first | decide | omega)).trans ((e203 202 i (by first | decide | omega)).trans (e189 202 i (by first | decide | omega))))))).trans (hAl i hi)), (fun i hi => ((e260 208 i (by first | decide | omega)).trans ((e246 208 i (by first | decide | omega)).trans ((e231 208 i (by first | decide | omega)).trans ((e216 208 i (by first | decide | omega)).trans ((e203 208 i (by first | decide | omega)).trans (e189 208 i (by first | decide | omega))))))).trans (hAc i hi)), (fun i hi => ((e260 213 i (by first | decide | omega)).trans ((e246 213 i (by first | decide | omega)).trans ((e231 213 i (by first | decide | omega)).trans ((e216 213 i (by first | decide | omega)).trans ((e203 213 i (by first | decide | omega)).trans (e189 213 i (by first | decide | omega))))))).trans (hAg i hi)), (fun i hi => ((e260 219 i (by first | decide | omega)).trans ((e246 219 i (by first | decide | omega)).trans ((e231 219 i (by first | decide | omega)).trans ((e216 219 i (by first | decide | omega)).trans ((e203 219 i (by first | decide | omega)).trans (e189 219 i (by first | decide | omega))))))).trans (hAs i hi)), (fun i hi => ((e260 225 i (by first | decide | omega)).trans ((e246 225 i (by first | decide | omega)).trans ((e231 225 i (by first | decide | omega)).trans ((e216 225 i (by first | decide | omega)).trans ((e203 225 i (by first | decide | omega)).trans (e189 225 i (by first | decide | omega))))))).trans (hAo i hi)), xc177, xc178, xc179, xc180, xc181, xc182, xc183, xc184, xc185, xc186, xc187, xc188, hpa, xc189⟩
theorem pc_lead191_t (d n : Nat) {t0 : en_H} {a a3 f3 v1 v2 : Nat} {S : Nat → Nat} {m N : Nat} {σ : Nat → Nat → Nat} (s0 : cS t0 a3 f3) (hT : cT t0 S m N) (ha3 : a3 ≤ N) (ha : a < N) (hle : a ≤ a3) (hP : ai_hv t0 7 1 = some (gx_r 191)) (hA : CA t0 191 S m σ) (h3 : W3 S m N σ) (hv1 : v1 < 10000) (hv2 : v2 < 10000) (hq : f3 = 0 → a3 = a + 3 ∧ v1 = sp_nv S m (a + 1) ∧ v2 = sp_nv S m (a + 2) ∧ v1 ≤ σ 0 0 - 1 ∧ v2 ≤ σ 1 0 - 1 ∧ σ 3 0 ≠ 6) (ye : (a3, f3) = fd2 S m N (σ 1 0 - 1) (sg_lead σ (8 * sp_nv S m (a + 2) + sp_nv S m (a + 1))) (fn S m N 0 (σ 0 0 - 1) (fr S m (σ 3 0 = 6) 5 (a, 0)))) : en_ex none (en_u (d + 3)) (en_code 233) (fun _ => false) (118, [(1, .inl v1), (0, gx_r 7)], [.inl v2], t0, n, 0) (fun o => ∃ r, o = .inl r ∧ ∃ t' a' f', r = (none, t', n, 0) ∧ cS t' a' f' ∧ cT t' S m N ∧ ai_hv t' 7 1 = some (gx_r 191) ∧ cW 191 t0 t' ∧ (a', f') = fs S m N 59 (sl_lead S m N σ a) ∧ a' ≤ N ∧ (f' = 0 → a < a' ∧ CA t' 191 S m (sn_lead S m σ a))) := by
  have b0 := s0.2.2.2
  have hN := hT.2.2.2.2.2.2.1
  have hA0 := hA
  obtain ⟨⟨kk0, kk1, kk2, kk3, kk4, kk5, kk6, kk7, kk8, kk9, kk10, kk11⟩, hAt, hAl, hAc, hAg, hAs, hAo, gcb0, gcb1, gcb2, gcb3, gcb4, gcb5, gcb6, gcb7, gcb8, gcb9, gcb10, gcb11, gcb12, gcb13⟩ := hA0
  have kk0 : ai_hv t0 191 0 = some (.inl (σ 0 0)) := kk0
  have kk1 : ai_hv t0 191 1 = some (.inl (σ 1 0)) := kk1
  have kk2 : ai_hv t0 194 5 = some (.inl (σ 2 0)) := kk2
  have kk3 : ai_hv t0 200 5 = some (.inl (σ 3 0)) := kk3
  have kk4 : ai_hv t0 206 5 = some (.inl (σ 4 0)) := kk4
  have kk5 : ai_hv t0 212 5 = some (.inl (σ 5 0)) := kk5
  have kk6 : ai_hv t0 218 5 = some (.inl (σ 6 0)) := kk6
  have kk7 : ai_hv t0 224 5 = some (.inl (σ 7 0)) := kk7
  have hBB := h3.1.1
  refine ex_go (S := (119, [(2, .inl v2), (1, .inl v1), (0, gx_r 7)], [], t0, n, 0)) rfl (fun _ => rfl) rfl ?_
  refine ex_go (S := (120, [(2, .inl v2), (1, .inl v1), (0, gx_r 7)], [gx_r 7], t0, n, 0)) rfl (fun _ => rfl) rfl ?_
  refine gxo_ref (a := 7) (c := 1) rfl s0.1 rfl rfl rfl rfl rfl ?_
  refine ex_go (S := (126, [(2, .inl v2), (1, .inl v1), (0, gx_r 7)], [gx_w 5, gx_r 1], t0, n, 0)) rfl (fun _ => rfl) rfl ?_
  obtain ⟨_, r101, t101, a101, f101, rfl, s101, e101, z101, q101⟩ := pc_takeWord (d + 1) n (s0) hT (by first | decide | omega) (w := 5) (by first | decide | omega)
  have b101 := s101.2.2.2
  have y101 := z101.trans (congrArg (fw S m N 5) ye)
  refine gx_callo (a := 1) rfl rfl s0.1 rfl rfl rfl r101 rfl ?_
  have k2 : ai_hv t101 191 0 = some (.inl (σ 0 0)) := (e101 191 0 (by first | decide | omega)).trans kk0
  have k3 : ai_hv t101 191 1 = some (.inl (σ 1 0)) := (e101 191 1 (by first | decide | omega)).trans kk1
  have k4 : ai_hv t101 194 5 = some (.inl (σ 2 0)) := (e101 194 5 (by first | decide | omega)).trans kk2
  have k5 : ai_hv t101 200 5 = some (.inl (σ 3 0)) := (e101 200 5 (by first | decide | omega)).trans kk3
  have k6 : ai_hv t101 206 5 = some (.inl (σ 4 0)) := (e101 206 5 (by first | decide | omega)).trans kk4
  have k7 : ai_hv t101 212 5 = some (.inl (σ 5 0)) := (e101 212 5 (by first | decide | omega)).trans kk5
  have k8 : ai_hv t101 218 5 = some (.inl (σ 6 0)) := (e101 218 5 (by first | decide | omega)).trans kk6
  have k9 : ai_hv t101 224 5 = some (.inl (σ 7 0)) := (e101 224 5 (by first | decide | omega)).trans kk7
  have k10 : ai_hv t101 7 4 = some (.inl (σ 8 0)) := (e101 7 4 (by first | decide | omega)).trans kk8
  have k11 : ai_hv t101 7 5 = some (.inl (σ 9 0)) := (e101 7 5 (by first | decide | omega)).trans kk9
  have k12 : ai_hv t101 7 6 = some (.inl (σ 9 1)) := (e101 7 6 (by first | decide | omega)).trans kk10
  have k13 : ai_hv t101 7 7 = some (.inl (σ 9 2)) := (e101 7 7 (by first | decide | omega)).trans kk11
  have k14 : ai_hv t101 7 1 = some (gx_r 191) := (e101 7 1 (by first | decide | omega)).trans hP
  show en_ex _ _ _ _ (129, [(2, .inl v2), (1, .inl v1), (0, gx_r 7)], [], t101, n, 0) _
  refine ex_go (S := (130, [(2, .inl v2), (1, .inl v1), (0, gx_r 7)], [gx_r 7], t101, n, 0)) rfl (fun _ => rfl) rfl ?_
  refine gxo_ref (a := 7) (c := 1) rfl s101.1 rfl rfl rfl rfl rfl ?_
  refine ex_go (S := (134, [(2, .inl v2), (1, .inl v1), (0, gx_r 7)], [.inl 1, gx_r 1], t101, n, 0)) rfl (fun _ => rfl) rfl ?_
  refine ex_go (S := (136, [(2, .inl v2), (1, .inl v1), (0, gx_r 7)], [.inl 30, .inl 1, gx_r 1], t101, n, 0)) rfl (fun _ => rfl) rfl ?_
  have hT16 := cT_keep (t' := t101) hT (fun c i h => e101 c i (by first | decide | omega))
  obtain ⟨_, r115, v115, t115, a115, f115, rfl, s115, e115, z115, q115⟩ := pc_takeNumber (d + 1) n (s101) hT16 (by first | decide | omega) (lo := 1) (hi := 30) (by first | decide | omega) (by first | decide | omega) (by first | decide | omega)
  have b115 := s115.2.2.2
  have y115 := z115.trans (congrArg (fn S m N 1 30) y101)
  refine gx_callo (a := 1) rfl rfl s101.1 rfl rfl rfl r115 rfl ?_
  have k17 : ai_hv t115 191 0 = some (.inl (σ 0 0)) := (e115 191 0 (by first | decide | omega)).trans k2
  have k18 : ai_hv t115 191 1 = some (.inl (σ 1 0)) := (e115 191 1 (by first | decide | omega)).trans k3
  have k19 : ai_hv t115 194 5 = some (.inl (σ 2 0)) := (e115 194 5 (by first | decide | omega)).trans k4
  have k20 : ai_hv t115 200 5 = some (.inl (σ 3 0)) := (e115 200 5 (by first | decide | omega)).trans k5
  have k21 : ai_hv t115 206 5 = some (.inl (σ 4 0)) := (e115 206 5 (by first | decide | omega)).trans k6
  have k22 : ai_hv t115 212 5 = some (.inl (σ 5 0)) := (e115 212 5 (by first | decide | omega)).trans k7
  have k23 : ai_hv t115 218 5 = some (.inl (σ 6 0)) := (e115 218 5 (by first | decide | omega)).trans k8
  have k24 : ai_hv t115 224 5 = some (.inl (σ 7 0)) := (e115 224 5 (by first | decide | omega)).trans k9
  have k25 : ai_hv t115 7 4 = some (.inl (σ 8 0)) := (e115 7 4 (by first | decide | omega)).trans k10
  have k26 : ai_hv t115 7 5 = some (.inl (σ 9 0)) := (e115 7 5 (by first | decide | omega)).trans k11
  have k27 : ai_hv t115 7 6 = some (.inl (σ 9 1)) := (e115 7 6 (by first | decide | omega)).trans k12
  have k28 : ai_hv t115 7 7 = some (.inl (σ 9 2)) := (e115 7 7 (by first | decide | omega)).trans k13
  have k29 : ai_hv t115 7 1 = some (gx_r 191) := (e115 7 1 (by first | decide | omega)).trans k14
  show en_ex _ _ _ _ (139, [(2, .inl v2), (1, .inl v1), (0, gx_r 7)], [.inl v115], t115, n, 0) _
  have h4 : f115 = 0 → v115 = sp_nv S m (a + 4) := fun z => by rw [← show a101 = a + 4 by omega]; omega
  refine ex_go (S := (140, [(3, .inl v115), (2, .inl v2), (1, .inl v1), (0, gx_r 7)], [], t115, n, 0)) rfl (fun _ => rfl) rfl ?_
  refine ex_go (S := (141, [(3, .inl v115), (2, .inl v2), (1, .inl v1), (0, gx_r 7)], [gx_r 7], t115, n, 0)) rfl (fun _ => rfl) rfl ?_
  refine gxo_ref (a := 7) (c := 1) rfl s115.1 rfl rfl rfl rfl rfl ?_
  refine ex_go (S := (147, [(3, .inl v115), (2, .inl v2), (1, .inl v1), (0, gx_r 7)], [gx_w 6, gx_r 1], t115, n, 0)) rfl (fun _ => rfl) rfl ?_
  have hT31 := cT_keep (t' := t115) hT (fun c i h => (e115 c i (by first | decide | omega)).trans (e101 c i (by first | decide | omega)))
  obtain ⟨_, r130, t130, a130, f130, rfl, s130, e130, z130, q130⟩ := pc_takeWord (d + 1) n (s115) hT31 (by first | decide | omega) (w := 6) (by first | decide | omega)
  have b130 := s130.2.2.2
  have y130 := z130.trans (congrArg (fw S m N 6) y115)
  refine gx_callo (a := 1) rfl rfl s115.1 rfl rfl rfl r130 rfl ?_
  have k32 : ai_hv t130 191 0 = some (.inl (σ 0 0)) := (e130 191 0 (by first | decide | omega)).trans k17
  have k33 : ai_hv t130 191 1 = some (.inl (σ 1 0)) := (e130 191 1 (by first | decide | omega)).trans k18
  have k34 : ai_hv t130 194 5 = some (.inl (σ 2 0)) := (e130 194 5 (by first | decide | omega)).trans k19
  have k35 : ai_hv t130 200 5 = some (.inl (σ 3 0)) := (e130 200 5 (by first | decide | omega)).trans k20
  have k36 : ai_hv t130 206 5 = some (.inl (σ 4 0)) := (e130 206 5 (by first | decide | omega)).trans k21
  have k37 : ai_hv t130 212 5 = some (.inl (σ 5 0)) := (e130 212 5 (by first | decide | omega)).trans k22
  have k38 : ai_hv t130 218 5 = some (.inl (σ 6 0)) := (e130 218 5 (by first | decide | omega)).trans k23
  have k39 : ai_hv t130 224 5 = some (.inl (σ 7 0)) := (e130 224 5 (by first | decide | omega)).trans k24
  have k40 : ai_hv t130 7 4 = some (.inl (σ 8 0)) := (e130 7 4 (by first | decide | omega)).trans k25
  have k41 : ai_hv t130 7 5 = some (.inl (σ 9 0)) := (e130 7 5 (by first | decide | omega)).trans k26
  have k42 : ai_hv t130 7 6 = some (.inl (σ 9 1)) := (e130 7 6 (by first | decide | omega)).trans k27
  have k43 : ai_hv t130 7 7 = some (.inl (σ 9 2)) := (e130 7 7 (by first | decide | omega)).trans k28
  have k44 : ai_hv t130 7 1 = some (gx_r 191) := (e130 7 1 (by first | decide | omega)).trans k29
  show en_ex _ _ _ _ (150, [(3, .inl v115), (2, .inl v2), (1, .inl v1), (0, gx_r 7)], [], t130, n, 0) _
  refine ex_go (S := (151, [(3, .inl v115), (2, .inl v2), (1, .inl v1), (0, gx_r 7)], [gx_r 7], t130, n, 0)) rfl (fun _ => rfl) rfl ?_
  refine gxo_ref (a := 7) (c := 1) rfl s130.1 rfl rfl rfl rfl rfl ?_
  refine ex_go (S := (155, [(3, .inl v115), (2, .inl v2), (1, .inl v1), (0, gx_r 7)], [.inl 0, gx_r 1], t130, n, 0)) rfl (fun _ => rfl) rfl ?_
  refine ex_go (S := (156, [(3, .inl v115), (2, .inl v2), (1, .inl v1), (0, gx_r 7)], [.inl v115, .inl 0, gx_r 1], t130, n, 0)) rfl (fun _ => rfl) rfl ?_
  refine ex_go (S := (157, [(3, .inl v115), (2, .inl v2), (1, .inl v1), (0, gx_r 7)], [.inl 1, .inl v115, .inl 0, gx_r 1], t130, n, 0)) rfl (fun _ => rfl) rfl ?_
  rcases Nat.eq_zero_or_pos v115 with hz45 | hz45
  · subst hz45
    refine ex_go (S := (158, [(3, .inl 0), (2, .inl v2), (1, .inl v1), (0, gx_r 7)], [.inl 4294967295, .inl 0, gx_r 1], t130, n, 0)) rfl (fun _ => rfl) rfl ?_
    have hT47 := cT_keep (t' := t130) hT (fun c i h => (e130 c i (by first | decide | omega)).trans ((e115 c i (by first | decide | omega)).trans (e101 c i (by first | decide | omega))))
    obtain ⟨_, r146, v146, t146, a146, f146, rfl, s146, e146, z146, q146⟩ := pc_takeNumber (d + 1) n (s130) hT47 (by first | decide | omega) (lo := 0) (hi := 4294967295) (by first | decide | omega) (by first | decide | omega) (by first | decide | omega)
    have b146 := s146.2.2.2
    have y146 := z146.trans (congrArg (fn S m N 0 4294967295) y130)
    refine gx_callo (a := 1) rfl rfl s130.1 rfl rfl rfl r146 rfl ?_
    have k48 : ai_hv t146 191 0 = some (.inl (σ 0 0)) := (e146 191 0 (by first | decide | omega)).trans k32
    have k49 : ai_hv t146 191 1 = some (.inl (σ 1 0)) := (e146 191 1 (by first | decide | omega)).trans k33
    have k50 : ai_hv t146 194 5 = some (.inl (σ 2 0)) := (e146 194 5 (by first | decide | omega)).trans k34
    have k51 : ai_hv t146 200 5 = some (.inl (σ 3 0)) := (e146 200 5 (by first | decide | omega)).trans k35
    have k52 : ai_hv t146 206 5 = some (.inl (σ 4 0)) := (e146 206 5 (by first | decide | omega)).trans k36
    have k53 : ai_hv t146 212 5 = some (.inl (σ 5 0)) := (e146 212 5 (by first | decide | omega)).trans k37
    have k54 : ai_hv t146 218 5 = some (.inl (σ 6 0)) := (e146 218 5 (by first | decide | omega)).trans k38
    have k55 : ai_hv t146 224 5 = some (.inl (σ 7 0)) := (e146 224 5 (by first | decide | omega)).trans k39
    have k56 : ai_hv t146 7 4 = some (.inl (σ 8 0)) := (e146 7 4 (by first | decide | omega)).trans k40
    have k57 : ai_hv t146 7 5 = some (.inl (σ 9 0)) := (e146 7 5 (by first | decide | omega)).trans k41
    have k58 : ai_hv t146 7 6 = some (.inl (σ 9 1)) := (e146 7 6 (by first | decide | omega)).trans k42
    have k59 : ai_hv t146 7 7 = some (.inl (σ 9 2)) := (e146 7 7 (by first | decide | omega)).trans k43
    have k60 : ai_hv t146 7 1 = some (gx_r 191) := (e146 7 1 (by first | decide | omega)).trans k44
    show en_ex _ _ _ _ (161, [(3, .inl 0), (2, .inl v2), (1, .inl v1), (0, gx_r 7)], [.inl v146], t146, n, 0) _
    have x146 := y146.trans (fn_any (lo' := 0) (hi' := sp_nv S m (a + 4) - 1) (fun h => ⟨rfl, by
      have h9 : f115 = 0 := (congrArg Prod.snd y115).trans (fw_2 h)
      have h8 := h4 (by first | decide | omega)
      omega⟩))
    refine ex_go (S := (163, [(4, .inl v146), (3, .inl 0), (2, .inl v2), (1, .inl v1), (0, gx_r 7)], [], t146, n, 0)) rfl (fun _ => rfl) rfl ?_
    refine ex_go (S := (164, [(4, .inl v146), (3, .inl 0), (2, .inl v2), (1, .inl v1), (0, gx_r 7)], [gx_r 7], t146, n, 0)) rfl (fun _ => rfl) rfl ?_
    refine gxo_ref (a := 7) (c := 1) rfl s146.1 rfl rfl rfl rfl rfl ?_
    refine ex_go (S := (170, [(4, .inl v146), (3, .inl 0), (2, .inl v2), (1, .inl v1), (0, gx_r 7)], [gx_w 7, gx_r 1], t146, n, 0)) rfl (fun _ => rfl) rfl ?_
    have hT62 := cT_keep (t' := t146) hT (fun c i h => (e146 c i (by first | decide | omega)).trans ((e130 c i (by first | decide | omega)).trans ((e115 c i (by first | decide | omega)).trans (e101 c i (by first | decide | omega)))))
    obtain ⟨_, r161, t161, a161, f161, rfl, s161, e161, z161, q161⟩ := pc_takeWord (d + 1) n (s146) hT62 (by first | decide | omega) (w := 7) (by first | decide | omega)
    have b161 := s161.2.2.2
    have y161 := z161.trans (congrArg (fw S m N 7) x146)
    refine gx_callo (a := 1) rfl rfl s146.1 rfl rfl rfl r161 rfl ?_
    have k63 : ai_hv t161 191 0 = some (.inl (σ 0 0)) := (e161 191 0 (by first | decide | omega)).trans k48
    have k64 : ai_hv t161 191 1 = some (.inl (σ 1 0)) := (e161 191 1 (by first | decide | omega)).trans k49
    have k65 : ai_hv t161 194 5 = some (.inl (σ 2 0)) := (e161 194 5 (by first | decide | omega)).trans k50
    have k66 : ai_hv t161 200 5 = some (.inl (σ 3 0)) := (e161 200 5 (by first | decide | omega)).trans k51
    have k67 : ai_hv t161 206 5 = some (.inl (σ 4 0)) := (e161 206 5 (by first | decide | omega)).trans k52
    have k68 : ai_hv t161 212 5 = some (.inl (σ 5 0)) := (e161 212 5 (by first | decide | omega)).trans k53
    have k69 : ai_hv t161 218 5 = some (.inl (σ 6 0)) := (e161 218 5 (by first | decide | omega)).trans k54
    have k70 : ai_hv t161 224 5 = some (.inl (σ 7 0)) := (e161 224 5 (by first | decide | omega)).trans k55
    have k71 : ai_hv t161 7 4 = some (.inl (σ 8 0)) := (e161 7 4 (by first | decide | omega)).trans k56
    have k72 : ai_hv t161 7 5 = some (.inl (σ 9 0)) := (e161 7 5 (by first | decide | omega)).trans k57
    have k73 : ai_hv t161 7 6 = some (.inl (σ 9 1)) := (e161 7 6 (by first | decide | omega)).trans k58
    have k74 : ai_hv t161 7 7 = some (.inl (σ 9 2)) := (e161 7 7 (by first | decide | omega)).trans k59
    have k75 : ai_hv t161 7 1 = some (gx_r 191) := (e161 7 1 (by first | decide | omega)).trans k60
    show en_ex _ _ _ _ (173, [(4, .inl v146), (3, .inl 0), (2, .inl v2), (1, .inl v1), (0, gx_r 7)], [], t161, n, 0) _
    refine ex_go (S := (174, [(4, .inl v146), (3, .inl 0), (2, .inl v2), (1, .inl v1), (0, gx_r 7)], [gx_r 7], t161, n, 0)) rfl (fun _ => rfl) rfl ?_
    refine gxo_ref (a := 7) (c := 1) rfl s161.1 rfl rfl rfl rfl rfl ?_
    refine ex_go (S := (178, [(4, .inl v146), (3, .inl 0), (2, .inl v2), (1, .inl v1), (0, gx_r 7)], [.inl 0, gx_r 1], t161, n, 0)) rfl (fun _ => rfl) rfl ?_
    refine ex_go (S := (179, [(4, .inl v146), (3, .inl 0), (2, .inl v2), (1, .inl v1), (0, gx_r 7)], [.inl 0, .inl 0, gx_r 1], t161, n, 0)) rfl (fun _ => rfl) rfl ?_
    have hT77 := cT_keep (t' := t161) hT (fun c i h => (e161 c i (by first | decide | omega)).trans ((e146 c i (by first | decide | omega)).trans ((e130 c i (by first | decide | omega)).trans ((e115 c i (by first | decide | omega)).trans (e101 c i (by first | decide | omega))))))
    obtain ⟨_, r176, v176, t176, a176, f176, rfl, s176, e176, z176, q176⟩ := pc_takeNumber (d + 1) n (s161) hT77 (by first | decide | omega) (lo := 0) (hi := 0) (by first | decide | omega) (by first | decide | omega) (by first | decide | omega)
    have b176 := s176.2.2.2
    have y176 := z176.trans (congrArg (fn S m N 0 0) y161)
    refine gx_callo (a := 1) rfl rfl s161.1 rfl rfl rfl r176 rfl ?_
    have k78 : ai_hv t176 191 0 = some (.inl (σ 0 0)) := (e176 191 0 (by first | decide | omega)).trans k63
    have k79 : ai_hv t176 191 1 = some (.inl (σ 1 0)) := (e176 191 1 (by first | decide | omega)).trans k64
    have k80 : ai_hv t176 194 5 = some (.inl (σ 2 0)) := (e176 194 5 (by first | decide | omega)).trans k65
    have k81 : ai_hv t176 200 5 = some (.inl (σ 3 0)) := (e176 200 5 (by first | decide | omega)).trans k66
    have k82 : ai_hv t176 206 5 = some (.inl (σ 4 0)) := (e176 206 5 (by first | decide | omega)).trans k67
    have k83 : ai_hv t176 212 5 = some (.inl (σ 5 0)) := (e176 212 5 (by first | decide | omega)).trans k68
    have k84 : ai_hv t176 218 5 = some (.inl (σ 6 0)) := (e176 218 5 (by first | decide | omega)).trans k69
    have k85 : ai_hv t176 224 5 = some (.inl (σ 7 0)) := (e176 224 5 (by first | decide | omega)).trans k70
    have k86 : ai_hv t176 7 4 = some (.inl (σ 8 0)) := (e176 7 4 (by first | decide | omega)).trans k71
    have k87 : ai_hv t176 7 5 = some (.inl (σ 9 0)) := (e176 7 5 (by first | decide | omega)).trans k72
    have k88 : ai_hv t176 7 6 = some (.inl (σ 9 1)) := (e176 7 6 (by first | decide | omega)).trans k73
    have k89 : ai_hv t176 7 7 = some (.inl (σ 9 2)) := (e176 7 7 (by first | decide | omega)).trans k74
    have k90 : ai_hv t176 7 1 = some (gx_r 191) := (e176 7 1 (by first | decide | omega)).trans k75
    show en_ex _ _ _ _ (182, [(4, .inl v146), (3, .inl 0), (2, .inl v2), (1, .inl v1), (0, gx_r 7)], [.inl v176], t176, n, 0) _
    have x176 := y176.trans (fn_any (lo' := 0) (hi' := sp_nv S m (a + 4)) (fun h => ⟨rfl, by
      have h9 : f146 = 0 := (congrArg Prod.snd x146).trans (fw_2 h)
      have h8 := h4 (by first | decide | omega)
      omega⟩))
    refine ex_go (S := (184, [(5, .inl v176), (4, .inl v146), (3, .inl 0), (2, .inl v2), (1, .inl v1), (0, gx_r 7)], [], t176, n, 0)) rfl (fun _ => rfl) rfl ?_
    refine ex_go (S := (185, [(5, .inl v176), (4, .inl v146), (3, .inl 0), (2, .inl v2), (1, .inl v1), (0, gx_r 7)], [gx_r 7], t176, n, 0)) rfl (fun _ => rfl) rfl ?_
    refine ex_go (S := (186, [(5, .inl v176), (4, .inl v146), (3, .inl 0), (2, .inl v2), (1, .inl v1), (0, gx_r 7)], [gx_r 7, gx_r 7], t176, n, 0)) rfl (fun _ => rfl) rfl ?_
    refine gxo_get (a := 7) rfl s176.1 rfl rfl k90 rfl ?_
    refine gxo_ref (a := 191) (c := 200) rfl s176.1 rfl rfl rfl rfl rfl ?_
    refine ex_go (S := (193, [(5, .inl v176), (4, .inl v146), (3, .inl 0), (2, .inl v2), (1, .inl v1), (0, gx_r 7)], [.inr (.inl 0), gx_r 200, gx_r 7], t176, n, 0)) rfl (fun _ => rfl) rfl ?_
    refine ex_go (S := (194, [(5, .inl v176), (4, .inl v146), (3, .inl 0), (2, .inl v2), (1, .inl v1), (0, gx_r 7)], [.inl v1, .inr (.inl 0), gx_r 200, gx_r 7], t176, n, 0)) rfl (fun _ => rfl) rfl ?_
    refine ex_go (S := (195, [(5, .inl v176), (4, .inl v146), (3, .inl 0), (2, .inl v2), (1, .inl v1), (0, gx_r 7)], [.inl v2, .inl v1, .inr (.inl 0), gx_r 200, gx_r 7], t176, n, 0)) rfl (fun _ => rfl) rfl ?_
    obtain ⟨_, r91, rfl⟩ := pc_placeOf (d + 2) n (t0 := t176) (x := v1) (y := v2) (by first | decide | omega) (by first | decide | omega)
    refine ex_stat rfl rfl rfl rfl rfl r91 (Nat.le_refl _) rfl ?_
    show en_ex _ _ _ _ (198, [(5, .inl v176), (4, .inl v146), (3, .inl 0), (2, .inl v2), (1, .inl v1), (0, gx_r 7)], [.inl (v1 + (8 * v2)), .inr (.inl 0), gx_r 200, gx_r 7], t176, n, 0) _
    refine ex_go (S := (199, [(5, .inl v176), (4, .inl v146), (3, .inl 0), (2, .inl v2), (1, .inl v1), (0, gx_r 7)], [.inl 0, .inl (v1 + (8 * v2)), .inr (.inl 0), gx_r 200, gx_r 7], t176, n, 0)) rfl (fun _ => rfl) rfl ?_
    refine ex_go (S := (201, [(5, .inl v176), (4, .inl v146), (3, .inl 0), (2, .inl v2), (1, .inl v1), (0, gx_r 7)], [.inl v146, .inl 0, .inl (v1 + (8 * v2)), .inr (.inl 0), gx_r 200, gx_r 7], t176, n, 0)) rfl (fun _ => rfl) rfl ?_
    refine ex_go (S := (203, [(5, .inl v176), (4, .inl v146), (3, .inl 0), (2, .inl v2), (1, .inl v1), (0, gx_r 7)], [.inl v176, .inl v146, .inl 0, .inl (v1 + (8 * v2)), .inr (.inl 0), gx_r 200, gx_r 7], t176, n, 0)) rfl (fun _ => rfl) rfl ?_
    have hT93 := cT_keep (t' := t176) hT (fun c i h => (e176 c i (by first | decide | omega)).trans ((e161 c i (by first | decide | omega)).trans ((e146 c i (by first | decide | omega)).trans ((e130 c i (by first | decide | omega)).trans ((e115 c i (by first | decide | omega)).trans (e101 c i (by first | decide | omega)))))))
    obtain ⟨_, r192, t192, a192, f192, rfl, s192, e192, z192, q192, u192⟩ := pc_endRow200 (d) n (s176) hT93 (by first | decide | omega) (x := 0) (y1 := v1 + (8 * v2)) (y2 := 0) (y3 := v146) (y4 := v176) k81 (fun h0 => by omega)
    have b192 := s192.2.2.2
    have y192 := z192.trans (congrArg (fs S m N 59) x176)
    refine gx_callo (a := 7) rfl rfl s176.1 rfl rfl rfl r192 rfl ?_
    have k94 : ai_hv t192 191 0 = some (.inl (σ 0 0)) := (e192 191 0 (by first | decide | omega)).trans k78
    have k95 : ai_hv t192 191 1 = some (.inl (σ 1 0)) := (e192 191 1 (by first | decide | omega)).trans k79
    have k96 : ai_hv t192 194 5 = some (.inl (σ 2 0)) := (e192 194 5 (by first | decide | omega)).trans k80
    have k97 : ai_hv t192 206 5 = some (.inl (σ 4 0)) := (e192 206 5 (by first | decide | omega)).trans k82
    have k98 : ai_hv t192 212 5 = some (.inl (σ 5 0)) := (e192 212 5 (by first | decide | omega)).trans k83
    have k99 : ai_hv t192 218 5 = some (.inl (σ 6 0)) := (e192 218 5 (by first | decide | omega)).trans k84
    have k100 : ai_hv t192 224 5 = some (.inl (σ 7 0)) := (e192 224 5 (by first | decide | omega)).trans k85
    have k101 : ai_hv t192 7 4 = some (.inl (σ 8 0)) := (e192 7 4 (by first | decide | omega)).trans k86
    have k102 : ai_hv t192 7 5 = some (.inl (σ 9 0)) := (e192 7 5 (by first | decide | omega)).trans k87
    have k103 : ai_hv t192 7 6 = some (.inl (σ 9 1)) := (e192 7 6 (by first | decide | omega)).trans k88
    have k104 : ai_hv t192 7 7 = some (.inl (σ 9 2)) := (e192 7 7 (by first | decide | omega)).trans k89
    have k105 : ai_hv t192 7 1 = some (gx_r 191) := (e192 7 1 (by first | decide | omega)).trans k90
    show en_ex _ _ _ _ (206, [(5, .inl v176), (4, .inl v146), (3, .inl 0), (2, .inl v2), (1, .inl v1), (0, gx_r 7)], [], t192, n, 0) _
    refine ex_ret (r := (none, t192, n, 0)) rfl (fun _ => rfl) ?_
    have hT106 := cT_keep (t' := t192) hT (fun c i h => (e192 c i (by first | decide | omega)).trans ((e176 c i (by first | decide | omega)).trans ((e161 c i (by first | decide | omega)).trans ((e146 c i (by first | decide | omega)).trans ((e130 c i (by first | decide | omega)).trans ((e115 c i (by first | decide | omega)).trans (e101 c i (by first | decide | omega))))))))
    refine ⟨_, rfl, t192, a192, f192, rfl, s192, hT106, k105, (fun c i h => (e192 c i (by first | decide | omega)).trans ((e176 c i (by first | decide | omega)).trans ((e161 c i (by first | decide | omega)).trans ((e146 c i (by first | decide | omega)).trans ((e130 c i (by first | decide | omega)).trans ((e115 c i (by first | decide | omega)).trans (e101 c i (by first | decide | omega)))))))), y192, by omega, fun h0 => ⟨by omega, ?_⟩⟩
    obtain ⟨u1, u2, u3, u4, u5, u6⟩ := u192 h0
    have hxy : v1 + (8 * v2) = 8 * sp_nv S m (a + 2) + sp_nv S m (a + 1) := by omega
    rw [hxy] at u3
    exfalso; omega
  · have := hz45
    refine gx_isub rfl (by first | decide | omega) (by first | decide | omega) rfl ?_
    have hT108 := cT_keep (t' := t130) hT (fun c i h => (e130 c i (by first | decide | omega)).trans ((e115 c i (by first | decide | omega)).trans (e101 c i (by first | decide | omega))))
    obtain ⟨_, r207, v207, t207, a207, f207, rfl, s207, e207, z207, q207⟩ := pc_takeNumber (d + 1) n (s130) hT108 (by first | decide | omega) (lo := 0) (hi := v115 - 1) (by first | decide | omega) (by first | decide | omega) (by first | decide | omega)
    have b207 := s207.2.2.2
    have y207 := z207.trans (congrArg (fn S m N 0 (v115 - 1)) y130)
    refine gx_callo (a := 1) rfl rfl s130.1 rfl rfl rfl r207 rfl ?_
    have k109 : ai_hv t207 191 0 = some (.inl (σ 0 0)) := (e207 191 0 (by first | decide | omega)).trans k32
    have k110 : ai_hv t207 191 1 = some (.inl (σ 1 0)) := (e207 191 1 (by first | decide | omega)).trans k33
    have k111 : ai_hv t207 194 5 = some (.inl (σ 2 0)) := (e207 194 5 (by first | decide | omega)).trans k34
    have k112 : ai_hv t207 200 5 = some (.inl (σ 3 0)) := (e207 200 5 (by first | decide | omega)).trans k35
    have k113 : ai_hv t207 206 5 = some (.inl (σ 4 0)) := (e207 206 5 (by first | decide | omega)).trans k36
    have k114 : ai_hv t207 212 5 = some (.inl (σ 5 0)) := (e207 212 5 (by first | decide | omega)).trans k37
    have k115 : ai_hv t207 218 5 = some (.inl (σ 6 0)) := (e207 218 5 (by first | decide | omega)).trans k38
    have k116 : ai_hv t207 224 5 = some (.inl (σ 7 0)) := (e207 224 5 (by first | decide | omega)).trans k39
    have k117 : ai_hv t207 7 4 = some (.inl (σ 8 0)) := (e207 7 4 (by first | decide | omega)).trans k40
    have k118 : ai_hv t207 7 5 = some (.inl (σ 9 0)) := (e207 7 5 (by first | decide | omega)).trans k41
    have k119 : ai_hv t207 7 6 = some (.inl (σ 9 1)) := (e207 7 6 (by first | decide | omega)).trans k42
    have k120 : ai_hv t207 7 7 = some (.inl (σ 9 2)) := (e207 7 7 (by first | decide | omega)).trans k43
    have k121 : ai_hv t207 7 1 = some (gx_r 191) := (e207 7 1 (by first | decide | omega)).trans k44
    show en_ex _ _ _ _ (161, [(3, .inl v115), (2, .inl v2), (1, .inl v1), (0, gx_r 7)], [.inl v207], t207, n, 0) _
    have x207 := y207.trans (fn_any (lo' := 0) (hi' := sp_nv S m (a + 4) - 1) (fun h => ⟨rfl, by
      have h9 : f115 = 0 := (congrArg Prod.snd y115).trans (fw_2 h)
      have h8 := h4 (by first | decide | omega)
      omega⟩))
    refine ex_go (S := (163, [(4, .inl v207), (3, .inl v115), (2, .inl v2), (1, .inl v1), (0, gx_r 7)], [], t207, n, 0)) rfl (fun _ => rfl) rfl ?_
    refine ex_go (S := (164, [(4, .inl v207), (3, .inl v115), (2, .inl v2), (1, .inl v1), (0, gx_r 7)], [gx_r 7], t207, n, 0)) rfl (fun _ => rfl) rfl ?_
    refine gxo_ref (a := 7) (c := 1) rfl s207.1 rfl rfl rfl rfl rfl ?_
    refine ex_go (S := (170, [(4, .inl v207), (3, .inl v115), (2, .inl v2), (1, .inl v1), (0, gx_r 7)], [gx_w 7, gx_r 1], t207, n, 0)) rfl (fun _ => rfl) rfl ?_
    have hT123 := cT_keep (t' := t207) hT (fun c i h => (e207 c i (by first | decide | omega)).trans ((e130 c i (by first | decide | omega)).trans ((e115 c i (by first | decide | omega)).trans (e101 c i (by first | decide | omega)))))
    obtain ⟨_, r222, t222, a222, f222, rfl, s222, e222, z222, q222⟩ := pc_takeWord (d + 1) n (s207) hT123 (by first | decide | omega) (w := 7) (by first | decide | omega)
    have b222 := s222.2.2.2
    have y222 := z222.trans (congrArg (fw S m N 7) x207)
    refine gx_callo (a := 1) rfl rfl s207.1 rfl rfl rfl r222 rfl ?_
    have k124 : ai_hv t222 191 0 = some (.inl (σ 0 0)) := (e222 191 0 (by first | decide | omega)).trans k109
    have k125 : ai_hv t222 191 1 = some (.inl (σ 1 0)) := (e222 191 1 (by first | decide | omega)).trans k110
    have k126 : ai_hv t222 194 5 = some (.inl (σ 2 0)) := (e222 194 5 (by first | decide | omega)).trans k111
    have k127 : ai_hv t222 200 5 = some (.inl (σ 3 0)) := (e222 200 5 (by first | decide | omega)).trans k112
    have k128 : ai_hv t222 206 5 = some (.inl (σ 4 0)) := (e222 206 5 (by first | decide | omega)).trans k113
    have k129 : ai_hv t222 212 5 = some (.inl (σ 5 0)) := (e222 212 5 (by first | decide | omega)).trans k114
    have k130 : ai_hv t222 218 5 = some (.inl (σ 6 0)) := (e222 218 5 (by first | decide | omega)).trans k115
    have k131 : ai_hv t222 224 5 = some (.inl (σ 7 0)) := (e222 224 5 (by first | decide | omega)).trans k116
    have k132 : ai_hv t222 7 4 = some (.inl (σ 8 0)) := (e222 7 4 (by first | decide | omega)).trans k117
    have k133 : ai_hv t222 7 5 = some (.inl (σ 9 0)) := (e222 7 5 (by first | decide | omega)).trans k118
    have k134 : ai_hv t222 7 6 = some (.inl (σ 9 1)) := (e222 7 6 (by first | decide | omega)).trans k119
    have k135 : ai_hv t222 7 7 = some (.inl (σ 9 2)) := (e222 7 7 (by first | decide | omega)).trans k120
    have k136 : ai_hv t222 7 1 = some (gx_r 191) := (e222 7 1 (by first | decide | omega)).trans k121
    show en_ex _ _ _ _ (173, [(4, .inl v207), (3, .inl v115), (2, .inl v2), (1, .inl v1), (0, gx_r 7)], [], t222, n, 0) _
    refine ex_go (S := (174, [(4, .inl v207), (3, .inl v115), (2, .inl v2), (1, .inl v1), (0, gx_r 7)], [gx_r 7], t222, n, 0)) rfl (fun _ => rfl) rfl ?_
    refine gxo_ref (a := 7) (c := 1) rfl s222.1 rfl rfl rfl rfl rfl ?_
    refine ex_go (S := (178, [(4, .inl v207), (3, .inl v115), (2, .inl v2), (1, .inl v1), (0, gx_r 7)], [.inl 0, gx_r 1], t222, n, 0)) rfl (fun _ => rfl) rfl ?_
    refine ex_go (S := (179, [(4, .inl v207), (3, .inl v115), (2, .inl v2), (1, .inl v1), (0, gx_r 7)], [.inl v115, .inl 0, gx_r 1], t222, n, 0)) rfl (fun _ => rfl) rfl ?_
    have hT138 := cT_keep (t' := t222) hT (fun c i h => (e222 c i (by first | decide | omega)).trans ((e207 c i (by first | decide | omega)).trans ((e130 c i (by first | decide | omega)).trans ((e115 c i (by first | decide | omega)).trans (e101 c i (by first | decide | omega))))))
    obtain ⟨_, r237, v237, t237, a237, f237, rfl, s237, e237, z237, q237⟩ := pc_takeNumber (d + 1) n (s222) hT138 (by first | decide | omega) (lo := 0) (hi := v115) (by first | decide | omega) (by first | decide | omega) (by first | decide | omega)
    have b237 := s237.2.2.2
    have y237 := z237.trans (congrArg (fn S m N 0 v115) y222)
    refine gx_callo (a := 1) rfl rfl s222.1 rfl rfl rfl r237 rfl ?_
    have k139 : ai_hv t237 191 0 = some (.inl (σ 0 0)) := (e237 191 0 (by first | decide | omega)).trans k124
    have k140 : ai_hv t237 191 1 = some (.inl (σ 1 0)) := (e237 191 1 (by first | decide | omega)).trans k125
    have k141 : ai_hv t237 194 5 = some (.inl (σ 2 0)) := (e237 194 5 (by first | decide | omega)).trans k126
    have k142 : ai_hv t237 200 5 = some (.inl (σ 3 0)) := (e237 200 5 (by first | decide | omega)).trans k127
    have k143 : ai_hv t237 206 5 = some (.inl (σ 4 0)) := (e237 206 5 (by first | decide | omega)).trans k128
    have k144 : ai_hv t237 212 5 = some (.inl (σ 5 0)) := (e237 212 5 (by first | decide | omega)).trans k129
    have k145 : ai_hv t237 218 5 = some (.inl (σ 6 0)) := (e237 218 5 (by first | decide | omega)).trans k130
    have k146 : ai_hv t237 224 5 = some (.inl (σ 7 0)) := (e237 224 5 (by first | decide | omega)).trans k131
    have k147 : ai_hv t237 7 4 = some (.inl (σ 8 0)) := (e237 7 4 (by first | decide | omega)).trans k132
    have k148 : ai_hv t237 7 5 = some (.inl (σ 9 0)) := (e237 7 5 (by first | decide | omega)).trans k133
    have k149 : ai_hv t237 7 6 = some (.inl (σ 9 1)) := (e237 7 6 (by first | decide | omega)).trans k134
    have k150 : ai_hv t237 7 7 = some (.inl (σ 9 2)) := (e237 7 7 (by first | decide | omega)).trans k135
    have k151 : ai_hv t237 7 1 = some (gx_r 191) := (e237 7 1 (by first | decide | omega)).trans k136
    show en_ex _ _ _ _ (182, [(4, .inl v207), (3, .inl v115), (2, .inl v2), (1, .inl v1), (0, gx_r 7)], [.inl v237], t237, n, 0) _
    have x237 := y237.trans (fn_any (lo' := 0) (hi' := sp_nv S m (a + 4)) (fun h => ⟨rfl, by
      have h9 : f207 = 0 := (congrArg Prod.snd x207).trans (fw_2 h)
      have h8 := h4 (by first | decide | omega)
      omega⟩))
    refine ex_go (S := (184, [(5, .inl v237), (4, .inl v207), (3, .inl v115), (2, .inl v2), (1, .inl v1), (0, gx_r 7)], [], t237, n, 0)) rfl (fun _ => rfl) rfl ?_
    refine ex_go (S := (185, [(5, .inl v237), (4, .inl v207), (3, .inl v115), (2, .inl v2), (1, .inl v1), (0, gx_r 7)], [gx_r 7], t237, n, 0)) rfl (fun _ => rfl) rfl ?_
    refine ex_go (S := (186, [(5, .inl v237), (4, .inl v207), (3, .inl v115), (2, .inl v2), (1, .inl v1), (0, gx_r 7)], [gx_r 7, gx_r 7], t237, n, 0)) rfl (fun _ => rfl) rfl ?_
    refine gxo_get (a := 7) rfl s237.1 rfl rfl k151 rfl ?_
    refine gxo_ref (a := 191) (c := 200) rfl s237.1 rfl rfl rfl rfl rfl ?_
    refine ex_go (S := (193, [(5, .inl v237), (4, .inl v207), (3, .inl v115), (2, .inl v2), (1, .inl v1), (0, gx_r 7)], [.inr (.inl 0), gx_r 200, gx_r 7], t237, n, 0)) rfl (fun _ => rfl) rfl ?_
    refine ex_go (S := (194, [(5, .inl v237), (4, .inl v207), (3, .inl v115), (2, .inl v2), (1, .inl v1), (0, gx_r 7)], [.inl v1, .inr (.inl 0), gx_r 200, gx_r 7], t237, n, 0)) rfl (fun _ => rfl) rfl ?_
    refine ex_go (S := (195, [(5, .inl v237), (4, .inl v207), (3, .inl v115), (2, .inl v2), (1, .inl v1), (0, gx_r 7)], [.inl v2, .inl v1, .inr (.inl 0), gx_r 200, gx_r 7], t237, n, 0)) rfl (fun _ => rfl) rfl ?_
    obtain ⟨_, r152, rfl⟩ := pc_placeOf (d + 2) n (t0 := t237) (x := v1) (y := v2) (by first | decide | omega) (by first | decide | omega)
    refine ex_stat rfl rfl rfl rfl rfl r152 (Nat.le_refl _) rfl ?_
    show en_ex _ _ _ _ (198, [(5, .inl v237), (4, .inl v207), (3, .inl v115), (2, .inl v2), (1, .inl v1), (0, gx_r 7)], [.inl (v1 + (8 * v2)), .inr (.inl 0), gx_r 200, gx_r 7], t237, n, 0) _
    refine ex_go (S := (199, [(5, .inl v237), (4, .inl v207), (3, .inl v115), (2, .inl v2), (1, .inl v1), (0, gx_r 7)], [.inl v115, .inl (v1 + (8 * v2)), .inr (.inl 0), gx_r 200, gx_r 7], t237, n, 0)) rfl (fun _ => rfl) rfl ?_
    refine ex_go (S := (201, [(5, .inl v237), (4, .inl v207), (3, .inl v115), (2, .inl v2), (1, .inl v1), (0, gx_r 7)], [.inl v207, .inl v115, .inl (v1 + (8 * v2)), .inr (.inl 0), gx_r 200, gx_r 7], t237, n, 0)) rfl (fun _ => rfl) rfl ?_
    refine ex_go (S := (203, [(5, .inl v237), (4, .inl v207), (3, .inl v115), (2, .inl v2), (1, .inl v1), (0, gx_r 7)], [.inl v237, .inl v207, .inl v115, .inl (v1 + (8 * v2)), .inr (.inl 0), gx_r 200, gx_r 7], t237, n, 0)) rfl (fun _ => rfl) rfl ?_
    have hT154 := cT_keep (t' := t237) hT (fun c i h => (e237 c i (by first | decide | omega)).trans ((e222 c i (by first | decide | omega)).trans ((e207 c i (by first | decide | omega)).trans ((e130 c i (by first | decide | omega)).trans ((e115 c i (by first | decide | omega)).trans (e101 c i (by first | decide | omega)))))))
    obtain ⟨_, r253, t253, a253, f253, rfl, s253, e253, z253, q253, u253⟩ := pc_endRow200 (d) n (s237) hT154 (by first | decide | omega) (x := 0) (y1 := v1 + (8 * v2)) (y2 := v115) (y3 := v207) (y4 := v237) k142 (fun h0 => by omega)
    have b253 := s253.2.2.2
    have y253 := z253.trans (congrArg (fs S m N 59) x237)
    refine gx_callo (a := 7) rfl rfl s237.1 rfl rfl rfl r253 rfl ?_
    have k155 : ai_hv t253 191 0 = some (.inl (σ 0 0)) := (e253 191 0 (by first | decide | omega)).trans k139
    have k156 : ai_hv t253 191 1 = some (.inl (σ 1 0)) := (e253 191 1 (by first | decide | omega)).trans k140
    have k157 : ai_hv t253 194 5 = some (.inl (σ 2 0)) := (e253 194 5 (by first | decide | omega)).trans k141
    have k158 : ai_hv t253 206 5 = some (.inl (σ 4 0)) := (e253 206 5 (by first | decide | omega)).trans k143
    have k159 : ai_hv t253 212 5 = some (.inl (σ 5 0)) := (e253 212 5 (by first | decide | omega)).trans k144
    have k160 : ai_hv t253 218 5 = some (.inl (σ 6 0)) := (e253 218 5 (by first | decide | omega)).trans k145
    have k161 : ai_hv t253 224 5 = some (.inl (σ 7 0)) := (e253 224 5 (by first | decide | omega)).trans k146
    have k162 : ai_hv t253 7 4 = some (.inl (σ 8 0)) := (e253 7 4 (by first | decide | omega)).trans k147
    have k163 : ai_hv t253 7 5 = some (.inl (σ 9 0)) := (e253 7 5 (by first | decide | omega)).trans k148
    have k164 : ai_hv t253 7 6 = some (.inl (σ 9 1)) := (e253 7 6 (by first | decide | omega)).trans k149
    have k165 : ai_hv t253 7 7 = some (.inl (σ 9 2)) := (e253 7 7 (by first | decide | omega)).trans k150
    have k166 : ai_hv t253 7 1 = some (gx_r 191) := (e253 7 1 (by first | decide | omega)).trans k151
    show en_ex _ _ _ _ (206, [(5, .inl v237), (4, .inl v207), (3, .inl v115), (2, .inl v2), (1, .inl v1), (0, gx_r 7)], [], t253, n, 0) _
    refine ex_ret (r := (none, t253, n, 0)) rfl (fun _ => rfl) ?_
    have hT167 := cT_keep (t' := t253) hT (fun c i h => (e253 c i (by first | decide | omega)).trans ((e237 c i (by first | decide | omega)).trans ((e222 c i (by first | decide | omega)).trans ((e207 c i (by first | decide | omega)).trans ((e130 c i (by first | decide | omega)).trans ((e115 c i (by first | decide | omega)).trans (e101 c i (by first | decide | omega))))))))
    refine ⟨_, rfl, t253, a253, f253, rfl, s253, hT167, k166, (fun c i h => (e253 c i (by first | decide | omega)).trans ((e237 c i (by first | decide | omega)).trans ((e222 c i (by first | decide | omega)).trans ((e207 c i (by first | decide | omega)).trans ((e130 c i (by first | decide | omega)).trans ((e115 c i (by first | decide | omega)).trans (e101 c i (by first | decide | omega)))))))), y253, by omega, fun h0 => ⟨by omega, ?_⟩⟩
    obtain ⟨u1, u2, u3, u4, u5, u6⟩ := u253 h0
    have hxy : v1 + (8 * v2) = 8 * sp_nv S m (a + 2) + sp_nv S m (a + 1) := by omega
    rw [hxy] at u3
    have hq168 : v115 = sp_nv S m (a + 4) := by rw [← show a101 = a + 4 by omega]; omega
    rw [hq168] at u4
    have hq169 : v207 = sp_nv S m (a + 6) := by rw [← show a130 = a + 6 by omega]; omega
    rw [hq169] at u5
    have hq170 : v237 = sp_nv S m (a + 8) := by rw [← show a222 = a + 8 by omega]; omega
    rw [hq170] at u6
    have xc171 : ∀ i, i < σ 2 0 → ai_hv t253 197 i = some (.inl (sp_nv S m (σ 16 i + 3) + 8 * sp_nv S m (σ 16 i + 4))) := fun i hi => ((e253 197 i (by first | decide | omega)).trans ((e237 197 i (by first | decide | omega)).trans ((e222 197 i (by first | decide | omega)).trans ((e207 197 i (by first | decide | omega)).trans ((e130 197 i (by first | decide | omega)).trans ((e115 197 i (by first | decide | omega)).trans (e101 197 i (by first | decide | omega)))))))).trans (gcb0 i hi)
    have xc172 : ∀ i, i < σ 4 0 → ai_hv t253 207 i = some (.inr (.inl (sp_wv S m (σ 21 i + 1)))) := fun i hi => ((e253 207 i (by first | decide | omega)).trans ((e237 207 i (by first | decide | omega)).trans ((e222 207 i (by first | decide | omega)).trans ((e207 207 i (by first | decide | omega)).trans ((e130 207 i (by first | decide | omega)).trans ((e115 207 i (by first | decide | omega)).trans (e101 207 i (by first | decide | omega)))))))).trans (gcb1 i hi)
    have xc173 : ∀ i, i < σ 3 0 → ai_hv t253 203 i = some (.inl (sp_nv S m (σ 20 i + 4))) := fun i hi => ((e253 203 i (by first | decide | omega)).trans ((e237 203 i (by first | decide | omega)).trans ((e222 203 i (by first | decide | omega)).trans ((e207 203 i (by first | decide | omega)).trans ((e130 203 i (by first | decide | omega)).trans ((e115 203 i (by first | decide | omega)).trans (e101 203 i (by first | decide | omega)))))))).trans (gcb2 i hi)
    have xc174 : ∀ i, i < σ 3 0 → ai_hv t253 204 i = some (.inl (sp_nv S m (σ 20 i + 6))) := fun i hi => ((e253 204 i (by first | decide | omega)).trans ((e237 204 i (by first | decide | omega)).trans ((e222 204 i (by first | decide | omega)).trans ((e207 204 i (by first | decide | omega)).trans ((e130 204 i (by first | decide | omega)).trans ((e115 204 i (by first | decide | omega)).trans (e101 204 i (by first | decide | omega)))))))).trans (gcb3 i hi)
    have xc175 : ∀ i, i < σ 3 0 → ai_hv t253 205 i = some (.inl (sp_nv S m (σ 20 i + 8))) := fun i hi => ((e253 205 i (by first | decide | omega)).trans ((e237 205 i (by first | decide | omega)).trans ((e222 205 i (by first | decide | omega)).trans ((e207 205 i (by first | decide | omega)).trans ((e130 205 i (by first | decide | omega)).trans ((e115 205 i (by first | decide | omega)).trans (e101 205 i (by first | decide | omega)))))))).trans (gcb4 i hi)
    have xc176 : ∀ i, i < σ 4 0 → ai_hv t253 209 i = some (.inl (sp_nv S m (σ 21 i + 3))) := fun i hi => ((e253 209 i (by first | decide | omega)).trans ((e237 209 i (by first | decide | omega)).trans ((e222 209 i (by first | decide | omega)).trans ((e207 209 i (by first | decide | omega)).trans ((e130 209 i (by first | decide | omega)).trans ((e115 209 i (by first | decide | omega)).trans (e101 209 i (by first | decide | omega)))))))).trans (gcb5 i hi)
    have xc177 : ∀ i, i < σ 4 0 → ai_hv t253 210 i = some (.inl (sp_nv S m (σ 21 i + 5))) := fun i hi => ((e253 210 i (by first | decide | omega)).trans ((e237 210 i (by first | decide | omega)).trans ((e222 210 i (by first | decide | omega)).trans ((e207 210 i (by first | decide | omega)).trans ((e130 210 i (by first | decide | omega)).trans ((e115 210 i (by first | decide | omega)).trans (e101 210 i (by first | decide | omega)))))))).trans (gcb6 i hi)
    have xc178 : ∀ i, i < σ 5 0 → ai_hv t253 214 i = some (.inl (sp_nv S m (σ 17 i + 2))) := fun i hi => ((e253 214 i (by first | decide | omega)).trans ((e237 214 i (by first | decide | omega)).trans ((e222 214 i (by first | decide | omega)).trans ((e207 214 i (by first | decide | omega)).trans ((e130 214 i (by first | decide | omega)).trans ((e115 214 i (by first | decide | omega)).trans (e101 214 i (by first | decide | omega)))))))).trans (gcb7 i hi)
    have xc179 : ∀ i, i < σ 5 0 → ai_hv t253 215 i = some (.inl (sp_nv S m (σ 17 i + 4))) := fun i hi => ((e253 215 i (by first | decide | omega)).trans ((e237 215 i (by first | decide | omega)).trans ((e222 215 i (by first | decide | omega)).trans ((e207 215 i (by first | decide | omega)).trans ((e130 215 i (by first | decide | omega)).trans ((e115 215 i (by first | decide | omega)).trans (e101 215 i (by first | decide | omega)))))))).trans (gcb8 i hi)
    have xc180 : ∀ i, i < σ 6 0 → ai_hv t253 220 i = some (.inl (sp_nv S m (σ 18 i + 2))) := fun i hi => ((e253 220 i (by first | decide | omega)).trans ((e237 220 i (by first | decide | omega)).trans ((e222 220 i (by first | decide | omega)).trans ((e207 220 i (by first | decide | omega)).trans ((e130 220 i (by first | decide | omega)).trans ((e115 220 i (by first | decide | omega)).trans (e101 220 i (by first | decide | omega)))))))).trans (gcb9 i hi)
    have xc181 : ∀ i, i < σ 7 0 → ai_hv t253 226 i = some (.inl (sp_nv S m (σ 19 i + 2))) := fun i hi => ((e253 226 i (by first | decide | omega)).trans ((e237 226 i (by first | decide | omega)).trans ((e222 226 i (by first | decide | omega)).trans ((e207 226 i (by first | decide | omega)).trans ((e130 226 i (by first | decide | omega)).trans ((e115 226 i (by first | decide | omega)).trans (e101 226 i (by first | decide | omega)))))))).trans (gcb10 i hi)
    have xc182 : ∀ i, i < σ 7 0 → ai_hv t253 227 i = some (.inl (sp_nv S m (σ 19 i + 4))) := fun i hi => ((e253 227 i (by first | decide | omega)).trans ((e237 227 i (by first | decide | omega)).trans ((e222 227 i (by first | decide | omega)).trans ((e207 227 i (by first | decide | omega)).trans ((e130 227 i (by first | decide | omega)).trans ((e115 227 i (by first | decide | omega)).trans (e101 227 i (by first | decide | omega)))))))).trans (gcb11 i hi)
    have xc183 : ∀ j, j < 64 → ai_hv t253 192 j = some (.inl (σ 23 j)) := fun j hj => ((e253 192 j (by first | decide | omega)).trans ((e237 192 j (by first | decide | omega)).trans ((e222 192 j (by first | decide | omega)).trans ((e207 192 j (by first | decide | omega)).trans ((e130 192 j (by first | decide | omega)).trans ((e115 192 j (by first | decide | omega)).trans (e101 192 j (by first | decide | omega)))))))).trans (gcb13 j hj)
    exact ⟨⟨k155, k156, k157, u1, k158, k159, k160, k161, k162, k163, k164, k165⟩, (fun i hi => ⟨((fun i hi => ((e253 195 i (by first | decide | omega)).trans ((e237 195 i (by first | decide | omega)).trans ((e222 195 i (by first | decide | omega)).trans ((e207 195 i (by first | decide | omega)).trans ((e130 195 i (by first | decide | omega)).trans ((e115 195 i (by first | decide | omega)).trans (e101 195 i (by first | decide | omega)))))))).trans (hAt i hi).1)) i hi, ((fun i hi => ((e253 196 i (by first | decide | omega)).trans ((e237 196 i (by first | decide | omega)).trans ((e222 196 i (by first | decide | omega)).trans ((e207 196 i (by first | decide | omega)).trans ((e130 196 i (by first | decide | omega)).trans ((e115 196 i (by first | decide | omega)).trans (e101 196 i (by first | decide | omega)))))))).trans (hAt i hi).2)) i hi⟩), (ci_up (g := σ 11) (fun i hi => ((e253 202 i (by first | decide | omega)).trans ((e237 202 i (by first | decide | omega)).trans ((e222 202 i (by first | decide | omega)).trans ((e207 202 i (by first | decide | omega)).trans ((e130 202 i (by first | decide | omega)).trans ((e115 202 i (by first | decide | omega)).trans (e101 202 i (by first | decide | omega)))))))).trans (hAl i hi)) u3), (fun i hi => ((e253 208 i (by first | decide | omega)).trans ((e237 208 i (by first | decide | omega)).trans ((e222 208 i (by first | decide | omega)).trans ((e207 208 i (by first | decide | omega)).trans ((e130 208 i (by first | decide | omega)).trans ((e115 208 i (by first | decide | omega)).trans (e101 208 i (by first | decide | omega)))))))).trans (hAc i hi)), (fun i hi => ((e253 213 i (by first | decide | omega)).trans ((e237 213 i (by first | decide | omega)).trans ((e222 213 i (by first | decide | omega)).trans ((e207 213 i (by first | decide | omega)).trans ((e130 213 i (by first | decide | omega)).trans ((e115 213 i (by first | decide | omega)).trans (e101 213 i (by first | decide | omega)))))))).trans (hAg i hi)), (fun i hi => ((e253 219 i (by first | decide | omega)).trans ((e237 219 i (by first | decide | omega)).trans ((e222 219 i (by first | decide | omega)).trans ((e207 219 i (by first | decide | omega)).trans ((e130 219 i (by first | decide | omega)).trans ((e115 219 i (by first | decide | omega)).trans (e101 219 i (by first | decide | omega)))))))).trans (hAs i hi)), (fun i hi => ((e253 225 i (by first | decide | omega)).trans ((e237 225 i (by first | decide | omega)).trans ((e222 225 i (by first | decide | omega)).trans ((e207 225 i (by first | decide | omega)).trans ((e130 225 i (by first | decide | omega)).trans ((e115 225 i (by first | decide | omega)).trans (e101 225 i (by first | decide | omega)))))))).trans (hAo i hi)), xc171, xc172, ct_up (g := σ 20) xc173 u4, ct_up (g := σ 20) xc174 u5, ct_up (g := σ 20) xc175 u6, xc176, xc177, xc178, xc179, xc180, xc181, xc182, ((e253 191 2 (by first | decide | omega)).trans ((e237 191 2 (by first | decide | omega)).trans ((e222 191 2 (by first | decide | omega)).trans ((e207 191 2 (by first | decide | omega)).trans ((e130 191 2 (by first | decide | omega)).trans ((e115 191 2 (by first | decide | omega)).trans (e101 191 2 (by first | decide | omega)))))))).trans gcb12, xc183⟩
theorem pc_leadLine191 (d n : Nat) {t0 : en_H} {a : Nat} {S : Nat → Nat} {m N : Nat} {σ : Nat → Nat → Nat} (s0 : cS t0 a 0) (hT : cT t0 S m N) (ha : a < N) (hP : ai_hv t0 7 1 = some (gx_r 191)) (hA : CA t0 191 S m σ) (h3 : W3 S m N σ) : ∃ r, en_u (d + 4) 233 [gx_r 7] t0 n = some r ∧ ∃ t' a' f', r = (none, t', n, 0) ∧ cS t' a' f' ∧ cT t' S m N ∧ ai_hv t' 7 1 = some (gx_r 191) ∧ cW 191 t0 t' ∧ (a', f') = fs S m N 59 (sl_lead S m N σ a) ∧ a' ≤ N ∧ (f' = 0 → a < a' ∧ CA t' 191 S m (sn_lead S m σ a)) := by
  have b0 := s0.2.2.2
  have hN := hT.2.2.2.2.2.2.1
  have hA0 := hA
  obtain ⟨⟨kk0, kk1, kk2, kk3, kk4, kk5, kk6, kk7, kk8, kk9, kk10, kk11⟩, hAt, hAl, hAc, hAg, hAs, hAo, gcb0, gcb1, gcb2, gcb3, gcb4, gcb5, gcb6, gcb7, gcb8, gcb9, gcb10, gcb11, gcb12, gcb13⟩ := hA0
  have kk0 : ai_hv t0 191 0 = some (.inl (σ 0 0)) := kk0
  have kk1 : ai_hv t0 191 1 = some (.inl (σ 1 0)) := kk1
  have kk2 : ai_hv t0 194 5 = some (.inl (σ 2 0)) := kk2
  have kk3 : ai_hv t0 200 5 = some (.inl (σ 3 0)) := kk3
  have kk4 : ai_hv t0 206 5 = some (.inl (σ 4 0)) := kk4
  have kk5 : ai_hv t0 212 5 = some (.inl (σ 5 0)) := kk5
  have kk6 : ai_hv t0 218 5 = some (.inl (σ 6 0)) := kk6
  have kk7 : ai_hv t0 224 5 = some (.inl (σ 7 0)) := kk7
  have hBB := h3.1.1
  refine en_u_ex (d := d + 3) rfl ?_
  show en_ex _ _ _ _ (0, [(0, gx_r 7)], [], t0, n, 0) _
  refine ex_go (S := (1, [(0, gx_r 7)], [gx_r 7], t0, n, 0)) rfl (fun _ => rfl) rfl ?_
  refine ex_go (S := (2, [(0, gx_r 7)], [gx_r 7, gx_r 7], t0, n, 0)) rfl (fun _ => rfl) rfl ?_
  refine gxo_get (a := 7) rfl s0.1 rfl rfl hP rfl ?_
  refine gxo_ref (a := 191) (c := 200) rfl s0.1 rfl rfl rfl rfl rfl ?_
  obtain ⟨_, r101, t101, a101, f101, rfl, s101, e101, y101, q101⟩ := pc_startRow200 (d + 1) n (s0) hT ha kk3 (by first | decide | omega)
  have b101 := s101.2.2.2
  refine gx_callo (a := 7) rfl rfl s0.1 rfl rfl rfl r101 rfl ?_
  have k2 : ai_hv t101 191 0 = some (.inl (σ 0 0)) := (e101 191 0 (by first | decide | omega)).trans kk0
  have k3 : ai_hv t101 191 1 = some (.inl (σ 1 0)) := (e101 191 1 (by first | decide | omega)).trans kk1
  have k4 : ai_hv t101 194 5 = some (.inl (σ 2 0)) := (e101 194 5 (by first | decide | omega)).trans kk2
  have k5 : ai_hv t101 200 5 = some (.inl (σ 3 0)) := (e101 200 5 (by first | decide | omega)).trans kk3
  have k6 : ai_hv t101 206 5 = some (.inl (σ 4 0)) := (e101 206 5 (by first | decide | omega)).trans kk4
  have k7 : ai_hv t101 212 5 = some (.inl (σ 5 0)) := (e101 212 5 (by first | decide | omega)).trans kk5
  have k8 : ai_hv t101 218 5 = some (.inl (σ 6 0)) := (e101 218 5 (by first | decide | omega)).trans kk6
  have k9 : ai_hv t101 224 5 = some (.inl (σ 7 0)) := (e101 224 5 (by first | decide | omega)).trans kk7
  have k10 : ai_hv t101 7 4 = some (.inl (σ 8 0)) := (e101 7 4 (by first | decide | omega)).trans kk8
  have k11 : ai_hv t101 7 5 = some (.inl (σ 9 0)) := (e101 7 5 (by first | decide | omega)).trans kk9
  have k12 : ai_hv t101 7 6 = some (.inl (σ 9 1)) := (e101 7 6 (by first | decide | omega)).trans kk10
  have k13 : ai_hv t101 7 7 = some (.inl (σ 9 2)) := (e101 7 7 (by first | decide | omega)).trans kk11
  have k14 : ai_hv t101 7 1 = some (gx_r 191) := (e101 7 1 (by first | decide | omega)).trans hP
  show en_ex _ _ _ _ (11, [(0, gx_r 7)], [], t101, n, 0) _
  refine ex_go (S := (12, [(0, gx_r 7)], [gx_r 7], t101, n, 0)) rfl (fun _ => rfl) rfl ?_
  refine gxo_ref (a := 7) (c := 1) rfl s101.1 rfl rfl rfl rfl rfl ?_
  refine ex_go (S := (16, [(0, gx_r 7)], [.inl 0, gx_r 1], t101, n, 0)) rfl (fun _ => rfl) rfl ?_
  refine ex_go (S := (17, [(0, gx_r 7)], [gx_r 7, .inl 0, gx_r 1], t101, n, 0)) rfl (fun _ => rfl) rfl ?_
  refine gxo_get (a := 7) rfl s101.1 rfl rfl k14 rfl ?_
  refine gxo_get (a := 191) rfl s101.1 rfl rfl k2 rfl ?_
  refine ex_go (S := (24, [(0, gx_r 7)], [.inl 1, .inl (σ 0 0), .inl 0, gx_r 1], t101, n, 0)) rfl (fun _ => rfl) rfl ?_
  refine gx_isub rfl (by first | decide | omega) (by first | decide | omega) rfl ?_
  have hT16 := cT_keep (t' := t101) hT (fun c i h => e101 c i (by first | decide | omega))
  obtain ⟨_, r115, v115, t115, a115, f115, rfl, s115, e115, z115, q115⟩ := pc_takeNumber (d + 1) n (s101) hT16 (by first | decide | omega) (lo := 0) (hi := (σ 0 0) - 1) (by first | decide | omega) (by first | decide | omega) (by first | decide | omega)
  have b115 := s115.2.2.2
  have y115 := z115.trans (congrArg (fn S m N 0 ((σ 0 0) - 1)) y101)
  refine gx_callo (a := 1) rfl rfl s101.1 rfl rfl rfl r115 rfl ?_
  have k17 : ai_hv t115 191 0 = some (.inl (σ 0 0)) := (e115 191 0 (by first | decide | omega)).trans k2
  have k18 : ai_hv t115 191 1 = some (.inl (σ 1 0)) := (e115 191 1 (by first | decide | omega)).trans k3
  have k19 : ai_hv t115 194 5 = some (.inl (σ 2 0)) := (e115 194 5 (by first | decide | omega)).trans k4
  have k20 : ai_hv t115 200 5 = some (.inl (σ 3 0)) := (e115 200 5 (by first | decide | omega)).trans k5
  have k21 : ai_hv t115 206 5 = some (.inl (σ 4 0)) := (e115 206 5 (by first | decide | omega)).trans k6
  have k22 : ai_hv t115 212 5 = some (.inl (σ 5 0)) := (e115 212 5 (by first | decide | omega)).trans k7
  have k23 : ai_hv t115 218 5 = some (.inl (σ 6 0)) := (e115 218 5 (by first | decide | omega)).trans k8
  have k24 : ai_hv t115 224 5 = some (.inl (σ 7 0)) := (e115 224 5 (by first | decide | omega)).trans k9
  have k25 : ai_hv t115 7 4 = some (.inl (σ 8 0)) := (e115 7 4 (by first | decide | omega)).trans k10
  have k26 : ai_hv t115 7 5 = some (.inl (σ 9 0)) := (e115 7 5 (by first | decide | omega)).trans k11
  have k27 : ai_hv t115 7 6 = some (.inl (σ 9 1)) := (e115 7 6 (by first | decide | omega)).trans k12
  have k28 : ai_hv t115 7 7 = some (.inl (σ 9 2)) := (e115 7 7 (by first | decide | omega)).trans k13
  have k29 : ai_hv t115 7 1 = some (gx_r 191) := (e115 7 1 (by first | decide | omega)).trans k14
  show en_ex _ _ _ _ (28, [(0, gx_r 7)], [.inl v115], t115, n, 0) _
  refine ex_go (S := (29, [(1, .inl v115), (0, gx_r 7)], [], t115, n, 0)) rfl (fun _ => rfl) rfl ?_
  refine ex_go (S := (30, [(1, .inl v115), (0, gx_r 7)], [gx_r 7], t115, n, 0)) rfl (fun _ => rfl) rfl ?_
  refine gxo_ref (a := 7) (c := 1) rfl s115.1 rfl rfl rfl rfl rfl ?_
  refine gxo_get (a := 1) rfl s115.1 rfl rfl s115.2.2.1 rfl ?_
  by_cases hc30 : f115 ≠ 0
  · refine gx_1t (c := .ne) rfl (by first | decide | omega) hc30 rfl ?_
    refine ex_go (S := (102, [(1, .inl v115), (0, gx_r 7)], [gx_r 7], t115, n, 0)) rfl (fun _ => rfl) rfl ?_
    refine gxo_ref (a := 7) (c := 1) rfl s115.1 rfl rfl rfl rfl rfl ?_
    refine ex_go (S := (106, [(1, .inl v115), (0, gx_r 7)], [.inl 0, gx_r 1], t115, n, 0)) rfl (fun _ => rfl) rfl ?_
    refine ex_go (S := (107, [(1, .inl v115), (0, gx_r 7)], [gx_r 7, .inl 0, gx_r 1], t115, n, 0)) rfl (fun _ => rfl) rfl ?_
    refine gxo_get (a := 7) rfl s115.1 rfl rfl k29 rfl ?_
    refine gxo_get (a := 191) rfl s115.1 rfl rfl k18 rfl ?_
    refine ex_go (S := (114, [(1, .inl v115), (0, gx_r 7)], [.inl 1, .inl (σ 1 0), .inl 0, gx_r 1], t115, n, 0)) rfl (fun _ => rfl) rfl ?_
    refine gx_isub rfl (by first | decide | omega) (by first | decide | omega) rfl ?_
    have hT32 := cT_keep (t' := t115) hT (fun c i h => (e115 c i (by first | decide | omega)).trans (e101 c i (by first | decide | omega)))
    obtain ⟨_, r131, v131, t131, a131, f131, rfl, s131, e131, z131, q131⟩ := pc_takeNumber (d + 1) n (s115) hT32 (by first | decide | omega) (lo := 0) (hi := (σ 1 0) - 1) (by first | decide | omega) (by first | decide | omega) (by first | decide | omega)
    have b131 := s131.2.2.2
    have y131 := z131.trans (congrArg (fn S m N 0 ((σ 1 0) - 1)) (rfl : (a115, f115) = (a115, f115)))
    refine gx_callo (a := 1) rfl rfl s115.1 rfl rfl rfl r131 rfl ?_
    have k33 : ai_hv t131 191 0 = some (.inl (σ 0 0)) := (e131 191 0 (by first | decide | omega)).trans k17
    have k34 : ai_hv t131 191 1 = some (.inl (σ 1 0)) := (e131 191 1 (by first | decide | omega)).trans k18
    have k35 : ai_hv t131 194 5 = some (.inl (σ 2 0)) := (e131 194 5 (by first | decide | omega)).trans k19
    have k36 : ai_hv t131 200 5 = some (.inl (σ 3 0)) := (e131 200 5 (by first | decide | omega)).trans k20
    have k37 : ai_hv t131 206 5 = some (.inl (σ 4 0)) := (e131 206 5 (by first | decide | omega)).trans k21
    have k38 : ai_hv t131 212 5 = some (.inl (σ 5 0)) := (e131 212 5 (by first | decide | omega)).trans k22
    have k39 : ai_hv t131 218 5 = some (.inl (σ 6 0)) := (e131 218 5 (by first | decide | omega)).trans k23
    have k40 : ai_hv t131 224 5 = some (.inl (σ 7 0)) := (e131 224 5 (by first | decide | omega)).trans k24
    have k41 : ai_hv t131 7 4 = some (.inl (σ 8 0)) := (e131 7 4 (by first | decide | omega)).trans k25
    have k42 : ai_hv t131 7 5 = some (.inl (σ 9 0)) := (e131 7 5 (by first | decide | omega)).trans k26
    have k43 : ai_hv t131 7 6 = some (.inl (σ 9 1)) := (e131 7 6 (by first | decide | omega)).trans k27
    have k44 : ai_hv t131 7 7 = some (.inl (σ 9 2)) := (e131 7 7 (by first | decide | omega)).trans k28
    have k45 : ai_hv t131 7 1 = some (gx_r 191) := (e131 7 1 (by first | decide | omega)).trans k29
    show en_ex _ _ _ _ (118, [(1, .inl v115), (0, gx_r 7)], [.inl v131], t131, n, 0) _
    have yy : (a131, f131) = fd2 S m N (σ 1 0 - 1) (sg_lead σ (8 * sp_nv S m (a + 2) + sp_nv S m (a + 1))) (a115, f115) := by
      rw [z131, fn_no (show f115 ≠ 0 by omega), fd2_no (show f115 ≠ 0 by omega)]
    have ye := yy.trans (congrArg (fd2 S m N (σ 1 0 - 1) (sg_lead σ (8 * sp_nv S m (a + 2) + sp_nv S m (a + 1)))) y115)
    have hA9 : CA t131 191 S m σ := CA_keep (by first | decide | omega) hA (fun c i h h2 => (e131 c i (by first | decide | omega)).trans ((e115 c i (by first | decide | omega)).trans (e101 c i (by first | decide | omega))))
    have hv12 : f131 = 0 → v115 = sp_nv S m (a + 1) ∧ v131 = sp_nv S m (a + 2) := fun z => by rw [show a + 2 = a115 by omega, show a + 1 = a101 by omega]; omega
    have hT46 := cT_keep (t' := t131) hT (fun c i h => (e131 c i (by first | decide | omega)).trans ((e115 c i (by first | decide | omega)).trans (e101 c i (by first | decide | omega))))
    refine ex_imp (fun o9 h9 => ?_) (pc_lead191_t d n s131 hT46 (by first | decide | omega) ha (by first | decide | omega) k45 hA9 h3 (by first | decide | omega) (by first | decide | omega) (fun z => by have := hv12 z; omega) ye)
    obtain ⟨r9, g0, t9, a9, f9, g1, g2, g3, g4, g5, g6⟩ := h9
    exact ⟨r9, g0, t9, a9, f9, g1, g2, g3, g4, fun c i h => (g5 c i h).trans ((e131 c i (by first | decide | omega)).trans ((e115 c i (by first | decide | omega)).trans (e101 c i (by first | decide | omega)))), g6⟩
  · refine gx_1f (c := .ne) rfl (by first | decide | omega) hc30 rfl ?_
    refine ex_go (S := (40, [(1, .inl v115), (0, gx_r 7)], [gx_r 7], t115, n, 0)) rfl (fun _ => rfl) rfl ?_
    refine gxo_ref (a := 7) (c := 1) rfl s115.1 rfl rfl rfl rfl rfl ?_
    have hT48 := cT_keep (t' := t115) hT (fun c i h => (e115 c i (by first | decide | omega)).trans (e101 c i (by first | decide | omega)))
    obtain ⟨_, r147, v147, rfl, q147⟩ := pc_isNumber (d + 2) n (s115) hT48 (by first | decide | omega) 
    refine gx_callo (a := 1) rfl rfl s115.1 rfl rfl rfl r147 rfl ?_
    show en_ex _ _ _ _ (46, [(1, .inl v115), (0, gx_r 7)], [.inl v147], t115, n, 0) _
    by_cases hc49 : v147 = 0
    · refine gx_1t (c := .eq) rfl (by first | decide | omega) hc49 rfl ?_
      refine ex_go (S := (102, [(1, .inl v115), (0, gx_r 7)], [gx_r 7], t115, n, 0)) rfl (fun _ => rfl) rfl ?_
      refine gxo_ref (a := 7) (c := 1) rfl s115.1 rfl rfl rfl rfl rfl ?_
      refine ex_go (S := (106, [(1, .inl v115), (0, gx_r 7)], [.inl 0, gx_r 1], t115, n, 0)) rfl (fun _ => rfl) rfl ?_
      refine ex_go (S := (107, [(1, .inl v115), (0, gx_r 7)], [gx_r 7, .inl 0, gx_r 1], t115, n, 0)) rfl (fun _ => rfl) rfl ?_
      refine gxo_get (a := 7) rfl s115.1 rfl rfl k29 rfl ?_
      refine gxo_get (a := 191) rfl s115.1 rfl rfl k18 rfl ?_
      refine ex_go (S := (114, [(1, .inl v115), (0, gx_r 7)], [.inl 1, .inl (σ 1 0), .inl 0, gx_r 1], t115, n, 0)) rfl (fun _ => rfl) rfl ?_
      refine gx_isub rfl (by first | decide | omega) (by first | decide | omega) rfl ?_
      obtain ⟨_, r150, v150, t150, a150, f150, rfl, s150, e150, z150, q150⟩ := pc_takeNumber (d + 1) n (s115) hT48 (by first | decide | omega) (lo := 0) (hi := (σ 1 0) - 1) (by first | decide | omega) (by first | decide | omega) (by first | decide | omega)
      have b150 := s150.2.2.2
      have y150 := z150.trans (congrArg (fn S m N 0 ((σ 1 0) - 1)) (rfl : (a115, f115) = (a115, f115)))
      refine gx_callo (a := 1) rfl rfl s115.1 rfl rfl rfl r150 rfl ?_
      have k51 : ai_hv t150 191 0 = some (.inl (σ 0 0)) := (e150 191 0 (by first | decide | omega)).trans k17
      have k52 : ai_hv t150 191 1 = some (.inl (σ 1 0)) := (e150 191 1 (by first | decide | omega)).trans k18
      have k53 : ai_hv t150 194 5 = some (.inl (σ 2 0)) := (e150 194 5 (by first | decide | omega)).trans k19
      have k54 : ai_hv t150 200 5 = some (.inl (σ 3 0)) := (e150 200 5 (by first | decide | omega)).trans k20
      have k55 : ai_hv t150 206 5 = some (.inl (σ 4 0)) := (e150 206 5 (by first | decide | omega)).trans k21
      have k56 : ai_hv t150 212 5 = some (.inl (σ 5 0)) := (e150 212 5 (by first | decide | omega)).trans k22
      have k57 : ai_hv t150 218 5 = some (.inl (σ 6 0)) := (e150 218 5 (by first | decide | omega)).trans k23
      have k58 : ai_hv t150 224 5 = some (.inl (σ 7 0)) := (e150 224 5 (by first | decide | omega)).trans k24
      have k59 : ai_hv t150 7 4 = some (.inl (σ 8 0)) := (e150 7 4 (by first | decide | omega)).trans k25
      have k60 : ai_hv t150 7 5 = some (.inl (σ 9 0)) := (e150 7 5 (by first | decide | omega)).trans k26
      have k61 : ai_hv t150 7 6 = some (.inl (σ 9 1)) := (e150 7 6 (by first | decide | omega)).trans k27
      have k62 : ai_hv t150 7 7 = some (.inl (σ 9 2)) := (e150 7 7 (by first | decide | omega)).trans k28
      have k63 : ai_hv t150 7 1 = some (gx_r 191) := (e150 7 1 (by first | decide | omega)).trans k29
      show en_ex _ _ _ _ (118, [(1, .inl v115), (0, gx_r 7)], [.inl v150], t150, n, 0) _
      have yy : (a150, f150) = fd2 S m N (σ 1 0 - 1) (sg_lead σ (8 * sp_nv S m (a + 2) + sp_nv S m (a + 1))) (a115, f115) := by
        have hf1 : f115 = 0 := by omega
        have hk9 : sp_kt S m N a115 ≠ 2 := fun z => absurd (q147.2.mpr z) (by first | decide | omega)
        rw [z150, hf1, fn_1 hk9, fd2_1 hk9]
      have ye := yy.trans (congrArg (fd2 S m N (σ 1 0 - 1) (sg_lead σ (8 * sp_nv S m (a + 2) + sp_nv S m (a + 1)))) y115)
      have hA9 : CA t150 191 S m σ := CA_keep (by first | decide | omega) hA (fun c i h h2 => (e150 c i (by first | decide | omega)).trans ((e115 c i (by first | decide | omega)).trans (e101 c i (by first | decide | omega))))
      have hv12 : f150 = 0 → v115 = sp_nv S m (a + 1) ∧ v150 = sp_nv S m (a + 2) := fun z => by rw [show a + 2 = a115 by omega, show a + 1 = a101 by omega]; omega
      have hT64 := cT_keep (t' := t150) hT (fun c i h => (e150 c i (by first | decide | omega)).trans ((e115 c i (by first | decide | omega)).trans (e101 c i (by first | decide | omega))))
      refine ex_imp (fun o9 h9 => ?_) (pc_lead191_t d n s150 hT64 (by first | decide | omega) ha (by first | decide | omega) k63 hA9 h3 (by first | decide | omega) (by first | decide | omega) (fun z => by have := hv12 z; omega) ye)
      obtain ⟨r9, g0, t9, a9, f9, g1, g2, g3, g4, g5, g6⟩ := h9
      exact ⟨r9, g0, t9, a9, f9, g1, g2, g3, g4, fun c i h => (g5 c i h).trans ((e150 c i (by first | decide | omega)).trans ((e115 c i (by first | decide | omega)).trans (e101 c i (by first | decide | omega)))), g6⟩
    · refine gx_1f (c := .eq) rfl (by first | decide | omega) hc49 rfl ?_
      refine ex_go (S := (50, [(1, .inl v115), (0, gx_r 7)], [gx_r 7], t115, n, 0)) rfl (fun _ => rfl) rfl ?_
      refine gxo_ref (a := 7) (c := 1) rfl s115.1 rfl rfl rfl rfl rfl ?_
      obtain ⟨_, r165, v165, rfl, q165⟩ := pc_value (d + 2) n (s115) hT48 (by first | decide | omega) 
      refine gx_callo (a := 1) rfl rfl s115.1 rfl rfl rfl r165 rfl ?_
      show en_ex _ _ _ _ (56, [(1, .inl v115), (0, gx_r 7)], [.inl v165], t115, n, 0) _
      have hkt := q147.2.mp (by first | decide | omega)
      have q165v := q165.2 hkt
      refine ex_go (S := (57, [(1, .inl v115), (0, gx_r 7)], [.inl 0, .inl v165], t115, n, 0)) rfl (fun _ => rfl) rfl ?_
      refine ex_go (S := (58, [(1, .inl v115), (0, gx_r 7)], [gx_r 7, .inl 0, .inl v165], t115, n, 0)) rfl (fun _ => rfl) rfl ?_
      refine gxo_get (a := 7) rfl s115.1 rfl rfl k29 rfl ?_
      refine gxo_get (a := 191) rfl s115.1 rfl rfl k18 rfl ?_
      refine ex_go (S := (65, [(1, .inl v115), (0, gx_r 7)], [.inl 1, .inl (σ 1 0), .inl 0, .inl v165], t115, n, 0)) rfl (fun _ => rfl) rfl ?_
      refine gx_isub rfl (by first | decide | omega) (by first | decide | omega) rfl ?_
      obtain ⟨_, r66, b67, rfl, q68⟩ := pc_isWithin (d + 2) n (t0 := t115) (x := v165) (lo := 0) (hi := (σ 1 0) - 1) (by first | decide | omega) (by first | decide | omega) (by first | decide | omega)
      refine ex_stat rfl rfl rfl rfl rfl r66 (Nat.le_refl _) rfl ?_
      show en_ex _ _ _ _ (69, [(1, .inl v115), (0, gx_r 7)], [.inl b67], t115, n, 0) _
      by_cases hc69 : b67 = 0
      · refine gx_1t (c := .eq) rfl (by first | decide | omega) hc69 rfl ?_
        refine ex_go (S := (102, [(1, .inl v115), (0, gx_r 7)], [gx_r 7], t115, n, 0)) rfl (fun _ => rfl) rfl ?_
        refine gxo_ref (a := 7) (c := 1) rfl s115.1 rfl rfl rfl rfl rfl ?_
        refine ex_go (S := (106, [(1, .inl v115), (0, gx_r 7)], [.inl 0, gx_r 1], t115, n, 0)) rfl (fun _ => rfl) rfl ?_
        refine ex_go (S := (107, [(1, .inl v115), (0, gx_r 7)], [gx_r 7, .inl 0, gx_r 1], t115, n, 0)) rfl (fun _ => rfl) rfl ?_
        refine gxo_get (a := 7) rfl s115.1 rfl rfl k29 rfl ?_
        refine gxo_get (a := 191) rfl s115.1 rfl rfl k18 rfl ?_
        refine ex_go (S := (114, [(1, .inl v115), (0, gx_r 7)], [.inl 1, .inl (σ 1 0), .inl 0, gx_r 1], t115, n, 0)) rfl (fun _ => rfl) rfl ?_
        refine gx_isub rfl (by first | decide | omega) (by first | decide | omega) rfl ?_
        obtain ⟨_, r170, v170, t170, a170, f170, rfl, s170, e170, z170, q170⟩ := pc_takeNumber (d + 1) n (s115) hT48 (by first | decide | omega) (lo := 0) (hi := (σ 1 0) - 1) (by first | decide | omega) (by first | decide | omega) (by first | decide | omega)
        have b170 := s170.2.2.2
        have y170 := z170.trans (congrArg (fn S m N 0 ((σ 1 0) - 1)) (rfl : (a115, f115) = (a115, f115)))
        refine gx_callo (a := 1) rfl rfl s115.1 rfl rfl rfl r170 rfl ?_
        have k71 : ai_hv t170 191 0 = some (.inl (σ 0 0)) := (e170 191 0 (by first | decide | omega)).trans k17
        have k72 : ai_hv t170 191 1 = some (.inl (σ 1 0)) := (e170 191 1 (by first | decide | omega)).trans k18
        have k73 : ai_hv t170 194 5 = some (.inl (σ 2 0)) := (e170 194 5 (by first | decide | omega)).trans k19
        have k74 : ai_hv t170 200 5 = some (.inl (σ 3 0)) := (e170 200 5 (by first | decide | omega)).trans k20
        have k75 : ai_hv t170 206 5 = some (.inl (σ 4 0)) := (e170 206 5 (by first | decide | omega)).trans k21
        have k76 : ai_hv t170 212 5 = some (.inl (σ 5 0)) := (e170 212 5 (by first | decide | omega)).trans k22
        have k77 : ai_hv t170 218 5 = some (.inl (σ 6 0)) := (e170 218 5 (by first | decide | omega)).trans k23
        have k78 : ai_hv t170 224 5 = some (.inl (σ 7 0)) := (e170 224 5 (by first | decide | omega)).trans k24
        have k79 : ai_hv t170 7 4 = some (.inl (σ 8 0)) := (e170 7 4 (by first | decide | omega)).trans k25
        have k80 : ai_hv t170 7 5 = some (.inl (σ 9 0)) := (e170 7 5 (by first | decide | omega)).trans k26
        have k81 : ai_hv t170 7 6 = some (.inl (σ 9 1)) := (e170 7 6 (by first | decide | omega)).trans k27
        have k82 : ai_hv t170 7 7 = some (.inl (σ 9 2)) := (e170 7 7 (by first | decide | omega)).trans k28
        have k83 : ai_hv t170 7 1 = some (gx_r 191) := (e170 7 1 (by first | decide | omega)).trans k29
        show en_ex _ _ _ _ (118, [(1, .inl v115), (0, gx_r 7)], [.inl v170], t170, n, 0) _
        have yy : (a170, f170) = fd2 S m N (σ 1 0 - 1) (sg_lead σ (8 * sp_nv S m (a + 2) + sp_nv S m (a + 1))) (a115, f115) := by
          have hf1 : f115 = 0 := by omega
          have hw9 : ¬ (0 ≤ v165 ∧ v165 ≤ σ 1 0 - 1) := fun z => absurd ((q68.2 (by first | decide | omega)).mpr z) (by first | decide | omega)
          rw [z170, hf1, fn_4 hkt (by first | decide | omega), fd2_4 hkt (by first | decide | omega)]
        have ye := yy.trans (congrArg (fd2 S m N (σ 1 0 - 1) (sg_lead σ (8 * sp_nv S m (a + 2) + sp_nv S m (a + 1)))) y115)
        have hA9 : CA t170 191 S m σ := CA_keep (by first | decide | omega) hA (fun c i h h2 => (e170 c i (by first | decide | omega)).trans ((e115 c i (by first | decide | omega)).trans (e101 c i (by first | decide | omega))))
        have hv12 : f170 = 0 → v115 = sp_nv S m (a + 1) ∧ v170 = sp_nv S m (a + 2) := fun z => by rw [show a + 2 = a115 by omega, show a + 1 = a101 by omega]; omega
        have hT84 := cT_keep (t' := t170) hT (fun c i h => (e170 c i (by first | decide | omega)).trans ((e115 c i (by first | decide | omega)).trans (e101 c i (by first | decide | omega))))
        refine ex_imp (fun o9 h9 => ?_) (pc_lead191_t d n s170 hT84 (by first | decide | omega) ha (by first | decide | omega) k83 hA9 h3 (by first | decide | omega) (by first | decide | omega) (fun z => by have := hv12 z; omega) ye)
        obtain ⟨r9, g0, t9, a9, f9, g1, g2, g3, g4, g5, g6⟩ := h9
        exact ⟨r9, g0, t9, a9, f9, g1, g2, g3, g4, fun c i h => (g5 c i h).trans ((e170 c i (by first | decide | omega)).trans ((e115 c i (by first | decide | omega)).trans (e101 c i (by first | decide | omega)))), g6⟩
      · refine gx_1f (c := .eq) rfl (by first | decide | omega) hc69 rfl ?_
        refine ex_go (S := (73, [(1, .inl v115), (0, gx_r 7)], [gx_r 7], t115, n, 0)) rfl (fun _ => rfl) rfl ?_
        refine gxo_get (a := 7) rfl s115.1 rfl rfl k29 rfl ?_
        refine ex_go (S := (77, [(1, .inl v115), (0, gx_r 7)], [.inl v115, gx_r 191], t115, n, 0)) rfl (fun _ => rfl) rfl ?_
        refine ex_go (S := (78, [(1, .inl v115), (0, gx_r 7)], [gx_r 7, .inl v115, gx_r 191], t115, n, 0)) rfl (fun _ => rfl) rfl ?_
        refine gxo_ref (a := 7) (c := 1) rfl s115.1 rfl rfl rfl rfl rfl ?_
        obtain ⟨_, r185, v185, rfl, q185⟩ := pc_value (d + 2) n (s115) hT48 (by first | decide | omega) 
        refine gx_callo (a := 1) rfl rfl s115.1 rfl rfl rfl r185 rfl ?_
        show en_ex _ _ _ _ (84, [(1, .inl v115), (0, gx_r 7)], [.inl v185, .inl v115, gx_r 191], t115, n, 0) _
        have q185v := q185.2 hkt
        obtain ⟨_, r86, rfl⟩ := pc_placeOf (d + 2) n (t0 := t115) (x := v115) (y := v185) (by first | decide | omega) (by first | decide | omega)
        refine ex_stat rfl rfl rfl rfl rfl r86 (Nat.le_refl _) rfl ?_
        show en_ex _ _ _ _ (87, [(1, .inl v115), (0, gx_r 7)], [.inl (v115 + (8 * v185)), gx_r 191], t115, n, 0) _
        obtain ⟨_, r87, b88, rfl, q89⟩ := pc_hasLead191 (d + 2) n (x := v115 + (8 * v185)) (w := σ 11) s115.1 k20 (by first | decide | omega) (fun i hi => ⟨((e115 202 i (by first | decide | omega)).trans (e101 202 i (by first | decide | omega))).trans (hAl i hi), by
          obtain ⟨m9, k9, k8, k7⟩ := gx_inb (c := 202) (i := i) (lo := 0) (hi := 63) s115.1 rfl (show i < 6 from by omega) (gx_run1 (show i < 6 by omega)) (by decide) (by decide) rfl
          have h9 := Sum.inl.inj (Option.some.inj ((((e115 202 i (by first | decide | omega)).trans (e101 202 i (by first | decide | omega))).trans (hAl i hi)).symm.trans k9))
          omega⟩) (by first | decide | omega)
        rcases q89 with ⟨q89a, q89b⟩ | ⟨q89a, q89b⟩
        · subst q89a
          refine gx_callo (a := 191) rfl rfl s115.1 rfl rfl rfl r87 rfl ?_
          show en_ex _ _ _ _ (90, [(1, .inl v115), (0, gx_r 7)], [.inl 1], t115, n, 0) _
          refine ex_go (S := (93, [(1, .inl v115), (0, gx_r 7)], [], t115, n, 0)) rfl (fun _ => rfl) rfl ?_
          refine ex_go (S := (94, [(1, .inl v115), (0, gx_r 7)], [gx_r 7], t115, n, 0)) rfl (fun _ => rfl) rfl ?_
          refine gxo_ref (a := 7) (c := 1) rfl s115.1 rfl rfl rfl rfl rfl ?_
          refine ex_go (S := (98, [(1, .inl v115), (0, gx_r 7)], [.inl 3, gx_r 1], t115, n, 0)) rfl (fun _ => rfl) rfl ?_
          obtain ⟨_, r190, t190, a190, f190, rfl, s190, e190, q190⟩ := pc_wrong (d + 2) n (s115) hT48 (by first | decide | omega) (w := 3) (by first | decide | omega)
          have b190 := s190.2.2.2
          refine gx_callo (a := 1) rfl rfl s115.1 rfl rfl rfl r190 rfl ?_
          have k91 : ai_hv t190 191 0 = some (.inl (σ 0 0)) := (e190 191 0 (by first | decide | omega)).trans k17
          have k92 : ai_hv t190 191 1 = some (.inl (σ 1 0)) := (e190 191 1 (by first | decide | omega)).trans k18
          have k93 : ai_hv t190 194 5 = some (.inl (σ 2 0)) := (e190 194 5 (by first | decide | omega)).trans k19
          have k94 : ai_hv t190 200 5 = some (.inl (σ 3 0)) := (e190 200 5 (by first | decide | omega)).trans k20
          have k95 : ai_hv t190 206 5 = some (.inl (σ 4 0)) := (e190 206 5 (by first | decide | omega)).trans k21
          have k96 : ai_hv t190 212 5 = some (.inl (σ 5 0)) := (e190 212 5 (by first | decide | omega)).trans k22
          have k97 : ai_hv t190 218 5 = some (.inl (σ 6 0)) := (e190 218 5 (by first | decide | omega)).trans k23
          have k98 : ai_hv t190 224 5 = some (.inl (σ 7 0)) := (e190 224 5 (by first | decide | omega)).trans k24
          have k99 : ai_hv t190 7 4 = some (.inl (σ 8 0)) := (e190 7 4 (by first | decide | omega)).trans k25
          have k100 : ai_hv t190 7 5 = some (.inl (σ 9 0)) := (e190 7 5 (by first | decide | omega)).trans k26
          have k101 : ai_hv t190 7 6 = some (.inl (σ 9 1)) := (e190 7 6 (by first | decide | omega)).trans k27
          have k102 : ai_hv t190 7 7 = some (.inl (σ 9 2)) := (e190 7 7 (by first | decide | omega)).trans k28
          have k103 : ai_hv t190 7 1 = some (gx_r 191) := (e190 7 1 (by first | decide | omega)).trans k29
          show en_ex _ _ _ _ (101, [(1, .inl v115), (0, gx_r 7)], [], t190, n, 0) _
          refine ex_go (S := (102, [(1, .inl v115), (0, gx_r 7)], [gx_r 7], t190, n, 0)) rfl (fun _ => rfl) rfl ?_
          refine gxo_ref (a := 7) (c := 1) rfl s190.1 rfl rfl rfl rfl rfl ?_
          refine ex_go (S := (106, [(1, .inl v115), (0, gx_r 7)], [.inl 0, gx_r 1], t190, n, 0)) rfl (fun _ => rfl) rfl ?_
          refine ex_go (S := (107, [(1, .inl v115), (0, gx_r 7)], [gx_r 7, .inl 0, gx_r 1], t190, n, 0)) rfl (fun _ => rfl) rfl ?_
          refine gxo_get (a := 7) rfl s190.1 rfl rfl k103 rfl ?_
          refine gxo_get (a := 191) rfl s190.1 rfl rfl k92 rfl ?_
          refine ex_go (S := (114, [(1, .inl v115), (0, gx_r 7)], [.inl 1, .inl (σ 1 0), .inl 0, gx_r 1], t190, n, 0)) rfl (fun _ => rfl) rfl ?_
          refine gx_isub rfl (by first | decide | omega) (by first | decide | omega) rfl ?_
          have hT105 := cT_keep (t' := t190) hT (fun c i h => (e190 c i (by first | decide | omega)).trans ((e115 c i (by first | decide | omega)).trans (e101 c i (by first | decide | omega))))
          obtain ⟨_, r204, v204, t204, a204, f204, rfl, s204, e204, z204, q204⟩ := pc_takeNumber (d + 1) n (s190) hT105 (by first | decide | omega) (lo := 0) (hi := (σ 1 0) - 1) (by first | decide | omega) (by first | decide | omega) (by first | decide | omega)
          have b204 := s204.2.2.2
          have y204 := z204.trans (congrArg (fn S m N 0 ((σ 1 0) - 1)) (rfl : (a190, f190) = (a190, f190)))
          refine gx_callo (a := 1) rfl rfl s190.1 rfl rfl rfl r204 rfl ?_
          have k106 : ai_hv t204 191 0 = some (.inl (σ 0 0)) := (e204 191 0 (by first | decide | omega)).trans k91
          have k107 : ai_hv t204 191 1 = some (.inl (σ 1 0)) := (e204 191 1 (by first | decide | omega)).trans k92
          have k108 : ai_hv t204 194 5 = some (.inl (σ 2 0)) := (e204 194 5 (by first | decide | omega)).trans k93
          have k109 : ai_hv t204 200 5 = some (.inl (σ 3 0)) := (e204 200 5 (by first | decide | omega)).trans k94
          have k110 : ai_hv t204 206 5 = some (.inl (σ 4 0)) := (e204 206 5 (by first | decide | omega)).trans k95
          have k111 : ai_hv t204 212 5 = some (.inl (σ 5 0)) := (e204 212 5 (by first | decide | omega)).trans k96
          have k112 : ai_hv t204 218 5 = some (.inl (σ 6 0)) := (e204 218 5 (by first | decide | omega)).trans k97
          have k113 : ai_hv t204 224 5 = some (.inl (σ 7 0)) := (e204 224 5 (by first | decide | omega)).trans k98
          have k114 : ai_hv t204 7 4 = some (.inl (σ 8 0)) := (e204 7 4 (by first | decide | omega)).trans k99
          have k115 : ai_hv t204 7 5 = some (.inl (σ 9 0)) := (e204 7 5 (by first | decide | omega)).trans k100
          have k116 : ai_hv t204 7 6 = some (.inl (σ 9 1)) := (e204 7 6 (by first | decide | omega)).trans k101
          have k117 : ai_hv t204 7 7 = some (.inl (σ 9 2)) := (e204 7 7 (by first | decide | omega)).trans k102
          have k118 : ai_hv t204 7 1 = some (gx_r 191) := (e204 7 1 (by first | decide | omega)).trans k103
          show en_ex _ _ _ _ (118, [(1, .inl v115), (0, gx_r 7)], [.inl v204], t204, n, 0) _
          have yy : (a204, f204) = fd2 S m N (σ 1 0 - 1) (sg_lead σ (8 * sp_nv S m (a + 2) + sp_nv S m (a + 1))) (a115, f115) := by
            have hf1 : f115 = 0 := by omega
            have hw9 := (q68.2 (by first | decide | omega)).mp (by first | decide | omega)
            have hd9 : v115 + 8 * v185 = 8 * sp_nv S m (a + 2) + sp_nv S m (a + 1) := by rw [show a + 2 = a115 by omega, show a + 1 = a101 by omega]; omega
            have hl9 : (sg_lead σ (8 * sp_nv S m (a + 2) + sp_nv S m (a + 1))) := by
              obtain ⟨i, z1, z2⟩ := q89b
              exact ⟨i, z1, by omega⟩
            rw [z204, hf1, fn_no (show f190 ≠ 0 by omega), fd2_3 hkt (by first | decide | omega) hl9]; exact Prod.ext (by show a190 = a115; omega) (by show f190 = 3 + 16 * sp_st S m a115; omega)
          have ye := yy.trans (congrArg (fd2 S m N (σ 1 0 - 1) (sg_lead σ (8 * sp_nv S m (a + 2) + sp_nv S m (a + 1)))) y115)
          have hA9 : CA t204 191 S m σ := CA_keep (by first | decide | omega) hA (fun c i h h2 => (e204 c i (by first | decide | omega)).trans ((e190 c i (by first | decide | omega)).trans ((e115 c i (by first | decide | omega)).trans (e101 c i (by first | decide | omega)))))
          have hv12 : f204 = 0 → v115 = sp_nv S m (a + 1) ∧ v204 = sp_nv S m (a + 2) := fun z => by rw [show a + 2 = a190 by omega, show a + 1 = a101 by omega]; omega
          have hT119 := cT_keep (t' := t204) hT (fun c i h => (e204 c i (by first | decide | omega)).trans ((e190 c i (by first | decide | omega)).trans ((e115 c i (by first | decide | omega)).trans (e101 c i (by first | decide | omega)))))
          refine ex_imp (fun o9 h9 => ?_) (pc_lead191_t d n s204 hT119 (by first | decide | omega) ha (by first | decide | omega) k118 hA9 h3 (by first | decide | omega) (by first | decide | omega) (fun z => by have := hv12 z; omega) ye)
          obtain ⟨r9, g0, t9, a9, f9, g1, g2, g3, g4, g5, g6⟩ := h9
          exact ⟨r9, g0, t9, a9, f9, g1, g2, g3, g4, fun c i h => (g5 c i h).trans ((e204 c i (by first | decide | omega)).trans ((e190 c i (by first | decide | omega)).trans ((e115 c i (by first | decide | omega)).trans (e101 c i (by first | decide | omega))))), g6⟩
        · subst q89a
          refine gx_callo (a := 191) rfl rfl s115.1 rfl rfl rfl r87 rfl ?_
          show en_ex _ _ _ _ (90, [(1, .inl v115), (0, gx_r 7)], [.inl 0], t115, n, 0) _
          refine ex_go (S := (101, [(1, .inl v115), (0, gx_r 7)], [], t115, n, 0)) rfl (fun _ => rfl) rfl ?_
          refine ex_go (S := (102, [(1, .inl v115), (0, gx_r 7)], [gx_r 7], t115, n, 0)) rfl (fun _ => rfl) rfl ?_
          refine gxo_ref (a := 7) (c := 1) rfl s115.1 rfl rfl rfl rfl rfl ?_
          refine ex_go (S := (106, [(1, .inl v115), (0, gx_r 7)], [.inl 0, gx_r 1], t115, n, 0)) rfl (fun _ => rfl) rfl ?_
          refine ex_go (S := (107, [(1, .inl v115), (0, gx_r 7)], [gx_r 7, .inl 0, gx_r 1], t115, n, 0)) rfl (fun _ => rfl) rfl ?_
          refine gxo_get (a := 7) rfl s115.1 rfl rfl k29 rfl ?_
          refine gxo_get (a := 191) rfl s115.1 rfl rfl k18 rfl ?_
          refine ex_go (S := (114, [(1, .inl v115), (0, gx_r 7)], [.inl 1, .inl (σ 1 0), .inl 0, gx_r 1], t115, n, 0)) rfl (fun _ => rfl) rfl ?_
          refine gx_isub rfl (by first | decide | omega) (by first | decide | omega) rfl ?_
          obtain ⟨_, r220, v220, t220, a220, f220, rfl, s220, e220, z220, q220⟩ := pc_takeNumber (d + 1) n (s115) hT48 (by first | decide | omega) (lo := 0) (hi := (σ 1 0) - 1) (by first | decide | omega) (by first | decide | omega) (by first | decide | omega)
          have b220 := s220.2.2.2
          have y220 := z220.trans (congrArg (fn S m N 0 ((σ 1 0) - 1)) (rfl : (a115, f115) = (a115, f115)))
          refine gx_callo (a := 1) rfl rfl s115.1 rfl rfl rfl r220 rfl ?_
          have k121 : ai_hv t220 191 0 = some (.inl (σ 0 0)) := (e220 191 0 (by first | decide | omega)).trans k17
          have k122 : ai_hv t220 191 1 = some (.inl (σ 1 0)) := (e220 191 1 (by first | decide | omega)).trans k18
          have k123 : ai_hv t220 194 5 = some (.inl (σ 2 0)) := (e220 194 5 (by first | decide | omega)).trans k19
          have k124 : ai_hv t220 200 5 = some (.inl (σ 3 0)) := (e220 200 5 (by first | decide | omega)).trans k20
          have k125 : ai_hv t220 206 5 = some (.inl (σ 4 0)) := (e220 206 5 (by first | decide | omega)).trans k21
          have k126 : ai_hv t220 212 5 = some (.inl (σ 5 0)) := (e220 212 5 (by first | decide | omega)).trans k22
          have k127 : ai_hv t220 218 5 = some (.inl (σ 6 0)) := (e220 218 5 (by first | decide | omega)).trans k23
          have k128 : ai_hv t220 224 5 = some (.inl (σ 7 0)) := (e220 224 5 (by first | decide | omega)).trans k24
          have k129 : ai_hv t220 7 4 = some (.inl (σ 8 0)) := (e220 7 4 (by first | decide | omega)).trans k25
          have k130 : ai_hv t220 7 5 = some (.inl (σ 9 0)) := (e220 7 5 (by first | decide | omega)).trans k26
          have k131 : ai_hv t220 7 6 = some (.inl (σ 9 1)) := (e220 7 6 (by first | decide | omega)).trans k27
          have k132 : ai_hv t220 7 7 = some (.inl (σ 9 2)) := (e220 7 7 (by first | decide | omega)).trans k28
          have k133 : ai_hv t220 7 1 = some (gx_r 191) := (e220 7 1 (by first | decide | omega)).trans k29
          show en_ex _ _ _ _ (118, [(1, .inl v115), (0, gx_r 7)], [.inl v220], t220, n, 0) _
          have yy : (a220, f220) = fd2 S m N (σ 1 0 - 1) (sg_lead σ (8 * sp_nv S m (a + 2) + sp_nv S m (a + 1))) (a115, f115) := by
            have hf1 : f115 = 0 := by omega
            have hw9 := (q68.2 (by first | decide | omega)).mp (by first | decide | omega)
            have hd9 : v115 + 8 * v185 = 8 * sp_nv S m (a + 2) + sp_nv S m (a + 1) := by rw [show a + 2 = a115 by omega, show a + 1 = a101 by omega]; omega
            have hl9 : ¬ (sg_lead σ (8 * sp_nv S m (a + 2) + sp_nv S m (a + 1))) := fun ⟨i, z1, z2⟩ => q89b i z1 (by first | decide | omega)
            rw [z220, hf1, fn_yes hkt (by first | decide | omega) (by first | decide | omega), fd2_yes hkt (by first | decide | omega) hl9]
          have ye := yy.trans (congrArg (fd2 S m N (σ 1 0 - 1) (sg_lead σ (8 * sp_nv S m (a + 2) + sp_nv S m (a + 1)))) y115)
          have hA9 : CA t220 191 S m σ := CA_keep (by first | decide | omega) hA (fun c i h h2 => (e220 c i (by first | decide | omega)).trans ((e115 c i (by first | decide | omega)).trans (e101 c i (by first | decide | omega))))
          have hv12 : f220 = 0 → v115 = sp_nv S m (a + 1) ∧ v220 = sp_nv S m (a + 2) := fun z => by rw [show a + 2 = a115 by omega, show a + 1 = a101 by omega]; omega
          have hT134 := cT_keep (t' := t220) hT (fun c i h => (e220 c i (by first | decide | omega)).trans ((e115 c i (by first | decide | omega)).trans (e101 c i (by first | decide | omega))))
          refine ex_imp (fun o9 h9 => ?_) (pc_lead191_t d n s220 hT134 (by first | decide | omega) ha (by first | decide | omega) k133 hA9 h3 (by first | decide | omega) (by first | decide | omega) (fun z => by have := hv12 z; omega) ye)
          obtain ⟨r9, g0, t9, a9, f9, g1, g2, g3, g4, g5, g6⟩ := h9
          exact ⟨r9, g0, t9, a9, f9, g1, g2, g3, g4, fun c i h => (g5 c i h).trans ((e220 c i (by first | decide | omega)).trans ((e115 c i (by first | decide | omega)).trans (e101 c i (by first | decide | omega)))), g6⟩
theorem pc_crewLine191 (d n : Nat) {t0 : en_H} {a : Nat} {S : Nat → Nat} {m N : Nat} {σ : Nat → Nat → Nat} (s0 : cS t0 a 0) (hT : cT t0 S m N) (ha : a < N) (hP : ai_hv t0 7 1 = some (gx_r 191)) (hA : CA t0 191 S m σ) (h3 : W3 S m N σ) : ∃ r, en_u (d + 4) 234 [gx_r 7] t0 n = some r ∧ ∃ t' a' f', r = (none, t', n, 0) ∧ cS t' a' f' ∧ cT t' S m N ∧ ai_hv t' 7 1 = some (gx_r 191) ∧ cW 191 t0 t' ∧ (a', f') = fs S m N 59 (sl_crew S m N σ a) ∧ a' ≤ N ∧ (f' = 0 → a < a' ∧ CA t' 191 S m (sn_crew S m σ a)) := by
  have b0 := s0.2.2.2
  have hN := hT.2.2.2.2.2.2.1
  have hA0 := hA
  obtain ⟨⟨kk0, kk1, kk2, kk3, kk4, kk5, kk6, kk7, kk8, kk9, kk10, kk11⟩, hAt, hAl, hAc, hAg, hAs, hAo, gcb0, gcb1, gcb2, gcb3, gcb4, gcb5, gcb6, gcb7, gcb8, gcb9, gcb10, gcb11, gcb12, gcb13⟩ := hA0
  have kk0 : ai_hv t0 191 0 = some (.inl (σ 0 0)) := kk0
  have kk1 : ai_hv t0 191 1 = some (.inl (σ 1 0)) := kk1
  have kk2 : ai_hv t0 194 5 = some (.inl (σ 2 0)) := kk2
  have kk3 : ai_hv t0 200 5 = some (.inl (σ 3 0)) := kk3
  have kk4 : ai_hv t0 206 5 = some (.inl (σ 4 0)) := kk4
  have kk5 : ai_hv t0 212 5 = some (.inl (σ 5 0)) := kk5
  have kk6 : ai_hv t0 218 5 = some (.inl (σ 6 0)) := kk6
  have kk7 : ai_hv t0 224 5 = some (.inl (σ 7 0)) := kk7
  have hBB := h3.1.1
  refine en_u_ex (d := d + 3) rfl ?_
  show en_ex _ _ _ _ (0, [(0, gx_r 7)], [], t0, n, 0) _
  refine ex_go (S := (1, [(0, gx_r 7)], [gx_r 7], t0, n, 0)) rfl (fun _ => rfl) rfl ?_
  refine ex_go (S := (2, [(0, gx_r 7)], [gx_r 7, gx_r 7], t0, n, 0)) rfl (fun _ => rfl) rfl ?_
  refine gxo_get (a := 7) rfl s0.1 rfl rfl hP rfl ?_
  refine gxo_ref (a := 191) (c := 206) rfl s0.1 rfl rfl rfl rfl rfl ?_
  obtain ⟨_, r101, t101, a101, f101, rfl, s101, e101, y101, q101⟩ := pc_startRow206 (d + 1) n (s0) hT ha kk4 (by first | decide | omega)
  have b101 := s101.2.2.2
  refine gx_callo (a := 7) rfl rfl s0.1 rfl rfl rfl r101 rfl ?_
  have k2 : ai_hv t101 191 0 = some (.inl (σ 0 0)) := (e101 191 0 (by first | decide | omega)).trans kk0
  have k3 : ai_hv t101 191 1 = some (.inl (σ 1 0)) := (e101 191 1 (by first | decide | omega)).trans kk1
  have k4 : ai_hv t101 194 5 = some (.inl (σ 2 0)) := (e101 194 5 (by first | decide | omega)).trans kk2
  have k5 : ai_hv t101 200 5 = some (.inl (σ 3 0)) := (e101 200 5 (by first | decide | omega)).trans kk3
  have k6 : ai_hv t101 206 5 = some (.inl (σ 4 0)) := (e101 206 5 (by first | decide | omega)).trans kk4
  have k7 : ai_hv t101 212 5 = some (.inl (σ 5 0)) := (e101 212 5 (by first | decide | omega)).trans kk5
  have k8 : ai_hv t101 218 5 = some (.inl (σ 6 0)) := (e101 218 5 (by first | decide | omega)).trans kk6
  have k9 : ai_hv t101 224 5 = some (.inl (σ 7 0)) := (e101 224 5 (by first | decide | omega)).trans kk7
  have k10 : ai_hv t101 7 4 = some (.inl (σ 8 0)) := (e101 7 4 (by first | decide | omega)).trans kk8
  have k11 : ai_hv t101 7 5 = some (.inl (σ 9 0)) := (e101 7 5 (by first | decide | omega)).trans kk9
  have k12 : ai_hv t101 7 6 = some (.inl (σ 9 1)) := (e101 7 6 (by first | decide | omega)).trans kk10
  have k13 : ai_hv t101 7 7 = some (.inl (σ 9 2)) := (e101 7 7 (by first | decide | omega)).trans kk11
  have k14 : ai_hv t101 7 1 = some (gx_r 191) := (e101 7 1 (by first | decide | omega)).trans hP
  show en_ex _ _ _ _ (11, [(0, gx_r 7)], [], t101, n, 0) _
  refine ex_go (S := (12, [(0, gx_r 7)], [gx_r 7], t101, n, 0)) rfl (fun _ => rfl) rfl ?_
  refine gxo_ref (a := 7) (c := 1) rfl s101.1 rfl rfl rfl rfl rfl ?_
  have hT16 := cT_keep (t' := t101) hT (fun c i h => e101 c i (by first | decide | omega))
  obtain ⟨_, r115, v115, t115, a115, f115, rfl, s115, e115, q115⟩ := pc_seeName (d + 1) n (s101) hT16 (by first | decide | omega) 
  have b115 := s115.2.2.2
  refine gx_callo (a := 1) rfl rfl s101.1 rfl rfl rfl r115 rfl ?_
  have k17 : ai_hv t115 191 0 = some (.inl (σ 0 0)) := (e115 191 0 (by first | decide | omega)).trans k2
  have k18 : ai_hv t115 191 1 = some (.inl (σ 1 0)) := (e115 191 1 (by first | decide | omega)).trans k3
  have k19 : ai_hv t115 194 5 = some (.inl (σ 2 0)) := (e115 194 5 (by first | decide | omega)).trans k4
  have k20 : ai_hv t115 200 5 = some (.inl (σ 3 0)) := (e115 200 5 (by first | decide | omega)).trans k5
  have k21 : ai_hv t115 206 5 = some (.inl (σ 4 0)) := (e115 206 5 (by first | decide | omega)).trans k6
  have k22 : ai_hv t115 212 5 = some (.inl (σ 5 0)) := (e115 212 5 (by first | decide | omega)).trans k7
  have k23 : ai_hv t115 218 5 = some (.inl (σ 6 0)) := (e115 218 5 (by first | decide | omega)).trans k8
  have k24 : ai_hv t115 224 5 = some (.inl (σ 7 0)) := (e115 224 5 (by first | decide | omega)).trans k9
  have k25 : ai_hv t115 7 4 = some (.inl (σ 8 0)) := (e115 7 4 (by first | decide | omega)).trans k10
  have k26 : ai_hv t115 7 5 = some (.inl (σ 9 0)) := (e115 7 5 (by first | decide | omega)).trans k11
  have k27 : ai_hv t115 7 6 = some (.inl (σ 9 1)) := (e115 7 6 (by first | decide | omega)).trans k12
  have k28 : ai_hv t115 7 7 = some (.inl (σ 9 2)) := (e115 7 7 (by first | decide | omega)).trans k13
  have k29 : ai_hv t115 7 1 = some (gx_r 191) := (e115 7 1 (by first | decide | omega)).trans k14
  show en_ex _ _ _ _ (18, [(0, gx_r 7)], [.inr (.inl v115)], t115, n, 0) _
  refine ex_go (S := (19, [(1, .inr (.inl v115)), (0, gx_r 7)], [], t115, n, 0)) rfl (fun _ => rfl) rfl ?_
  refine ex_go (S := (20, [(1, .inr (.inl v115)), (0, gx_r 7)], [gx_r 7], t115, n, 0)) rfl (fun _ => rfl) rfl ?_
  refine gxo_get (a := 7) rfl s115.1 rfl rfl k29 rfl ?_
  refine ex_go (S := (24, [(1, .inr (.inl v115)), (0, gx_r 7)], [.inr (.inl v115), gx_r 191], t115, n, 0)) rfl (fun _ => rfl) rfl ?_
  have hA9 : CA t115 191 S m σ := CA_keep (by first | decide | omega) hA (fun c i h h2 => (e115 c i (by first | decide | omega)).trans (e101 c i (by first | decide | omega)))
  obtain ⟨_, r30, b31, rfl, q32⟩ := pc_shipNamed191 (d + 1) n (x := v115) s115.1 hA9 h3
  rcases q32 with ⟨hsa, hsb, hsc⟩ | ⟨hsa, hsc⟩
  · refine gx_callo (a := 191) rfl rfl s115.1 rfl rfl rfl r30 rfl ?_
    show en_ex _ _ _ _ (27, [(1, .inr (.inl v115)), (0, gx_r 7)], [.inl b31], t115, n, 0) _
    refine ex_go (S := (28, [(3, .inl b31), (1, .inr (.inl v115)), (0, gx_r 7)], [], t115, n, 0)) rfl (fun _ => rfl) rfl ?_
    refine ex_go (S := (29, [(3, .inl b31), (1, .inr (.inl v115)), (0, gx_r 7)], [.inl b31], t115, n, 0)) rfl (fun _ => rfl) rfl ?_
    refine ex_go (S := (30, [(3, .inl b31), (1, .inr (.inl v115)), (0, gx_r 7)], [.inl 4294967295, .inl b31], t115, n, 0)) rfl (fun _ => rfl) rfl ?_
    refine gx_2mt (c := .ne) rfl (by first | decide | omega) rfl rfl ?_
    refine ex_go (S := (45, [(3, .inl b31), (1, .inr (.inl v115)), (0, gx_r 7)], [gx_r 7], t115, n, 0)) rfl (fun _ => rfl) rfl ?_
    refine gxo_get (a := 7) rfl s115.1 rfl rfl k29 rfl ?_
    refine ex_go (S := (49, [(3, .inl b31), (1, .inr (.inl v115)), (0, gx_r 7)], [.inl b31, gx_r 191], t115, n, 0)) rfl (fun _ => rfl) rfl ?_
    obtain ⟨_, r33, b34, rfl, q35⟩ := pc_crewOf191 (d + 2) n (x := b31) (w := σ 12) s115.1 k21 (by first | decide | omega) (fun i hi => ⟨((e115 208 i (by first | decide | omega)).trans (e101 208 i (by first | decide | omega))).trans (hAc i hi), by
      obtain ⟨m9, k9, k8, k7⟩ := gx_inb (c := 208) (i := i) (lo := 0) (hi := 5) s115.1 rfl (show i < 2 from by omega) (gx_run1 (show i < 2 by omega)) (by decide) (by decide) rfl
      have h9 := Sum.inl.inj (Option.some.inj ((((e115 208 i (by first | decide | omega)).trans (e101 208 i (by first | decide | omega))).trans (hAc i hi)).symm.trans k9))
      omega⟩) (by first | decide | omega)
    rcases q35 with ⟨hca, hcb⟩ | ⟨hca, hcb⟩
    · refine gx_callo (a := 191) rfl rfl s115.1 rfl rfl rfl r33 rfl ?_
      show en_ex _ _ _ _ (52, [(3, .inl b31), (1, .inr (.inl v115)), (0, gx_r 7)], [.inl b34], t115, n, 0) _
      refine ex_go (S := (53, [(3, .inl b31), (1, .inr (.inl v115)), (0, gx_r 7)], [.inl 4294967295, .inl b34], t115, n, 0)) rfl (fun _ => rfl) rfl ?_
      refine gx_2mf (c := .eq) rfl (by first | decide | omega) rfl rfl ?_
      refine ex_go (S := (57, [(3, .inl b31), (1, .inr (.inl v115)), (0, gx_r 7)], [gx_r 7], t115, n, 0)) rfl (fun _ => rfl) rfl ?_
      refine gxo_ref (a := 7) (c := 1) rfl s115.1 rfl rfl rfl rfl rfl ?_
      refine ex_go (S := (61, [(3, .inl b31), (1, .inr (.inl v115)), (0, gx_r 7)], [.inl 3, gx_r 1], t115, n, 0)) rfl (fun _ => rfl) rfl ?_
      have hT37 := cT_keep (t' := t115) hT (fun c i h => (e115 c i (by first | decide | omega)).trans (e101 c i (by first | decide | omega)))
      obtain ⟨_, r136, t136, a136, f136, rfl, s136, e136, q136⟩ := pc_wrong (d + 2) n (s115) hT37 (by first | decide | omega) (w := 3) (by first | decide | omega)
      have b136 := s136.2.2.2
      refine gx_callo (a := 1) rfl rfl s115.1 rfl rfl rfl r136 rfl ?_
      have k38 : ai_hv t136 191 0 = some (.inl (σ 0 0)) := (e136 191 0 (by first | decide | omega)).trans k17
      have k39 : ai_hv t136 191 1 = some (.inl (σ 1 0)) := (e136 191 1 (by first | decide | omega)).trans k18
      have k40 : ai_hv t136 194 5 = some (.inl (σ 2 0)) := (e136 194 5 (by first | decide | omega)).trans k19
      have k41 : ai_hv t136 200 5 = some (.inl (σ 3 0)) := (e136 200 5 (by first | decide | omega)).trans k20
      have k42 : ai_hv t136 206 5 = some (.inl (σ 4 0)) := (e136 206 5 (by first | decide | omega)).trans k21
      have k43 : ai_hv t136 212 5 = some (.inl (σ 5 0)) := (e136 212 5 (by first | decide | omega)).trans k22
      have k44 : ai_hv t136 218 5 = some (.inl (σ 6 0)) := (e136 218 5 (by first | decide | omega)).trans k23
      have k45 : ai_hv t136 224 5 = some (.inl (σ 7 0)) := (e136 224 5 (by first | decide | omega)).trans k24
      have k46 : ai_hv t136 7 4 = some (.inl (σ 8 0)) := (e136 7 4 (by first | decide | omega)).trans k25
      have k47 : ai_hv t136 7 5 = some (.inl (σ 9 0)) := (e136 7 5 (by first | decide | omega)).trans k26
      have k48 : ai_hv t136 7 6 = some (.inl (σ 9 1)) := (e136 7 6 (by first | decide | omega)).trans k27
      have k49 : ai_hv t136 7 7 = some (.inl (σ 9 2)) := (e136 7 7 (by first | decide | omega)).trans k28
      have k50 : ai_hv t136 7 1 = some (gx_r 191) := (e136 7 1 (by first | decide | omega)).trans k29
      show en_ex _ _ _ _ (64, [(3, .inl b31), (1, .inr (.inl v115)), (0, gx_r 7)], [], t136, n, 0) _
      refine ex_go (S := (65, [(3, .inl b31), (1, .inr (.inl v115)), (0, gx_r 7)], [gx_r 7], t136, n, 0)) rfl (fun _ => rfl) rfl ?_
      refine gxo_ref (a := 7) (c := 1) rfl s136.1 rfl rfl rfl rfl rfl ?_
      have hT52 := cT_keep (t' := t136) hT (fun c i h => (e136 c i (by first | decide | omega)).trans ((e115 c i (by first | decide | omega)).trans (e101 c i (by first | decide | omega))))
      obtain ⟨_, r151, t151, a151, f151, rfl, s151, e151, q151⟩ := pc_goOn (d + 2) n (s136) hT52 (by first | decide | omega) 
      have b151 := s151.2.2.2
      refine gx_callo (a := 1) rfl rfl s136.1 rfl rfl rfl r151 rfl ?_
      have k53 : ai_hv t151 191 0 = some (.inl (σ 0 0)) := (e151 191 0 (by first | decide | omega)).trans k38
      have k54 : ai_hv t151 191 1 = some (.inl (σ 1 0)) := (e151 191 1 (by first | decide | omega)).trans k39
      have k55 : ai_hv t151 194 5 = some (.inl (σ 2 0)) := (e151 194 5 (by first | decide | omega)).trans k40
      have k56 : ai_hv t151 200 5 = some (.inl (σ 3 0)) := (e151 200 5 (by first | decide | omega)).trans k41
      have k57 : ai_hv t151 206 5 = some (.inl (σ 4 0)) := (e151 206 5 (by first | decide | omega)).trans k42
      have k58 : ai_hv t151 212 5 = some (.inl (σ 5 0)) := (e151 212 5 (by first | decide | omega)).trans k43
      have k59 : ai_hv t151 218 5 = some (.inl (σ 6 0)) := (e151 218 5 (by first | decide | omega)).trans k44
      have k60 : ai_hv t151 224 5 = some (.inl (σ 7 0)) := (e151 224 5 (by first | decide | omega)).trans k45
      have k61 : ai_hv t151 7 4 = some (.inl (σ 8 0)) := (e151 7 4 (by first | decide | omega)).trans k46
      have k62 : ai_hv t151 7 5 = some (.inl (σ 9 0)) := (e151 7 5 (by first | decide | omega)).trans k47
      have k63 : ai_hv t151 7 6 = some (.inl (σ 9 1)) := (e151 7 6 (by first | decide | omega)).trans k48
      have k64 : ai_hv t151 7 7 = some (.inl (σ 9 2)) := (e151 7 7 (by first | decide | omega)).trans k49
      have k65 : ai_hv t151 7 1 = some (gx_r 191) := (e151 7 1 (by first | decide | omega)).trans k50
      show en_ex _ _ _ _ (71, [(3, .inl b31), (1, .inr (.inl v115)), (0, gx_r 7)], [], t151, n, 0) _
      have yy : (a151, f151) = fc S m N (sg_ship S m σ) (sg_crew S m σ) (a101, f101) := by
        by_cases h0 : f101 = 0
        · rcases q115.2.2 h0 with ⟨hn, w1, w2, w3⟩ | ⟨hn, w1⟩
          · have hsh := c_ship h3 hn.1
            rw [← w2] at hsh
            obtain ⟨g1, g2⟩ := hsh.1 hsa
            rw [← hsc] at g2
            have hss : sg_ship S m σ a101 := ⟨g1, by omega, by rw [g2, hsc]; exact hsb⟩
            have hcr : sg_crew S m σ a101 := by
              obtain ⟨i, z1, z2⟩ := hcb
              exact ⟨i, z1, by omega⟩
            rw [h0, fc_3 hn hss hcr]; exact Prod.ext (by show a151 = a101; omega) (by show f151 = 3 + 16 * sp_st S m a101; rw [show a101 = a115 by omega]; omega)
          · rw [h0, fc_1 hn]; exact Prod.ext (by show a151 = a101; omega) (by show f151 = 1 + 16 * sp_st S m a101; omega)
        · rw [fc_no h0]; exact Prod.ext (by show a151 = a101; omega) (by show f151 = f101; omega)
      have ye := yy.trans (congrArg (fc S m N (sg_ship S m σ) (sg_crew S m σ)) y101)
      refine ex_go (S := (72, [(3, .inl b31), (1, .inr (.inl v115)), (0, gx_r 7)], [gx_r 7], t151, n, 0)) rfl (fun _ => rfl) rfl ?_
      refine gxo_ref (a := 7) (c := 1) rfl s151.1 rfl rfl rfl rfl rfl ?_
      refine ex_go (S := (78, [(3, .inl b31), (1, .inr (.inl v115)), (0, gx_r 7)], [gx_w 9, gx_r 1], t151, n, 0)) rfl (fun _ => rfl) rfl ?_
      have hT67 := cT_keep (t' := t151) hT (fun c i h => (e151 c i (by first | decide | omega)).trans ((e136 c i (by first | decide | omega)).trans ((e115 c i (by first | decide | omega)).trans (e101 c i (by first | decide | omega)))))
      obtain ⟨_, r166, t166, a166, f166, rfl, s166, e166, z166, q166⟩ := pc_takeWord (d + 1) n (s151) hT67 (by first | decide | omega) (w := 9) (by first | decide | omega)
      have b166 := s166.2.2.2
      have y166 := z166.trans (congrArg (fw S m N 9) ye)
      refine gx_callo (a := 1) rfl rfl s151.1 rfl rfl rfl r166 rfl ?_
      have k68 : ai_hv t166 191 0 = some (.inl (σ 0 0)) := (e166 191 0 (by first | decide | omega)).trans k53
      have k69 : ai_hv t166 191 1 = some (.inl (σ 1 0)) := (e166 191 1 (by first | decide | omega)).trans k54
      have k70 : ai_hv t166 194 5 = some (.inl (σ 2 0)) := (e166 194 5 (by first | decide | omega)).trans k55
      have k71 : ai_hv t166 200 5 = some (.inl (σ 3 0)) := (e166 200 5 (by first | decide | omega)).trans k56
      have k72 : ai_hv t166 206 5 = some (.inl (σ 4 0)) := (e166 206 5 (by first | decide | omega)).trans k57
      have k73 : ai_hv t166 212 5 = some (.inl (σ 5 0)) := (e166 212 5 (by first | decide | omega)).trans k58
      have k74 : ai_hv t166 218 5 = some (.inl (σ 6 0)) := (e166 218 5 (by first | decide | omega)).trans k59
      have k75 : ai_hv t166 224 5 = some (.inl (σ 7 0)) := (e166 224 5 (by first | decide | omega)).trans k60
      have k76 : ai_hv t166 7 4 = some (.inl (σ 8 0)) := (e166 7 4 (by first | decide | omega)).trans k61
      have k77 : ai_hv t166 7 5 = some (.inl (σ 9 0)) := (e166 7 5 (by first | decide | omega)).trans k62
      have k78 : ai_hv t166 7 6 = some (.inl (σ 9 1)) := (e166 7 6 (by first | decide | omega)).trans k63
      have k79 : ai_hv t166 7 7 = some (.inl (σ 9 2)) := (e166 7 7 (by first | decide | omega)).trans k64
      have k80 : ai_hv t166 7 1 = some (gx_r 191) := (e166 7 1 (by first | decide | omega)).trans k65
      show en_ex _ _ _ _ (81, [(3, .inl b31), (1, .inr (.inl v115)), (0, gx_r 7)], [], t166, n, 0) _
      refine ex_go (S := (82, [(3, .inl b31), (1, .inr (.inl v115)), (0, gx_r 7)], [gx_r 7], t166, n, 0)) rfl (fun _ => rfl) rfl ?_
      refine gxo_ref (a := 7) (c := 1) rfl s166.1 rfl rfl rfl rfl rfl ?_
      refine ex_go (S := (86, [(3, .inl b31), (1, .inr (.inl v115)), (0, gx_r 7)], [.inl 1, gx_r 1], t166, n, 0)) rfl (fun _ => rfl) rfl ?_
      refine ex_go (S := (88, [(3, .inl b31), (1, .inr (.inl v115)), (0, gx_r 7)], [.inl 30, .inl 1, gx_r 1], t166, n, 0)) rfl (fun _ => rfl) rfl ?_
      have hT82 := cT_keep (t' := t166) hT (fun c i h => (e166 c i (by first | decide | omega)).trans ((e151 c i (by first | decide | omega)).trans ((e136 c i (by first | decide | omega)).trans ((e115 c i (by first | decide | omega)).trans (e101 c i (by first | decide | omega))))))
      obtain ⟨_, r181, v181, t181, a181, f181, rfl, s181, e181, z181, q181⟩ := pc_takeNumber (d + 1) n (s166) hT82 (by first | decide | omega) (lo := 1) (hi := 30) (by first | decide | omega) (by first | decide | omega) (by first | decide | omega)
      have b181 := s181.2.2.2
      have y181 := z181.trans (congrArg (fn S m N 1 30) y166)
      refine gx_callo (a := 1) rfl rfl s166.1 rfl rfl rfl r181 rfl ?_
      have k83 : ai_hv t181 191 0 = some (.inl (σ 0 0)) := (e181 191 0 (by first | decide | omega)).trans k68
      have k84 : ai_hv t181 191 1 = some (.inl (σ 1 0)) := (e181 191 1 (by first | decide | omega)).trans k69
      have k85 : ai_hv t181 194 5 = some (.inl (σ 2 0)) := (e181 194 5 (by first | decide | omega)).trans k70
      have k86 : ai_hv t181 200 5 = some (.inl (σ 3 0)) := (e181 200 5 (by first | decide | omega)).trans k71
      have k87 : ai_hv t181 206 5 = some (.inl (σ 4 0)) := (e181 206 5 (by first | decide | omega)).trans k72
      have k88 : ai_hv t181 212 5 = some (.inl (σ 5 0)) := (e181 212 5 (by first | decide | omega)).trans k73
      have k89 : ai_hv t181 218 5 = some (.inl (σ 6 0)) := (e181 218 5 (by first | decide | omega)).trans k74
      have k90 : ai_hv t181 224 5 = some (.inl (σ 7 0)) := (e181 224 5 (by first | decide | omega)).trans k75
      have k91 : ai_hv t181 7 4 = some (.inl (σ 8 0)) := (e181 7 4 (by first | decide | omega)).trans k76
      have k92 : ai_hv t181 7 5 = some (.inl (σ 9 0)) := (e181 7 5 (by first | decide | omega)).trans k77
      have k93 : ai_hv t181 7 6 = some (.inl (σ 9 1)) := (e181 7 6 (by first | decide | omega)).trans k78
      have k94 : ai_hv t181 7 7 = some (.inl (σ 9 2)) := (e181 7 7 (by first | decide | omega)).trans k79
      have k95 : ai_hv t181 7 1 = some (gx_r 191) := (e181 7 1 (by first | decide | omega)).trans k80
      show en_ex _ _ _ _ (91, [(3, .inl b31), (1, .inr (.inl v115)), (0, gx_r 7)], [.inl v181], t181, n, 0) _
      refine ex_go (S := (93, [(4, .inl v181), (3, .inl b31), (1, .inr (.inl v115)), (0, gx_r 7)], [], t181, n, 0)) rfl (fun _ => rfl) rfl ?_
      refine ex_go (S := (94, [(4, .inl v181), (3, .inl b31), (1, .inr (.inl v115)), (0, gx_r 7)], [gx_r 7], t181, n, 0)) rfl (fun _ => rfl) rfl ?_
      refine gxo_ref (a := 7) (c := 1) rfl s181.1 rfl rfl rfl rfl rfl ?_
      refine ex_go (S := (100, [(4, .inl v181), (3, .inl b31), (1, .inr (.inl v115)), (0, gx_r 7)], [gx_w 10, gx_r 1], t181, n, 0)) rfl (fun _ => rfl) rfl ?_
      have hT97 := cT_keep (t' := t181) hT (fun c i h => (e181 c i (by first | decide | omega)).trans ((e166 c i (by first | decide | omega)).trans ((e151 c i (by first | decide | omega)).trans ((e136 c i (by first | decide | omega)).trans ((e115 c i (by first | decide | omega)).trans (e101 c i (by first | decide | omega)))))))
      obtain ⟨_, r196, t196, a196, f196, rfl, s196, e196, z196, q196⟩ := pc_takeWord (d + 1) n (s181) hT97 (by first | decide | omega) (w := 10) (by first | decide | omega)
      have b196 := s196.2.2.2
      have y196 := z196.trans (congrArg (fw S m N 10) y181)
      refine gx_callo (a := 1) rfl rfl s181.1 rfl rfl rfl r196 rfl ?_
      have k98 : ai_hv t196 191 0 = some (.inl (σ 0 0)) := (e196 191 0 (by first | decide | omega)).trans k83
      have k99 : ai_hv t196 191 1 = some (.inl (σ 1 0)) := (e196 191 1 (by first | decide | omega)).trans k84
      have k100 : ai_hv t196 194 5 = some (.inl (σ 2 0)) := (e196 194 5 (by first | decide | omega)).trans k85
      have k101 : ai_hv t196 200 5 = some (.inl (σ 3 0)) := (e196 200 5 (by first | decide | omega)).trans k86
      have k102 : ai_hv t196 206 5 = some (.inl (σ 4 0)) := (e196 206 5 (by first | decide | omega)).trans k87
      have k103 : ai_hv t196 212 5 = some (.inl (σ 5 0)) := (e196 212 5 (by first | decide | omega)).trans k88
      have k104 : ai_hv t196 218 5 = some (.inl (σ 6 0)) := (e196 218 5 (by first | decide | omega)).trans k89
      have k105 : ai_hv t196 224 5 = some (.inl (σ 7 0)) := (e196 224 5 (by first | decide | omega)).trans k90
      have k106 : ai_hv t196 7 4 = some (.inl (σ 8 0)) := (e196 7 4 (by first | decide | omega)).trans k91
      have k107 : ai_hv t196 7 5 = some (.inl (σ 9 0)) := (e196 7 5 (by first | decide | omega)).trans k92
      have k108 : ai_hv t196 7 6 = some (.inl (σ 9 1)) := (e196 7 6 (by first | decide | omega)).trans k93
      have k109 : ai_hv t196 7 7 = some (.inl (σ 9 2)) := (e196 7 7 (by first | decide | omega)).trans k94
      have k110 : ai_hv t196 7 1 = some (gx_r 191) := (e196 7 1 (by first | decide | omega)).trans k95
      show en_ex _ _ _ _ (103, [(4, .inl v181), (3, .inl b31), (1, .inr (.inl v115)), (0, gx_r 7)], [], t196, n, 0) _
      refine ex_go (S := (104, [(4, .inl v181), (3, .inl b31), (1, .inr (.inl v115)), (0, gx_r 7)], [gx_r 7], t196, n, 0)) rfl (fun _ => rfl) rfl ?_
      refine gxo_ref (a := 7) (c := 1) rfl s196.1 rfl rfl rfl rfl rfl ?_
      refine ex_go (S := (108, [(4, .inl v181), (3, .inl b31), (1, .inr (.inl v115)), (0, gx_r 7)], [.inl 0, gx_r 1], t196, n, 0)) rfl (fun _ => rfl) rfl ?_
      refine ex_go (S := (111, [(4, .inl v181), (3, .inl b31), (1, .inr (.inl v115)), (0, gx_r 7)], [.inl 9999, .inl 0, gx_r 1], t196, n, 0)) rfl (fun _ => rfl) rfl ?_
      have hT112 := cT_keep (t' := t196) hT (fun c i h => (e196 c i (by first | decide | omega)).trans ((e181 c i (by first | decide | omega)).trans ((e166 c i (by first | decide | omega)).trans ((e151 c i (by first | decide | omega)).trans ((e136 c i (by first | decide | omega)).trans ((e115 c i (by first | decide | omega)).trans (e101 c i (by first | decide | omega))))))))
      obtain ⟨_, r211, v211, t211, a211, f211, rfl, s211, e211, z211, q211⟩ := pc_takeNumber (d + 1) n (s196) hT112 (by first | decide | omega) (lo := 0) (hi := 9999) (by first | decide | omega) (by first | decide | omega) (by first | decide | omega)
      have b211 := s211.2.2.2
      have y211 := z211.trans (congrArg (fn S m N 0 9999) y196)
      refine gx_callo (a := 1) rfl rfl s196.1 rfl rfl rfl r211 rfl ?_
      have k113 : ai_hv t211 191 0 = some (.inl (σ 0 0)) := (e211 191 0 (by first | decide | omega)).trans k98
      have k114 : ai_hv t211 191 1 = some (.inl (σ 1 0)) := (e211 191 1 (by first | decide | omega)).trans k99
      have k115 : ai_hv t211 194 5 = some (.inl (σ 2 0)) := (e211 194 5 (by first | decide | omega)).trans k100
      have k116 : ai_hv t211 200 5 = some (.inl (σ 3 0)) := (e211 200 5 (by first | decide | omega)).trans k101
      have k117 : ai_hv t211 206 5 = some (.inl (σ 4 0)) := (e211 206 5 (by first | decide | omega)).trans k102
      have k118 : ai_hv t211 212 5 = some (.inl (σ 5 0)) := (e211 212 5 (by first | decide | omega)).trans k103
      have k119 : ai_hv t211 218 5 = some (.inl (σ 6 0)) := (e211 218 5 (by first | decide | omega)).trans k104
      have k120 : ai_hv t211 224 5 = some (.inl (σ 7 0)) := (e211 224 5 (by first | decide | omega)).trans k105
      have k121 : ai_hv t211 7 4 = some (.inl (σ 8 0)) := (e211 7 4 (by first | decide | omega)).trans k106
      have k122 : ai_hv t211 7 5 = some (.inl (σ 9 0)) := (e211 7 5 (by first | decide | omega)).trans k107
      have k123 : ai_hv t211 7 6 = some (.inl (σ 9 1)) := (e211 7 6 (by first | decide | omega)).trans k108
      have k124 : ai_hv t211 7 7 = some (.inl (σ 9 2)) := (e211 7 7 (by first | decide | omega)).trans k109
      have k125 : ai_hv t211 7 1 = some (gx_r 191) := (e211 7 1 (by first | decide | omega)).trans k110
      show en_ex _ _ _ _ (114, [(4, .inl v181), (3, .inl b31), (1, .inr (.inl v115)), (0, gx_r 7)], [.inl v211], t211, n, 0) _
      refine ex_go (S := (116, [(5, .inl v211), (4, .inl v181), (3, .inl b31), (1, .inr (.inl v115)), (0, gx_r 7)], [], t211, n, 0)) rfl (fun _ => rfl) rfl ?_
      refine ex_go (S := (117, [(5, .inl v211), (4, .inl v181), (3, .inl b31), (1, .inr (.inl v115)), (0, gx_r 7)], [gx_r 7], t211, n, 0)) rfl (fun _ => rfl) rfl ?_
      refine ex_go (S := (118, [(5, .inl v211), (4, .inl v181), (3, .inl b31), (1, .inr (.inl v115)), (0, gx_r 7)], [gx_r 7, gx_r 7], t211, n, 0)) rfl (fun _ => rfl) rfl ?_
      refine gxo_get (a := 7) rfl s211.1 rfl rfl k125 rfl ?_
      refine gxo_ref (a := 191) (c := 206) rfl s211.1 rfl rfl rfl rfl rfl ?_
      refine ex_go (S := (125, [(5, .inl v211), (4, .inl v181), (3, .inl b31), (1, .inr (.inl v115)), (0, gx_r 7)], [.inr (.inl v115), gx_r 206, gx_r 7], t211, n, 0)) rfl (fun _ => rfl) rfl ?_
      refine ex_go (S := (126, [(5, .inl v211), (4, .inl v181), (3, .inl b31), (1, .inr (.inl v115)), (0, gx_r 7)], [.inl b31, .inr (.inl v115), gx_r 206, gx_r 7], t211, n, 0)) rfl (fun _ => rfl) rfl ?_
      refine ex_go (S := (128, [(5, .inl v211), (4, .inl v181), (3, .inl b31), (1, .inr (.inl v115)), (0, gx_r 7)], [.inl v181, .inl b31, .inr (.inl v115), gx_r 206, gx_r 7], t211, n, 0)) rfl (fun _ => rfl) rfl ?_
      refine ex_go (S := (130, [(5, .inl v211), (4, .inl v181), (3, .inl b31), (1, .inr (.inl v115)), (0, gx_r 7)], [.inl v211, .inl v181, .inl b31, .inr (.inl v115), gx_r 206, gx_r 7], t211, n, 0)) rfl (fun _ => rfl) rfl ?_
      refine ex_go (S := (131, [(5, .inl v211), (4, .inl v181), (3, .inl b31), (1, .inr (.inl v115)), (0, gx_r 7)], [.inl 0, .inl v211, .inl v181, .inl b31, .inr (.inl v115), gx_r 206, gx_r 7], t211, n, 0)) rfl (fun _ => rfl) rfl ?_
      have hT127 := cT_keep (t' := t211) hT (fun c i h => (e211 c i (by first | decide | omega)).trans ((e196 c i (by first | decide | omega)).trans ((e181 c i (by first | decide | omega)).trans ((e166 c i (by first | decide | omega)).trans ((e151 c i (by first | decide | omega)).trans ((e136 c i (by first | decide | omega)).trans ((e115 c i (by first | decide | omega)).trans (e101 c i (by first | decide | omega)))))))))
      obtain ⟨_, r226, t226, a226, f226, rfl, s226, e226, z226, q226, u226⟩ := pc_endRow206 (d) n (s211) hT127 (by first | decide | omega) (x := v115) (y1 := b31) (y2 := v181) (y3 := v211) (y4 := 0) k117 (fun h0 => by omega)
      have b226 := s226.2.2.2
      have y226 := z226.trans (congrArg (fs S m N 59) y211)
      refine gx_callo (a := 7) rfl rfl s211.1 rfl rfl rfl r226 rfl ?_
      have k128 : ai_hv t226 191 0 = some (.inl (σ 0 0)) := (e226 191 0 (by first | decide | omega)).trans k113
      have k129 : ai_hv t226 191 1 = some (.inl (σ 1 0)) := (e226 191 1 (by first | decide | omega)).trans k114
      have k130 : ai_hv t226 194 5 = some (.inl (σ 2 0)) := (e226 194 5 (by first | decide | omega)).trans k115
      have k131 : ai_hv t226 200 5 = some (.inl (σ 3 0)) := (e226 200 5 (by first | decide | omega)).trans k116
      have k132 : ai_hv t226 212 5 = some (.inl (σ 5 0)) := (e226 212 5 (by first | decide | omega)).trans k118
      have k133 : ai_hv t226 218 5 = some (.inl (σ 6 0)) := (e226 218 5 (by first | decide | omega)).trans k119
      have k134 : ai_hv t226 224 5 = some (.inl (σ 7 0)) := (e226 224 5 (by first | decide | omega)).trans k120
      have k135 : ai_hv t226 7 4 = some (.inl (σ 8 0)) := (e226 7 4 (by first | decide | omega)).trans k121
      have k136 : ai_hv t226 7 5 = some (.inl (σ 9 0)) := (e226 7 5 (by first | decide | omega)).trans k122
      have k137 : ai_hv t226 7 6 = some (.inl (σ 9 1)) := (e226 7 6 (by first | decide | omega)).trans k123
      have k138 : ai_hv t226 7 7 = some (.inl (σ 9 2)) := (e226 7 7 (by first | decide | omega)).trans k124
      have k139 : ai_hv t226 7 1 = some (gx_r 191) := (e226 7 1 (by first | decide | omega)).trans k125
      show en_ex _ _ _ _ (134, [(5, .inl v211), (4, .inl v181), (3, .inl b31), (1, .inr (.inl v115)), (0, gx_r 7)], [], t226, n, 0) _
      refine ex_ret (r := (none, t226, n, 0)) rfl (fun _ => rfl) ?_
      have hT140 := cT_keep (t' := t226) hT (fun c i h => (e226 c i (by first | decide | omega)).trans ((e211 c i (by first | decide | omega)).trans ((e196 c i (by first | decide | omega)).trans ((e181 c i (by first | decide | omega)).trans ((e166 c i (by first | decide | omega)).trans ((e151 c i (by first | decide | omega)).trans ((e136 c i (by first | decide | omega)).trans ((e115 c i (by first | decide | omega)).trans (e101 c i (by first | decide | omega))))))))))
      refine ⟨_, rfl, t226, a226, f226, rfl, s226, hT140, k139, (fun c i h => (e226 c i (by first | decide | omega)).trans ((e211 c i (by first | decide | omega)).trans ((e196 c i (by first | decide | omega)).trans ((e181 c i (by first | decide | omega)).trans ((e166 c i (by first | decide | omega)).trans ((e151 c i (by first | decide | omega)).trans ((e136 c i (by first | decide | omega)).trans ((e115 c i (by first | decide | omega)).trans (e101 c i (by first | decide | omega)))))))))), y226, by omega, fun h0 => ⟨by omega, ?_⟩⟩
      obtain ⟨u1, u2, u3, u4, u5, u6⟩ := u226 h0
      have hf0 : f101 = 0 := by omega
      have hg : σ 14 (sg_k S m σ (a + 1)) = b31 := by
        rcases q115.2.2 hf0 with ⟨hn, w1, w2, w3⟩ | ⟨hn, w1⟩
        · have hsh := c_ship h3 hn.1
          rw [← w2] at hsh
          obtain ⟨g1, g2⟩ := hsh.1 hsa
          rw [← hsc, show a101 = a + 1 by omega] at g2
          exact g2
        · omega
      rw [← hg] at u3
      have hnw : v115 = sp_wv S m (a + 1) := by
        rcases q115.2.2 hf0 with ⟨hn, w1, w2, w3⟩ | ⟨hn, w1⟩
        · rw [← show a101 = a + 1 by omega]; exact w2
        · omega
      rw [hnw] at u2
      have hq141 : v181 = sp_nv S m (a + 3) := by rw [← show a166 = a + 3 by omega]; omega
      rw [hq141] at u4
      have hq142 : v211 = sp_nv S m (a + 5) := by rw [← show a196 = a + 5 by omega]; omega
      rw [hq142] at u5
      have xc143 : ∀ i, i < σ 2 0 → ai_hv t226 197 i = some (.inl (sp_nv S m (σ 16 i + 3) + 8 * sp_nv S m (σ 16 i + 4))) := fun i hi => ((e226 197 i (by first | decide | omega)).trans ((e211 197 i (by first | decide | omega)).trans ((e196 197 i (by first | decide | omega)).trans ((e181 197 i (by first | decide | omega)).trans ((e166 197 i (by first | decide | omega)).trans ((e151 197 i (by first | decide | omega)).trans ((e136 197 i (by first | decide | omega)).trans ((e115 197 i (by first | decide | omega)).trans (e101 197 i (by first | decide | omega)))))))))).trans (gcb0 i hi)
      have xc144 : ∀ i, i < σ 4 0 → ai_hv t226 207 i = some (.inr (.inl (sp_wv S m (σ 21 i + 1)))) := fun i hi => ((e226 207 i (by first | decide | omega)).trans ((e211 207 i (by first | decide | omega)).trans ((e196 207 i (by first | decide | omega)).trans ((e181 207 i (by first | decide | omega)).trans ((e166 207 i (by first | decide | omega)).trans ((e151 207 i (by first | decide | omega)).trans ((e136 207 i (by first | decide | omega)).trans ((e115 207 i (by first | decide | omega)).trans (e101 207 i (by first | decide | omega)))))))))).trans (gcb1 i hi)
      have xc145 : ∀ i, i < σ 3 0 → ai_hv t226 203 i = some (.inl (sp_nv S m (σ 20 i + 4))) := fun i hi => ((e226 203 i (by first | decide | omega)).trans ((e211 203 i (by first | decide | omega)).trans ((e196 203 i (by first | decide | omega)).trans ((e181 203 i (by first | decide | omega)).trans ((e166 203 i (by first | decide | omega)).trans ((e151 203 i (by first | decide | omega)).trans ((e136 203 i (by first | decide | omega)).trans ((e115 203 i (by first | decide | omega)).trans (e101 203 i (by first | decide | omega)))))))))).trans (gcb2 i hi)
      have xc146 : ∀ i, i < σ 3 0 → ai_hv t226 204 i = some (.inl (sp_nv S m (σ 20 i + 6))) := fun i hi => ((e226 204 i (by first | decide | omega)).trans ((e211 204 i (by first | decide | omega)).trans ((e196 204 i (by first | decide | omega)).trans ((e181 204 i (by first | decide | omega)).trans ((e166 204 i (by first | decide | omega)).trans ((e151 204 i (by first | decide | omega)).trans ((e136 204 i (by first | decide | omega)).trans ((e115 204 i (by first | decide | omega)).trans (e101 204 i (by first | decide | omega)))))))))).trans (gcb3 i hi)
      have xc147 : ∀ i, i < σ 3 0 → ai_hv t226 205 i = some (.inl (sp_nv S m (σ 20 i + 8))) := fun i hi => ((e226 205 i (by first | decide | omega)).trans ((e211 205 i (by first | decide | omega)).trans ((e196 205 i (by first | decide | omega)).trans ((e181 205 i (by first | decide | omega)).trans ((e166 205 i (by first | decide | omega)).trans ((e151 205 i (by first | decide | omega)).trans ((e136 205 i (by first | decide | omega)).trans ((e115 205 i (by first | decide | omega)).trans (e101 205 i (by first | decide | omega)))))))))).trans (gcb4 i hi)
      have xc148 : ∀ i, i < σ 4 0 → ai_hv t226 209 i = some (.inl (sp_nv S m (σ 21 i + 3))) := fun i hi => ((e226 209 i (by first | decide | omega)).trans ((e211 209 i (by first | decide | omega)).trans ((e196 209 i (by first | decide | omega)).trans ((e181 209 i (by first | decide | omega)).trans ((e166 209 i (by first | decide | omega)).trans ((e151 209 i (by first | decide | omega)).trans ((e136 209 i (by first | decide | omega)).trans ((e115 209 i (by first | decide | omega)).trans (e101 209 i (by first | decide | omega)))))))))).trans (gcb5 i hi)
      have xc149 : ∀ i, i < σ 4 0 → ai_hv t226 210 i = some (.inl (sp_nv S m (σ 21 i + 5))) := fun i hi => ((e226 210 i (by first | decide | omega)).trans ((e211 210 i (by first | decide | omega)).trans ((e196 210 i (by first | decide | omega)).trans ((e181 210 i (by first | decide | omega)).trans ((e166 210 i (by first | decide | omega)).trans ((e151 210 i (by first | decide | omega)).trans ((e136 210 i (by first | decide | omega)).trans ((e115 210 i (by first | decide | omega)).trans (e101 210 i (by first | decide | omega)))))))))).trans (gcb6 i hi)
      have xc150 : ∀ i, i < σ 5 0 → ai_hv t226 214 i = some (.inl (sp_nv S m (σ 17 i + 2))) := fun i hi => ((e226 214 i (by first | decide | omega)).trans ((e211 214 i (by first | decide | omega)).trans ((e196 214 i (by first | decide | omega)).trans ((e181 214 i (by first | decide | omega)).trans ((e166 214 i (by first | decide | omega)).trans ((e151 214 i (by first | decide | omega)).trans ((e136 214 i (by first | decide | omega)).trans ((e115 214 i (by first | decide | omega)).trans (e101 214 i (by first | decide | omega)))))))))).trans (gcb7 i hi)
      have xc151 : ∀ i, i < σ 5 0 → ai_hv t226 215 i = some (.inl (sp_nv S m (σ 17 i + 4))) := fun i hi => ((e226 215 i (by first | decide | omega)).trans ((e211 215 i (by first | decide | omega)).trans ((e196 215 i (by first | decide | omega)).trans ((e181 215 i (by first | decide | omega)).trans ((e166 215 i (by first | decide | omega)).trans ((e151 215 i (by first | decide | omega)).trans ((e136 215 i (by first | decide | omega)).trans ((e115 215 i (by first | decide | omega)).trans (e101 215 i (by first | decide | omega)))))))))).trans (gcb8 i hi)
      have xc152 : ∀ i, i < σ 6 0 → ai_hv t226 220 i = some (.inl (sp_nv S m (σ 18 i + 2))) := fun i hi => ((e226 220 i (by first | decide | omega)).trans ((e211 220 i (by first | decide | omega)).trans ((e196 220 i (by first | decide | omega)).trans ((e181 220 i (by first | decide | omega)).trans ((e166 220 i (by first | decide | omega)).trans ((e151 220 i (by first | decide | omega)).trans ((e136 220 i (by first | decide | omega)).trans ((e115 220 i (by first | decide | omega)).trans (e101 220 i (by first | decide | omega)))))))))).trans (gcb9 i hi)
      have xc153 : ∀ i, i < σ 7 0 → ai_hv t226 226 i = some (.inl (sp_nv S m (σ 19 i + 2))) := fun i hi => ((e226 226 i (by first | decide | omega)).trans ((e211 226 i (by first | decide | omega)).trans ((e196 226 i (by first | decide | omega)).trans ((e181 226 i (by first | decide | omega)).trans ((e166 226 i (by first | decide | omega)).trans ((e151 226 i (by first | decide | omega)).trans ((e136 226 i (by first | decide | omega)).trans ((e115 226 i (by first | decide | omega)).trans (e101 226 i (by first | decide | omega)))))))))).trans (gcb10 i hi)
      have xc154 : ∀ i, i < σ 7 0 → ai_hv t226 227 i = some (.inl (sp_nv S m (σ 19 i + 4))) := fun i hi => ((e226 227 i (by first | decide | omega)).trans ((e211 227 i (by first | decide | omega)).trans ((e196 227 i (by first | decide | omega)).trans ((e181 227 i (by first | decide | omega)).trans ((e166 227 i (by first | decide | omega)).trans ((e151 227 i (by first | decide | omega)).trans ((e136 227 i (by first | decide | omega)).trans ((e115 227 i (by first | decide | omega)).trans (e101 227 i (by first | decide | omega)))))))))).trans (gcb11 i hi)
      have xc155 : ∀ j, j < 64 → ai_hv t226 192 j = some (.inl (σ 23 j)) := fun j hj => ((e226 192 j (by first | decide | omega)).trans ((e211 192 j (by first | decide | omega)).trans ((e196 192 j (by first | decide | omega)).trans ((e181 192 j (by first | decide | omega)).trans ((e166 192 j (by first | decide | omega)).trans ((e151 192 j (by first | decide | omega)).trans ((e136 192 j (by first | decide | omega)).trans ((e115 192 j (by first | decide | omega)).trans (e101 192 j (by first | decide | omega)))))))))).trans (gcb13 j hj)
      exact ⟨⟨k128, k129, k130, k131, u1, k132, k133, k134, k135, k136, k137, k138⟩, (fun i hi => ⟨((fun i hi => ((e226 195 i (by first | decide | omega)).trans ((e211 195 i (by first | decide | omega)).trans ((e196 195 i (by first | decide | omega)).trans ((e181 195 i (by first | decide | omega)).trans ((e166 195 i (by first | decide | omega)).trans ((e151 195 i (by first | decide | omega)).trans ((e136 195 i (by first | decide | omega)).trans ((e115 195 i (by first | decide | omega)).trans (e101 195 i (by first | decide | omega)))))))))).trans (hAt i hi).1)) i hi, ((fun i hi => ((e226 196 i (by first | decide | omega)).trans ((e211 196 i (by first | decide | omega)).trans ((e196 196 i (by first | decide | omega)).trans ((e181 196 i (by first | decide | omega)).trans ((e166 196 i (by first | decide | omega)).trans ((e151 196 i (by first | decide | omega)).trans ((e136 196 i (by first | decide | omega)).trans ((e115 196 i (by first | decide | omega)).trans (e101 196 i (by first | decide | omega)))))))))).trans (hAt i hi).2)) i hi⟩), (fun i hi => ((e226 202 i (by first | decide | omega)).trans ((e211 202 i (by first | decide | omega)).trans ((e196 202 i (by first | decide | omega)).trans ((e181 202 i (by first | decide | omega)).trans ((e166 202 i (by first | decide | omega)).trans ((e151 202 i (by first | decide | omega)).trans ((e136 202 i (by first | decide | omega)).trans ((e115 202 i (by first | decide | omega)).trans (e101 202 i (by first | decide | omega)))))))))).trans (hAl i hi)), (ci_up (g := σ 12) (fun i hi => ((e226 208 i (by first | decide | omega)).trans ((e211 208 i (by first | decide | omega)).trans ((e196 208 i (by first | decide | omega)).trans ((e181 208 i (by first | decide | omega)).trans ((e166 208 i (by first | decide | omega)).trans ((e151 208 i (by first | decide | omega)).trans ((e136 208 i (by first | decide | omega)).trans ((e115 208 i (by first | decide | omega)).trans (e101 208 i (by first | decide | omega)))))))))).trans (hAc i hi)) u3), (fun i hi => ((e226 213 i (by first | decide | omega)).trans ((e211 213 i (by first | decide | omega)).trans ((e196 213 i (by first | decide | omega)).trans ((e181 213 i (by first | decide | omega)).trans ((e166 213 i (by first | decide | omega)).trans ((e151 213 i (by first | decide | omega)).trans ((e136 213 i (by first | decide | omega)).trans ((e115 213 i (by first | decide | omega)).trans (e101 213 i (by first | decide | omega)))))))))).trans (hAg i hi)), (fun i hi => ((e226 219 i (by first | decide | omega)).trans ((e211 219 i (by first | decide | omega)).trans ((e196 219 i (by first | decide | omega)).trans ((e181 219 i (by first | decide | omega)).trans ((e166 219 i (by first | decide | omega)).trans ((e151 219 i (by first | decide | omega)).trans ((e136 219 i (by first | decide | omega)).trans ((e115 219 i (by first | decide | omega)).trans (e101 219 i (by first | decide | omega)))))))))).trans (hAs i hi)), (fun i hi => ((e226 225 i (by first | decide | omega)).trans ((e211 225 i (by first | decide | omega)).trans ((e196 225 i (by first | decide | omega)).trans ((e181 225 i (by first | decide | omega)).trans ((e166 225 i (by first | decide | omega)).trans ((e151 225 i (by first | decide | omega)).trans ((e136 225 i (by first | decide | omega)).trans ((e115 225 i (by first | decide | omega)).trans (e101 225 i (by first | decide | omega)))))))))).trans (hAo i hi)), xc143, cn_up (g := σ 21) xc144 u2, xc145, xc146, xc147, ct_up (g := σ 21) xc148 u4, ct_up (g := σ 21) xc149 u5, xc150, xc151, xc152, xc153, xc154, ((e226 191 2 (by first | decide | omega)).trans ((e211 191 2 (by first | decide | omega)).trans ((e196 191 2 (by first | decide | omega)).trans ((e181 191 2 (by first | decide | omega)).trans ((e166 191 2 (by first | decide | omega)).trans ((e151 191 2 (by first | decide | omega)).trans ((e136 191 2 (by first | decide | omega)).trans ((e115 191 2 (by first | decide | omega)).trans (e101 191 2 (by first | decide | omega)))))))))).trans gcb12, xc155⟩
    · subst hca
      refine gx_callo (a := 191) rfl rfl s115.1 rfl rfl rfl r33 rfl ?_
      show en_ex _ _ _ _ (52, [(3, .inl b31), (1, .inr (.inl v115)), (0, gx_r 7)], [.inl 4294967295], t115, n, 0) _
      refine ex_go (S := (53, [(3, .inl b31), (1, .inr (.inl v115)), (0, gx_r 7)], [.inl 4294967295, .inl 4294967295], t115, n, 0)) rfl (fun _ => rfl) rfl ?_
      refine ex_go (S := (64, [(3, .inl b31), (1, .inr (.inl v115)), (0, gx_r 7)], [], t115, n, 0)) rfl (fun _ => rfl) rfl ?_
      refine ex_go (S := (65, [(3, .inl b31), (1, .inr (.inl v115)), (0, gx_r 7)], [gx_r 7], t115, n, 0)) rfl (fun _ => rfl) rfl ?_
      refine gxo_ref (a := 7) (c := 1) rfl s115.1 rfl rfl rfl rfl rfl ?_
      have hT157 := cT_keep (t' := t115) hT (fun c i h => (e115 c i (by first | decide | omega)).trans (e101 c i (by first | decide | omega)))
      obtain ⟨_, r256, t256, a256, f256, rfl, s256, e256, q256⟩ := pc_goOn (d + 2) n (s115) hT157 (by first | decide | omega) 
      have b256 := s256.2.2.2
      refine gx_callo (a := 1) rfl rfl s115.1 rfl rfl rfl r256 rfl ?_
      have k158 : ai_hv t256 191 0 = some (.inl (σ 0 0)) := (e256 191 0 (by first | decide | omega)).trans k17
      have k159 : ai_hv t256 191 1 = some (.inl (σ 1 0)) := (e256 191 1 (by first | decide | omega)).trans k18
      have k160 : ai_hv t256 194 5 = some (.inl (σ 2 0)) := (e256 194 5 (by first | decide | omega)).trans k19
      have k161 : ai_hv t256 200 5 = some (.inl (σ 3 0)) := (e256 200 5 (by first | decide | omega)).trans k20
      have k162 : ai_hv t256 206 5 = some (.inl (σ 4 0)) := (e256 206 5 (by first | decide | omega)).trans k21
      have k163 : ai_hv t256 212 5 = some (.inl (σ 5 0)) := (e256 212 5 (by first | decide | omega)).trans k22
      have k164 : ai_hv t256 218 5 = some (.inl (σ 6 0)) := (e256 218 5 (by first | decide | omega)).trans k23
      have k165 : ai_hv t256 224 5 = some (.inl (σ 7 0)) := (e256 224 5 (by first | decide | omega)).trans k24
      have k166 : ai_hv t256 7 4 = some (.inl (σ 8 0)) := (e256 7 4 (by first | decide | omega)).trans k25
      have k167 : ai_hv t256 7 5 = some (.inl (σ 9 0)) := (e256 7 5 (by first | decide | omega)).trans k26
      have k168 : ai_hv t256 7 6 = some (.inl (σ 9 1)) := (e256 7 6 (by first | decide | omega)).trans k27
      have k169 : ai_hv t256 7 7 = some (.inl (σ 9 2)) := (e256 7 7 (by first | decide | omega)).trans k28
      have k170 : ai_hv t256 7 1 = some (gx_r 191) := (e256 7 1 (by first | decide | omega)).trans k29
      show en_ex _ _ _ _ (71, [(3, .inl b31), (1, .inr (.inl v115)), (0, gx_r 7)], [], t256, n, 0) _
      have yy : (a256, f256) = fc S m N (sg_ship S m σ) (sg_crew S m σ) (a101, f101) := by
        by_cases h0 : f101 = 0
        · rcases q115.2.2 h0 with ⟨hn, w1, w2, w3⟩ | ⟨hn, w1⟩
          · have hsh := c_ship h3 hn.1
            rw [← w2] at hsh
            obtain ⟨g1, g2⟩ := hsh.1 hsa
            rw [← hsc] at g2
            have hss : sg_ship S m σ a101 := ⟨g1, by omega, by rw [g2, hsc]; exact hsb⟩
            have hcr : ¬ sg_crew S m σ a101 := fun ⟨i, z1, z2⟩ => hcb i z1 (by first | decide | omega)
            rw [h0, fc_yes hn hss hcr]; exact Prod.ext (by show a256 = a101 + 1; omega) (by show f256 = 0; omega)
          · rw [h0, fc_1 hn]; exact Prod.ext (by show a256 = a101; omega) (by show f256 = 1 + 16 * sp_st S m a101; omega)
        · rw [fc_no h0]; exact Prod.ext (by show a256 = a101; omega) (by show f256 = f101; omega)
      have ye := yy.trans (congrArg (fc S m N (sg_ship S m σ) (sg_crew S m σ)) y101)
      refine ex_go (S := (72, [(3, .inl b31), (1, .inr (.inl v115)), (0, gx_r 7)], [gx_r 7], t256, n, 0)) rfl (fun _ => rfl) rfl ?_
      refine gxo_ref (a := 7) (c := 1) rfl s256.1 rfl rfl rfl rfl rfl ?_
      refine ex_go (S := (78, [(3, .inl b31), (1, .inr (.inl v115)), (0, gx_r 7)], [gx_w 9, gx_r 1], t256, n, 0)) rfl (fun _ => rfl) rfl ?_
      have hT172 := cT_keep (t' := t256) hT (fun c i h => (e256 c i (by first | decide | omega)).trans ((e115 c i (by first | decide | omega)).trans (e101 c i (by first | decide | omega))))
      obtain ⟨_, r271, t271, a271, f271, rfl, s271, e271, z271, q271⟩ := pc_takeWord (d + 1) n (s256) hT172 (by first | decide | omega) (w := 9) (by first | decide | omega)
      have b271 := s271.2.2.2
      have y271 := z271.trans (congrArg (fw S m N 9) ye)
      refine gx_callo (a := 1) rfl rfl s256.1 rfl rfl rfl r271 rfl ?_
      have k173 : ai_hv t271 191 0 = some (.inl (σ 0 0)) := (e271 191 0 (by first | decide | omega)).trans k158
      have k174 : ai_hv t271 191 1 = some (.inl (σ 1 0)) := (e271 191 1 (by first | decide | omega)).trans k159
      have k175 : ai_hv t271 194 5 = some (.inl (σ 2 0)) := (e271 194 5 (by first | decide | omega)).trans k160
      have k176 : ai_hv t271 200 5 = some (.inl (σ 3 0)) := (e271 200 5 (by first | decide | omega)).trans k161
      have k177 : ai_hv t271 206 5 = some (.inl (σ 4 0)) := (e271 206 5 (by first | decide | omega)).trans k162
      have k178 : ai_hv t271 212 5 = some (.inl (σ 5 0)) := (e271 212 5 (by first | decide | omega)).trans k163
      have k179 : ai_hv t271 218 5 = some (.inl (σ 6 0)) := (e271 218 5 (by first | decide | omega)).trans k164
      have k180 : ai_hv t271 224 5 = some (.inl (σ 7 0)) := (e271 224 5 (by first | decide | omega)).trans k165
      have k181 : ai_hv t271 7 4 = some (.inl (σ 8 0)) := (e271 7 4 (by first | decide | omega)).trans k166
      have k182 : ai_hv t271 7 5 = some (.inl (σ 9 0)) := (e271 7 5 (by first | decide | omega)).trans k167
      have k183 : ai_hv t271 7 6 = some (.inl (σ 9 1)) := (e271 7 6 (by first | decide | omega)).trans k168
      have k184 : ai_hv t271 7 7 = some (.inl (σ 9 2)) := (e271 7 7 (by first | decide | omega)).trans k169
      have k185 : ai_hv t271 7 1 = some (gx_r 191) := (e271 7 1 (by first | decide | omega)).trans k170
      show en_ex _ _ _ _ (81, [(3, .inl b31), (1, .inr (.inl v115)), (0, gx_r 7)], [], t271, n, 0) _
      refine ex_go (S := (82, [(3, .inl b31), (1, .inr (.inl v115)), (0, gx_r 7)], [gx_r 7], t271, n, 0)) rfl (fun _ => rfl) rfl ?_
      refine gxo_ref (a := 7) (c := 1) rfl s271.1 rfl rfl rfl rfl rfl ?_
      refine ex_go (S := (86, [(3, .inl b31), (1, .inr (.inl v115)), (0, gx_r 7)], [.inl 1, gx_r 1], t271, n, 0)) rfl (fun _ => rfl) rfl ?_
      refine ex_go (S := (88, [(3, .inl b31), (1, .inr (.inl v115)), (0, gx_r 7)], [.inl 30, .inl 1, gx_r 1], t271, n, 0)) rfl (fun _ => rfl) rfl ?_
      have hT187 := cT_keep (t' := t271) hT (fun c i h => (e271 c i (by first | decide | omega)).trans ((e256 c i (by first | decide | omega)).trans ((e115 c i (by first | decide | omega)).trans (e101 c i (by first | decide | omega)))))
      obtain ⟨_, r286, v286, t286, a286, f286, rfl, s286, e286, z286, q286⟩ := pc_takeNumber (d + 1) n (s271) hT187 (by first | decide | omega) (lo := 1) (hi := 30) (by first | decide | omega) (by first | decide | omega) (by first | decide | omega)
      have b286 := s286.2.2.2
      have y286 := z286.trans (congrArg (fn S m N 1 30) y271)
      refine gx_callo (a := 1) rfl rfl s271.1 rfl rfl rfl r286 rfl ?_
      have k188 : ai_hv t286 191 0 = some (.inl (σ 0 0)) := (e286 191 0 (by first | decide | omega)).trans k173
      have k189 : ai_hv t286 191 1 = some (.inl (σ 1 0)) := (e286 191 1 (by first | decide | omega)).trans k174
      have k190 : ai_hv t286 194 5 = some (.inl (σ 2 0)) := (e286 194 5 (by first | decide | omega)).trans k175
      have k191 : ai_hv t286 200 5 = some (.inl (σ 3 0)) := (e286 200 5 (by first | decide | omega)).trans k176
      have k192 : ai_hv t286 206 5 = some (.inl (σ 4 0)) := (e286 206 5 (by first | decide | omega)).trans k177
      have k193 : ai_hv t286 212 5 = some (.inl (σ 5 0)) := (e286 212 5 (by first | decide | omega)).trans k178
      have k194 : ai_hv t286 218 5 = some (.inl (σ 6 0)) := (e286 218 5 (by first | decide | omega)).trans k179
      have k195 : ai_hv t286 224 5 = some (.inl (σ 7 0)) := (e286 224 5 (by first | decide | omega)).trans k180
      have k196 : ai_hv t286 7 4 = some (.inl (σ 8 0)) := (e286 7 4 (by first | decide | omega)).trans k181
      have k197 : ai_hv t286 7 5 = some (.inl (σ 9 0)) := (e286 7 5 (by first | decide | omega)).trans k182
      have k198 : ai_hv t286 7 6 = some (.inl (σ 9 1)) := (e286 7 6 (by first | decide | omega)).trans k183
      have k199 : ai_hv t286 7 7 = some (.inl (σ 9 2)) := (e286 7 7 (by first | decide | omega)).trans k184
      have k200 : ai_hv t286 7 1 = some (gx_r 191) := (e286 7 1 (by first | decide | omega)).trans k185
      show en_ex _ _ _ _ (91, [(3, .inl b31), (1, .inr (.inl v115)), (0, gx_r 7)], [.inl v286], t286, n, 0) _
      refine ex_go (S := (93, [(4, .inl v286), (3, .inl b31), (1, .inr (.inl v115)), (0, gx_r 7)], [], t286, n, 0)) rfl (fun _ => rfl) rfl ?_
      refine ex_go (S := (94, [(4, .inl v286), (3, .inl b31), (1, .inr (.inl v115)), (0, gx_r 7)], [gx_r 7], t286, n, 0)) rfl (fun _ => rfl) rfl ?_
      refine gxo_ref (a := 7) (c := 1) rfl s286.1 rfl rfl rfl rfl rfl ?_
      refine ex_go (S := (100, [(4, .inl v286), (3, .inl b31), (1, .inr (.inl v115)), (0, gx_r 7)], [gx_w 10, gx_r 1], t286, n, 0)) rfl (fun _ => rfl) rfl ?_
      have hT202 := cT_keep (t' := t286) hT (fun c i h => (e286 c i (by first | decide | omega)).trans ((e271 c i (by first | decide | omega)).trans ((e256 c i (by first | decide | omega)).trans ((e115 c i (by first | decide | omega)).trans (e101 c i (by first | decide | omega))))))
      obtain ⟨_, r301, t301, a301, f301, rfl, s301, e301, z301, q301⟩ := pc_takeWord (d + 1) n (s286) hT202 (by first | decide | omega) (w := 10) (by first | decide | omega)
      have b301 := s301.2.2.2
      have y301 := z301.trans (congrArg (fw S m N 10) y286)
      refine gx_callo (a := 1) rfl rfl s286.1 rfl rfl rfl r301 rfl ?_
      have k203 : ai_hv t301 191 0 = some (.inl (σ 0 0)) := (e301 191 0 (by first | decide | omega)).trans k188
      have k204 : ai_hv t301 191 1 = some (.inl (σ 1 0)) := (e301 191 1 (by first | decide | omega)).trans k189
      have k205 : ai_hv t301 194 5 = some (.inl (σ 2 0)) := (e301 194 5 (by first | decide | omega)).trans k190
      have k206 : ai_hv t301 200 5 = some (.inl (σ 3 0)) := (e301 200 5 (by first | decide | omega)).trans k191
      have k207 : ai_hv t301 206 5 = some (.inl (σ 4 0)) := (e301 206 5 (by first | decide | omega)).trans k192
      have k208 : ai_hv t301 212 5 = some (.inl (σ 5 0)) := (e301 212 5 (by first | decide | omega)).trans k193
      have k209 : ai_hv t301 218 5 = some (.inl (σ 6 0)) := (e301 218 5 (by first | decide | omega)).trans k194
      have k210 : ai_hv t301 224 5 = some (.inl (σ 7 0)) := (e301 224 5 (by first | decide | omega)).trans k195
      have k211 : ai_hv t301 7 4 = some (.inl (σ 8 0)) := (e301 7 4 (by first | decide | omega)).trans k196
      have k212 : ai_hv t301 7 5 = some (.inl (σ 9 0)) := (e301 7 5 (by first | decide | omega)).trans k197
      have k213 : ai_hv t301 7 6 = some (.inl (σ 9 1)) := (e301 7 6 (by first | decide | omega)).trans k198
      have k214 : ai_hv t301 7 7 = some (.inl (σ 9 2)) := (e301 7 7 (by first | decide | omega)).trans k199
      have k215 : ai_hv t301 7 1 = some (gx_r 191) := (e301 7 1 (by first | decide | omega)).trans k200
      show en_ex _ _ _ _ (103, [(4, .inl v286), (3, .inl b31), (1, .inr (.inl v115)), (0, gx_r 7)], [], t301, n, 0) _
      refine ex_go (S := (104, [(4, .inl v286), (3, .inl b31), (1, .inr (.inl v115)), (0, gx_r 7)], [gx_r 7], t301, n, 0)) rfl (fun _ => rfl) rfl ?_
      refine gxo_ref (a := 7) (c := 1) rfl s301.1 rfl rfl rfl rfl rfl ?_
      refine ex_go (S := (108, [(4, .inl v286), (3, .inl b31), (1, .inr (.inl v115)), (0, gx_r 7)], [.inl 0, gx_r 1], t301, n, 0)) rfl (fun _ => rfl) rfl ?_
      refine ex_go (S := (111, [(4, .inl v286), (3, .inl b31), (1, .inr (.inl v115)), (0, gx_r 7)], [.inl 9999, .inl 0, gx_r 1], t301, n, 0)) rfl (fun _ => rfl) rfl ?_
      have hT217 := cT_keep (t' := t301) hT (fun c i h => (e301 c i (by first | decide | omega)).trans ((e286 c i (by first | decide | omega)).trans ((e271 c i (by first | decide | omega)).trans ((e256 c i (by first | decide | omega)).trans ((e115 c i (by first | decide | omega)).trans (e101 c i (by first | decide | omega)))))))
      obtain ⟨_, r316, v316, t316, a316, f316, rfl, s316, e316, z316, q316⟩ := pc_takeNumber (d + 1) n (s301) hT217 (by first | decide | omega) (lo := 0) (hi := 9999) (by first | decide | omega) (by first | decide | omega) (by first | decide | omega)
      have b316 := s316.2.2.2
      have y316 := z316.trans (congrArg (fn S m N 0 9999) y301)
      refine gx_callo (a := 1) rfl rfl s301.1 rfl rfl rfl r316 rfl ?_
      have k218 : ai_hv t316 191 0 = some (.inl (σ 0 0)) := (e316 191 0 (by first | decide | omega)).trans k203
      have k219 : ai_hv t316 191 1 = some (.inl (σ 1 0)) := (e316 191 1 (by first | decide | omega)).trans k204
      have k220 : ai_hv t316 194 5 = some (.inl (σ 2 0)) := (e316 194 5 (by first | decide | omega)).trans k205
      have k221 : ai_hv t316 200 5 = some (.inl (σ 3 0)) := (e316 200 5 (by first | decide | omega)).trans k206
      have k222 : ai_hv t316 206 5 = some (.inl (σ 4 0)) := (e316 206 5 (by first | decide | omega)).trans k207
      have k223 : ai_hv t316 212 5 = some (.inl (σ 5 0)) := (e316 212 5 (by first | decide | omega)).trans k208
      have k224 : ai_hv t316 218 5 = some (.inl (σ 6 0)) := (e316 218 5 (by first | decide | omega)).trans k209
      have k225 : ai_hv t316 224 5 = some (.inl (σ 7 0)) := (e316 224 5 (by first | decide | omega)).trans k210
      have k226 : ai_hv t316 7 4 = some (.inl (σ 8 0)) := (e316 7 4 (by first | decide | omega)).trans k211
      have k227 : ai_hv t316 7 5 = some (.inl (σ 9 0)) := (e316 7 5 (by first | decide | omega)).trans k212
      have k228 : ai_hv t316 7 6 = some (.inl (σ 9 1)) := (e316 7 6 (by first | decide | omega)).trans k213
      have k229 : ai_hv t316 7 7 = some (.inl (σ 9 2)) := (e316 7 7 (by first | decide | omega)).trans k214
      have k230 : ai_hv t316 7 1 = some (gx_r 191) := (e316 7 1 (by first | decide | omega)).trans k215
      show en_ex _ _ _ _ (114, [(4, .inl v286), (3, .inl b31), (1, .inr (.inl v115)), (0, gx_r 7)], [.inl v316], t316, n, 0) _
      refine ex_go (S := (116, [(5, .inl v316), (4, .inl v286), (3, .inl b31), (1, .inr (.inl v115)), (0, gx_r 7)], [], t316, n, 0)) rfl (fun _ => rfl) rfl ?_
      refine ex_go (S := (117, [(5, .inl v316), (4, .inl v286), (3, .inl b31), (1, .inr (.inl v115)), (0, gx_r 7)], [gx_r 7], t316, n, 0)) rfl (fun _ => rfl) rfl ?_
      refine ex_go (S := (118, [(5, .inl v316), (4, .inl v286), (3, .inl b31), (1, .inr (.inl v115)), (0, gx_r 7)], [gx_r 7, gx_r 7], t316, n, 0)) rfl (fun _ => rfl) rfl ?_
      refine gxo_get (a := 7) rfl s316.1 rfl rfl k230 rfl ?_
      refine gxo_ref (a := 191) (c := 206) rfl s316.1 rfl rfl rfl rfl rfl ?_
      refine ex_go (S := (125, [(5, .inl v316), (4, .inl v286), (3, .inl b31), (1, .inr (.inl v115)), (0, gx_r 7)], [.inr (.inl v115), gx_r 206, gx_r 7], t316, n, 0)) rfl (fun _ => rfl) rfl ?_
      refine ex_go (S := (126, [(5, .inl v316), (4, .inl v286), (3, .inl b31), (1, .inr (.inl v115)), (0, gx_r 7)], [.inl b31, .inr (.inl v115), gx_r 206, gx_r 7], t316, n, 0)) rfl (fun _ => rfl) rfl ?_
      refine ex_go (S := (128, [(5, .inl v316), (4, .inl v286), (3, .inl b31), (1, .inr (.inl v115)), (0, gx_r 7)], [.inl v286, .inl b31, .inr (.inl v115), gx_r 206, gx_r 7], t316, n, 0)) rfl (fun _ => rfl) rfl ?_
      refine ex_go (S := (130, [(5, .inl v316), (4, .inl v286), (3, .inl b31), (1, .inr (.inl v115)), (0, gx_r 7)], [.inl v316, .inl v286, .inl b31, .inr (.inl v115), gx_r 206, gx_r 7], t316, n, 0)) rfl (fun _ => rfl) rfl ?_
      refine ex_go (S := (131, [(5, .inl v316), (4, .inl v286), (3, .inl b31), (1, .inr (.inl v115)), (0, gx_r 7)], [.inl 0, .inl v316, .inl v286, .inl b31, .inr (.inl v115), gx_r 206, gx_r 7], t316, n, 0)) rfl (fun _ => rfl) rfl ?_
      have hT232 := cT_keep (t' := t316) hT (fun c i h => (e316 c i (by first | decide | omega)).trans ((e301 c i (by first | decide | omega)).trans ((e286 c i (by first | decide | omega)).trans ((e271 c i (by first | decide | omega)).trans ((e256 c i (by first | decide | omega)).trans ((e115 c i (by first | decide | omega)).trans (e101 c i (by first | decide | omega))))))))
      obtain ⟨_, r331, t331, a331, f331, rfl, s331, e331, z331, q331, u331⟩ := pc_endRow206 (d) n (s316) hT232 (by first | decide | omega) (x := v115) (y1 := b31) (y2 := v286) (y3 := v316) (y4 := 0) k222 (fun h0 => by omega)
      have b331 := s331.2.2.2
      have y331 := z331.trans (congrArg (fs S m N 59) y316)
      refine gx_callo (a := 7) rfl rfl s316.1 rfl rfl rfl r331 rfl ?_
      have k233 : ai_hv t331 191 0 = some (.inl (σ 0 0)) := (e331 191 0 (by first | decide | omega)).trans k218
      have k234 : ai_hv t331 191 1 = some (.inl (σ 1 0)) := (e331 191 1 (by first | decide | omega)).trans k219
      have k235 : ai_hv t331 194 5 = some (.inl (σ 2 0)) := (e331 194 5 (by first | decide | omega)).trans k220
      have k236 : ai_hv t331 200 5 = some (.inl (σ 3 0)) := (e331 200 5 (by first | decide | omega)).trans k221
      have k237 : ai_hv t331 212 5 = some (.inl (σ 5 0)) := (e331 212 5 (by first | decide | omega)).trans k223
      have k238 : ai_hv t331 218 5 = some (.inl (σ 6 0)) := (e331 218 5 (by first | decide | omega)).trans k224
      have k239 : ai_hv t331 224 5 = some (.inl (σ 7 0)) := (e331 224 5 (by first | decide | omega)).trans k225
      have k240 : ai_hv t331 7 4 = some (.inl (σ 8 0)) := (e331 7 4 (by first | decide | omega)).trans k226
      have k241 : ai_hv t331 7 5 = some (.inl (σ 9 0)) := (e331 7 5 (by first | decide | omega)).trans k227
      have k242 : ai_hv t331 7 6 = some (.inl (σ 9 1)) := (e331 7 6 (by first | decide | omega)).trans k228
      have k243 : ai_hv t331 7 7 = some (.inl (σ 9 2)) := (e331 7 7 (by first | decide | omega)).trans k229
      have k244 : ai_hv t331 7 1 = some (gx_r 191) := (e331 7 1 (by first | decide | omega)).trans k230
      show en_ex _ _ _ _ (134, [(5, .inl v316), (4, .inl v286), (3, .inl b31), (1, .inr (.inl v115)), (0, gx_r 7)], [], t331, n, 0) _
      refine ex_ret (r := (none, t331, n, 0)) rfl (fun _ => rfl) ?_
      have hT245 := cT_keep (t' := t331) hT (fun c i h => (e331 c i (by first | decide | omega)).trans ((e316 c i (by first | decide | omega)).trans ((e301 c i (by first | decide | omega)).trans ((e286 c i (by first | decide | omega)).trans ((e271 c i (by first | decide | omega)).trans ((e256 c i (by first | decide | omega)).trans ((e115 c i (by first | decide | omega)).trans (e101 c i (by first | decide | omega)))))))))
      refine ⟨_, rfl, t331, a331, f331, rfl, s331, hT245, k244, (fun c i h => (e331 c i (by first | decide | omega)).trans ((e316 c i (by first | decide | omega)).trans ((e301 c i (by first | decide | omega)).trans ((e286 c i (by first | decide | omega)).trans ((e271 c i (by first | decide | omega)).trans ((e256 c i (by first | decide | omega)).trans ((e115 c i (by first | decide | omega)).trans (e101 c i (by first | decide | omega))))))))), y331, by omega, fun h0 => ⟨by omega, ?_⟩⟩
      obtain ⟨u1, u2, u3, u4, u5, u6⟩ := u331 h0
      have hf0 : f101 = 0 := by omega
      have hg : σ 14 (sg_k S m σ (a + 1)) = b31 := by
        rcases q115.2.2 hf0 with ⟨hn, w1, w2, w3⟩ | ⟨hn, w1⟩
        · have hsh := c_ship h3 hn.1
          rw [← w2] at hsh
          obtain ⟨g1, g2⟩ := hsh.1 hsa
          rw [← hsc, show a101 = a + 1 by omega] at g2
          exact g2
        · omega
      rw [← hg] at u3
      have hnw : v115 = sp_wv S m (a + 1) := by
        rcases q115.2.2 hf0 with ⟨hn, w1, w2, w3⟩ | ⟨hn, w1⟩
        · rw [← show a101 = a + 1 by omega]; exact w2
        · omega
      rw [hnw] at u2
      have hq246 : v286 = sp_nv S m (a + 3) := by rw [← show a271 = a + 3 by omega]; omega
      rw [hq246] at u4
      have hq247 : v316 = sp_nv S m (a + 5) := by rw [← show a301 = a + 5 by omega]; omega
      rw [hq247] at u5
      have xc248 : ∀ i, i < σ 2 0 → ai_hv t331 197 i = some (.inl (sp_nv S m (σ 16 i + 3) + 8 * sp_nv S m (σ 16 i + 4))) := fun i hi => ((e331 197 i (by first | decide | omega)).trans ((e316 197 i (by first | decide | omega)).trans ((e301 197 i (by first | decide | omega)).trans ((e286 197 i (by first | decide | omega)).trans ((e271 197 i (by first | decide | omega)).trans ((e256 197 i (by first | decide | omega)).trans ((e115 197 i (by first | decide | omega)).trans (e101 197 i (by first | decide | omega))))))))).trans (gcb0 i hi)
      have xc249 : ∀ i, i < σ 4 0 → ai_hv t331 207 i = some (.inr (.inl (sp_wv S m (σ 21 i + 1)))) := fun i hi => ((e331 207 i (by first | decide | omega)).trans ((e316 207 i (by first | decide | omega)).trans ((e301 207 i (by first | decide | omega)).trans ((e286 207 i (by first | decide | omega)).trans ((e271 207 i (by first | decide | omega)).trans ((e256 207 i (by first | decide | omega)).trans ((e115 207 i (by first | decide | omega)).trans (e101 207 i (by first | decide | omega))))))))).trans (gcb1 i hi)
      have xc250 : ∀ i, i < σ 3 0 → ai_hv t331 203 i = some (.inl (sp_nv S m (σ 20 i + 4))) := fun i hi => ((e331 203 i (by first | decide | omega)).trans ((e316 203 i (by first | decide | omega)).trans ((e301 203 i (by first | decide | omega)).trans ((e286 203 i (by first | decide | omega)).trans ((e271 203 i (by first | decide | omega)).trans ((e256 203 i (by first | decide | omega)).trans ((e115 203 i (by first | decide | omega)).trans (e101 203 i (by first | decide | omega))))))))).trans (gcb2 i hi)
      have xc251 : ∀ i, i < σ 3 0 → ai_hv t331 204 i = some (.inl (sp_nv S m (σ 20 i + 6))) := fun i hi => ((e331 204 i (by first | decide | omega)).trans ((e316 204 i (by first | decide | omega)).trans ((e301 204 i (by first | decide | omega)).trans ((e286 204 i (by first | decide | omega)).trans ((e271 204 i (by first | decide | omega)).trans ((e256 204 i (by first | decide | omega)).trans ((e115 204 i (by first | decide | omega)).trans (e101 204 i (by first | decide | omega))))))))).trans (gcb3 i hi)
      have xc252 : ∀ i, i < σ 3 0 → ai_hv t331 205 i = some (.inl (sp_nv S m (σ 20 i + 8))) := fun i hi => ((e331 205 i (by first | decide | omega)).trans ((e316 205 i (by first | decide | omega)).trans ((e301 205 i (by first | decide | omega)).trans ((e286 205 i (by first | decide | omega)).trans ((e271 205 i (by first | decide | omega)).trans ((e256 205 i (by first | decide | omega)).trans ((e115 205 i (by first | decide | omega)).trans (e101 205 i (by first | decide | omega))))))))).trans (gcb4 i hi)
      have xc253 : ∀ i, i < σ 4 0 → ai_hv t331 209 i = some (.inl (sp_nv S m (σ 21 i + 3))) := fun i hi => ((e331 209 i (by first | decide | omega)).trans ((e316 209 i (by first | decide | omega)).trans ((e301 209 i (by first | decide | omega)).trans ((e286 209 i (by first | decide | omega)).trans ((e271 209 i (by first | decide | omega)).trans ((e256 209 i (by first | decide | omega)).trans ((e115 209 i (by first | decide | omega)).trans (e101 209 i (by first | decide | omega))))))))).trans (gcb5 i hi)
      have xc254 : ∀ i, i < σ 4 0 → ai_hv t331 210 i = some (.inl (sp_nv S m (σ 21 i + 5))) := fun i hi => ((e331 210 i (by first | decide | omega)).trans ((e316 210 i (by first | decide | omega)).trans ((e301 210 i (by first | decide | omega)).trans ((e286 210 i (by first | decide | omega)).trans ((e271 210 i (by first | decide | omega)).trans ((e256 210 i (by first | decide | omega)).trans ((e115 210 i (by first | decide | omega)).trans (e101 210 i (by first | decide | omega))))))))).trans (gcb6 i hi)
      have xc255 : ∀ i, i < σ 5 0 → ai_hv t331 214 i = some (.inl (sp_nv S m (σ 17 i + 2))) := fun i hi => ((e331 214 i (by first | decide | omega)).trans ((e316 214 i (by first | decide | omega)).trans ((e301 214 i (by first | decide | omega)).trans ((e286 214 i (by first | decide | omega)).trans ((e271 214 i (by first | decide | omega)).trans ((e256 214 i (by first | decide | omega)).trans ((e115 214 i (by first | decide | omega)).trans (e101 214 i (by first | decide | omega))))))))).trans (gcb7 i hi)
      have xc256 : ∀ i, i < σ 5 0 → ai_hv t331 215 i = some (.inl (sp_nv S m (σ 17 i + 4))) := fun i hi => ((e331 215 i (by first | decide | omega)).trans ((e316 215 i (by first | decide | omega)).trans ((e301 215 i (by first | decide | omega)).trans ((e286 215 i (by first | decide | omega)).trans ((e271 215 i (by first | decide | omega)).trans ((e256 215 i (by first | decide | omega)).trans ((e115 215 i (by first | decide | omega)).trans (e101 215 i (by first | decide | omega))))))))).trans (gcb8 i hi)
      have xc257 : ∀ i, i < σ 6 0 → ai_hv t331 220 i = some (.inl (sp_nv S m (σ 18 i + 2))) := fun i hi => ((e331 220 i (by first | decide | omega)).trans ((e316 220 i (by first | decide | omega)).trans ((e301 220 i (by first | decide | omega)).trans ((e286 220 i (by first | decide | omega)).trans ((e271 220 i (by first | decide | omega)).trans ((e256 220 i (by first | decide | omega)).trans ((e115 220 i (by first | decide | omega)).trans (e101 220 i (by first | decide | omega))))))))).trans (gcb9 i hi)
      have xc258 : ∀ i, i < σ 7 0 → ai_hv t331 226 i = some (.inl (sp_nv S m (σ 19 i + 2))) := fun i hi => ((e331 226 i (by first | decide | omega)).trans ((e316 226 i (by first | decide | omega)).trans ((e301 226 i (by first | decide | omega)).trans ((e286 226 i (by first | decide | omega)).trans ((e271 226 i (by first | decide | omega)).trans ((e256 226 i (by first | decide | omega)).trans ((e115 226 i (by first | decide | omega)).trans (e101 226 i (by first | decide | omega))))))))).trans (gcb10 i hi)
      have xc259 : ∀ i, i < σ 7 0 → ai_hv t331 227 i = some (.inl (sp_nv S m (σ 19 i + 4))) := fun i hi => ((e331 227 i (by first | decide | omega)).trans ((e316 227 i (by first | decide | omega)).trans ((e301 227 i (by first | decide | omega)).trans ((e286 227 i (by first | decide | omega)).trans ((e271 227 i (by first | decide | omega)).trans ((e256 227 i (by first | decide | omega)).trans ((e115 227 i (by first | decide | omega)).trans (e101 227 i (by first | decide | omega))))))))).trans (gcb11 i hi)
      have xc260 : ∀ j, j < 64 → ai_hv t331 192 j = some (.inl (σ 23 j)) := fun j hj => ((e331 192 j (by first | decide | omega)).trans ((e316 192 j (by first | decide | omega)).trans ((e301 192 j (by first | decide | omega)).trans ((e286 192 j (by first | decide | omega)).trans ((e271 192 j (by first | decide | omega)).trans ((e256 192 j (by first | decide | omega)).trans ((e115 192 j (by first | decide | omega)).trans (e101 192 j (by first | decide | omega))))))))).trans (gcb13 j hj)
      exact ⟨⟨k233, k234, k235, k236, u1, k237, k238, k239, k240, k241, k242, k243⟩, (fun i hi => ⟨((fun i hi => ((e331 195 i (by first | decide | omega)).trans ((e316 195 i (by first | decide | omega)).trans ((e301 195 i (by first | decide | omega)).trans ((e286 195 i (by first | decide | omega)).trans ((e271 195 i (by first | decide | omega)).trans ((e256 195 i (by first | decide | omega)).trans ((e115 195 i (by first | decide | omega)).trans (e101 195 i (by first | decide | omega))))))))).trans (hAt i hi).1)) i hi, ((fun i hi => ((e331 196 i (by first | decide | omega)).trans ((e316 196 i (by first | decide | omega)).trans ((e301 196 i (by first | decide | omega)).trans ((e286 196 i (by first | decide | omega)).trans ((e271 196 i (by first | decide | omega)).trans ((e256 196 i (by first | decide | omega)).trans ((e115 196 i (by first | decide | omega)).trans (e101 196 i (by first | decide | omega))))))))).trans (hAt i hi).2)) i hi⟩), (fun i hi => ((e331 202 i (by first | decide | omega)).trans ((e316 202 i (by first | decide | omega)).trans ((e301 202 i (by first | decide | omega)).trans ((e286 202 i (by first | decide | omega)).trans ((e271 202 i (by first | decide | omega)).trans ((e256 202 i (by first | decide | omega)).trans ((e115 202 i (by first | decide | omega)).trans (e101 202 i (by first | decide | omega))))))))).trans (hAl i hi)), (ci_up (g := σ 12) (fun i hi => ((e331 208 i (by first | decide | omega)).trans ((e316 208 i (by first | decide | omega)).trans ((e301 208 i (by first | decide | omega)).trans ((e286 208 i (by first | decide | omega)).trans ((e271 208 i (by first | decide | omega)).trans ((e256 208 i (by first | decide | omega)).trans ((e115 208 i (by first | decide | omega)).trans (e101 208 i (by first | decide | omega))))))))).trans (hAc i hi)) u3), (fun i hi => ((e331 213 i (by first | decide | omega)).trans ((e316 213 i (by first | decide | omega)).trans ((e301 213 i (by first | decide | omega)).trans ((e286 213 i (by first | decide | omega)).trans ((e271 213 i (by first | decide | omega)).trans ((e256 213 i (by first | decide | omega)).trans ((e115 213 i (by first | decide | omega)).trans (e101 213 i (by first | decide | omega))))))))).trans (hAg i hi)), (fun i hi => ((e331 219 i (by first | decide | omega)).trans ((e316 219 i (by first | decide | omega)).trans ((e301 219 i (by first | decide | omega)).trans ((e286 219 i (by first | decide | omega)).trans ((e271 219 i (by first | decide | omega)).trans ((e256 219 i (by first | decide | omega)).trans ((e115 219 i (by first | decide | omega)).trans (e101 219 i (by first | decide | omega))))))))).trans (hAs i hi)), (fun i hi => ((e331 225 i (by first | decide | omega)).trans ((e316 225 i (by first | decide | omega)).trans ((e301 225 i (by first | decide | omega)).trans ((e286 225 i (by first | decide | omega)).trans ((e271 225 i (by first | decide | omega)).trans ((e256 225 i (by first | decide | omega)).trans ((e115 225 i (by first | decide | omega)).trans (e101 225 i (by first | decide | omega))))))))).trans (hAo i hi)), xc248, cn_up (g := σ 21) xc249 u2, xc250, xc251, xc252, ct_up (g := σ 21) xc253 u4, ct_up (g := σ 21) xc254 u5, xc255, xc256, xc257, xc258, xc259, ((e331 191 2 (by first | decide | omega)).trans ((e316 191 2 (by first | decide | omega)).trans ((e301 191 2 (by first | decide | omega)).trans ((e286 191 2 (by first | decide | omega)).trans ((e271 191 2 (by first | decide | omega)).trans ((e256 191 2 (by first | decide | omega)).trans ((e115 191 2 (by first | decide | omega)).trans (e101 191 2 (by first | decide | omega))))))))).trans gcb12, xc260⟩
  · subst hsc
    refine gx_callo (a := 191) rfl rfl s115.1 rfl rfl rfl r30 rfl ?_
    show en_ex _ _ _ _ (27, [(1, .inr (.inl v115)), (0, gx_r 7)], [.inl 4294967295], t115, n, 0) _
    refine ex_go (S := (28, [(3, .inl 4294967295), (1, .inr (.inl v115)), (0, gx_r 7)], [], t115, n, 0)) rfl (fun _ => rfl) rfl ?_
    refine ex_go (S := (29, [(3, .inl 4294967295), (1, .inr (.inl v115)), (0, gx_r 7)], [.inl 4294967295], t115, n, 0)) rfl (fun _ => rfl) rfl ?_
    refine ex_go (S := (30, [(3, .inl 4294967295), (1, .inr (.inl v115)), (0, gx_r 7)], [.inl 4294967295, .inl 4294967295], t115, n, 0)) rfl (fun _ => rfl) rfl ?_
    refine ex_go (S := (33, [(3, .inl 4294967295), (1, .inr (.inl v115)), (0, gx_r 7)], [], t115, n, 0)) rfl (fun _ => rfl) rfl ?_
    refine ex_go (S := (34, [(3, .inl 4294967295), (1, .inr (.inl v115)), (0, gx_r 7)], [gx_r 7], t115, n, 0)) rfl (fun _ => rfl) rfl ?_
    refine gxo_ref (a := 7) (c := 1) rfl s115.1 rfl rfl rfl rfl rfl ?_
    refine ex_go (S := (38, [(3, .inl 4294967295), (1, .inr (.inl v115)), (0, gx_r 7)], [.inl 2, gx_r 1], t115, n, 0)) rfl (fun _ => rfl) rfl ?_
    have hT262 := cT_keep (t' := t115) hT (fun c i h => (e115 c i (by first | decide | omega)).trans (e101 c i (by first | decide | omega)))
    obtain ⟨_, r361, t361, a361, f361, rfl, s361, e361, q361⟩ := pc_wrong (d + 2) n (s115) hT262 (by first | decide | omega) (w := 2) (by first | decide | omega)
    have b361 := s361.2.2.2
    refine gx_callo (a := 1) rfl rfl s115.1 rfl rfl rfl r361 rfl ?_
    have k263 : ai_hv t361 191 0 = some (.inl (σ 0 0)) := (e361 191 0 (by first | decide | omega)).trans k17
    have k264 : ai_hv t361 191 1 = some (.inl (σ 1 0)) := (e361 191 1 (by first | decide | omega)).trans k18
    have k265 : ai_hv t361 194 5 = some (.inl (σ 2 0)) := (e361 194 5 (by first | decide | omega)).trans k19
    have k266 : ai_hv t361 200 5 = some (.inl (σ 3 0)) := (e361 200 5 (by first | decide | omega)).trans k20
    have k267 : ai_hv t361 206 5 = some (.inl (σ 4 0)) := (e361 206 5 (by first | decide | omega)).trans k21
    have k268 : ai_hv t361 212 5 = some (.inl (σ 5 0)) := (e361 212 5 (by first | decide | omega)).trans k22
    have k269 : ai_hv t361 218 5 = some (.inl (σ 6 0)) := (e361 218 5 (by first | decide | omega)).trans k23
    have k270 : ai_hv t361 224 5 = some (.inl (σ 7 0)) := (e361 224 5 (by first | decide | omega)).trans k24
    have k271 : ai_hv t361 7 4 = some (.inl (σ 8 0)) := (e361 7 4 (by first | decide | omega)).trans k25
    have k272 : ai_hv t361 7 5 = some (.inl (σ 9 0)) := (e361 7 5 (by first | decide | omega)).trans k26
    have k273 : ai_hv t361 7 6 = some (.inl (σ 9 1)) := (e361 7 6 (by first | decide | omega)).trans k27
    have k274 : ai_hv t361 7 7 = some (.inl (σ 9 2)) := (e361 7 7 (by first | decide | omega)).trans k28
    have k275 : ai_hv t361 7 1 = some (gx_r 191) := (e361 7 1 (by first | decide | omega)).trans k29
    show en_ex _ _ _ _ (41, [(3, .inl 4294967295), (1, .inr (.inl v115)), (0, gx_r 7)], [], t361, n, 0) _
    refine ex_go (S := (64, [(3, .inl 4294967295), (1, .inr (.inl v115)), (0, gx_r 7)], [], t361, n, 0)) rfl (fun _ => rfl) rfl ?_
    refine ex_go (S := (65, [(3, .inl 4294967295), (1, .inr (.inl v115)), (0, gx_r 7)], [gx_r 7], t361, n, 0)) rfl (fun _ => rfl) rfl ?_
    refine gxo_ref (a := 7) (c := 1) rfl s361.1 rfl rfl rfl rfl rfl ?_
    have hT277 := cT_keep (t' := t361) hT (fun c i h => (e361 c i (by first | decide | omega)).trans ((e115 c i (by first | decide | omega)).trans (e101 c i (by first | decide | omega))))
    obtain ⟨_, r376, t376, a376, f376, rfl, s376, e376, q376⟩ := pc_goOn (d + 2) n (s361) hT277 (by first | decide | omega) 
    have b376 := s376.2.2.2
    refine gx_callo (a := 1) rfl rfl s361.1 rfl rfl rfl r376 rfl ?_
    have k278 : ai_hv t376 191 0 = some (.inl (σ 0 0)) := (e376 191 0 (by first | decide | omega)).trans k263
    have k279 : ai_hv t376 191 1 = some (.inl (σ 1 0)) := (e376 191 1 (by first | decide | omega)).trans k264
    have k280 : ai_hv t376 194 5 = some (.inl (σ 2 0)) := (e376 194 5 (by first | decide | omega)).trans k265
    have k281 : ai_hv t376 200 5 = some (.inl (σ 3 0)) := (e376 200 5 (by first | decide | omega)).trans k266
    have k282 : ai_hv t376 206 5 = some (.inl (σ 4 0)) := (e376 206 5 (by first | decide | omega)).trans k267
    have k283 : ai_hv t376 212 5 = some (.inl (σ 5 0)) := (e376 212 5 (by first | decide | omega)).trans k268
    have k284 : ai_hv t376 218 5 = some (.inl (σ 6 0)) := (e376 218 5 (by first | decide | omega)).trans k269
    have k285 : ai_hv t376 224 5 = some (.inl (σ 7 0)) := (e376 224 5 (by first | decide | omega)).trans k270
    have k286 : ai_hv t376 7 4 = some (.inl (σ 8 0)) := (e376 7 4 (by first | decide | omega)).trans k271
    have k287 : ai_hv t376 7 5 = some (.inl (σ 9 0)) := (e376 7 5 (by first | decide | omega)).trans k272
    have k288 : ai_hv t376 7 6 = some (.inl (σ 9 1)) := (e376 7 6 (by first | decide | omega)).trans k273
    have k289 : ai_hv t376 7 7 = some (.inl (σ 9 2)) := (e376 7 7 (by first | decide | omega)).trans k274
    have k290 : ai_hv t376 7 1 = some (gx_r 191) := (e376 7 1 (by first | decide | omega)).trans k275
    show en_ex _ _ _ _ (71, [(3, .inl 4294967295), (1, .inr (.inl v115)), (0, gx_r 7)], [], t376, n, 0) _
    have yy : (a376, f376) = fc S m N (sg_ship S m σ) (sg_crew S m σ) (a101, f101) := by
      by_cases h0 : f101 = 0
      · rcases q115.2.2 h0 with ⟨hn, w1, w2, w3⟩ | ⟨hn, w1⟩
        · have hsh := c_ship h3 hn.1
          rw [← w2] at hsh
          have hns : ¬ sg_ship S m σ a101 := fun z => by
            by_cases hz : c_fi S m (σ 16) v115 (σ 2 0) < σ 2 0
            · have h9 := (hsh.1 hz).2
              have z2 := z.2.2
              rw [h9] at z2
              exact hsa ⟨hz, z2⟩
            · have h9 := hsh.2 hz z.1
              have z2 := z.2.1
              omega
          rw [h0, fc_2 hn hns]; exact Prod.ext (by show a376 = a101; omega) (by show f376 = 2 + 16 * sp_st S m a101; rw [show a101 = a115 by omega]; omega)
        · rw [h0, fc_1 hn]; exact Prod.ext (by show a376 = a101; omega) (by show f376 = 1 + 16 * sp_st S m a101; omega)
      · rw [fc_no h0]; exact Prod.ext (by show a376 = a101; omega) (by show f376 = f101; omega)
    have ye := yy.trans (congrArg (fc S m N (sg_ship S m σ) (sg_crew S m σ)) y101)
    refine ex_go (S := (72, [(3, .inl 4294967295), (1, .inr (.inl v115)), (0, gx_r 7)], [gx_r 7], t376, n, 0)) rfl (fun _ => rfl) rfl ?_
    refine gxo_ref (a := 7) (c := 1) rfl s376.1 rfl rfl rfl rfl rfl ?_
    refine ex_go (S := (78, [(3, .inl 4294967295), (1, .inr (.inl v115)), (0, gx_r 7)], [gx_w 9, gx_r 1], t376, n, 0)) rfl (fun _ => rfl) rfl ?_
    have hT292 := cT_keep (t' := t376) hT (fun c i h => (e376 c i (by first | decide | omega)).trans ((e361 c i (by first | decide | omega)).trans ((e115 c i (by first | decide | omega)).trans (e101 c i (by first | decide | omega)))))
    obtain ⟨_, r391, t391, a391, f391, rfl, s391, e391, z391, q391⟩ := pc_takeWord (d + 1) n (s376) hT292 (by first | decide | omega) (w := 9) (by first | decide | omega)
    have b391 := s391.2.2.2
    have y391 := z391.trans (congrArg (fw S m N 9) ye)
    refine gx_callo (a := 1) rfl rfl s376.1 rfl rfl rfl r391 rfl ?_
    have k293 : ai_hv t391 191 0 = some (.inl (σ 0 0)) := (e391 191 0 (by first | decide | omega)).trans k278
    have k294 : ai_hv t391 191 1 = some (.inl (σ 1 0)) := (e391 191 1 (by first | decide | omega)).trans k279
    have k295 : ai_hv t391 194 5 = some (.inl (σ 2 0)) := (e391 194 5 (by first | decide | omega)).trans k280
    have k296 : ai_hv t391 200 5 = some (.inl (σ 3 0)) := (e391 200 5 (by first | decide | omega)).trans k281
    have k297 : ai_hv t391 206 5 = some (.inl (σ 4 0)) := (e391 206 5 (by first | decide | omega)).trans k282
    have k298 : ai_hv t391 212 5 = some (.inl (σ 5 0)) := (e391 212 5 (by first | decide | omega)).trans k283
    have k299 : ai_hv t391 218 5 = some (.inl (σ 6 0)) := (e391 218 5 (by first | decide | omega)).trans k284
    have k300 : ai_hv t391 224 5 = some (.inl (σ 7 0)) := (e391 224 5 (by first | decide | omega)).trans k285
    have k301 : ai_hv t391 7 4 = some (.inl (σ 8 0)) := (e391 7 4 (by first | decide | omega)).trans k286
    have k302 : ai_hv t391 7 5 = some (.inl (σ 9 0)) := (e391 7 5 (by first | decide | omega)).trans k287
    have k303 : ai_hv t391 7 6 = some (.inl (σ 9 1)) := (e391 7 6 (by first | decide | omega)).trans k288
    have k304 : ai_hv t391 7 7 = some (.inl (σ 9 2)) := (e391 7 7 (by first | decide | omega)).trans k289
    have k305 : ai_hv t391 7 1 = some (gx_r 191) := (e391 7 1 (by first | decide | omega)).trans k290
    show en_ex _ _ _ _ (81, [(3, .inl 4294967295), (1, .inr (.inl v115)), (0, gx_r 7)], [], t391, n, 0) _
    refine ex_go (S := (82, [(3, .inl 4294967295), (1, .inr (.inl v115)), (0, gx_r 7)], [gx_r 7], t391, n, 0)) rfl (fun _ => rfl) rfl ?_
    refine gxo_ref (a := 7) (c := 1) rfl s391.1 rfl rfl rfl rfl rfl ?_
    refine ex_go (S := (86, [(3, .inl 4294967295), (1, .inr (.inl v115)), (0, gx_r 7)], [.inl 1, gx_r 1], t391, n, 0)) rfl (fun _ => rfl) rfl ?_
    refine ex_go (S := (88, [(3, .inl 4294967295), (1, .inr (.inl v115)), (0, gx_r 7)], [.inl 30, .inl 1, gx_r 1], t391, n, 0)) rfl (fun _ => rfl) rfl ?_
    have hT307 := cT_keep (t' := t391) hT (fun c i h => (e391 c i (by first | decide | omega)).trans ((e376 c i (by first | decide | omega)).trans ((e361 c i (by first | decide | omega)).trans ((e115 c i (by first | decide | omega)).trans (e101 c i (by first | decide | omega))))))
    obtain ⟨_, r406, v406, t406, a406, f406, rfl, s406, e406, z406, q406⟩ := pc_takeNumber (d + 1) n (s391) hT307 (by first | decide | omega) (lo := 1) (hi := 30) (by first | decide | omega) (by first | decide | omega) (by first | decide | omega)
    have b406 := s406.2.2.2
    have y406 := z406.trans (congrArg (fn S m N 1 30) y391)
    refine gx_callo (a := 1) rfl rfl s391.1 rfl rfl rfl r406 rfl ?_
    have k308 : ai_hv t406 191 0 = some (.inl (σ 0 0)) := (e406 191 0 (by first | decide | omega)).trans k293
    have k309 : ai_hv t406 191 1 = some (.inl (σ 1 0)) := (e406 191 1 (by first | decide | omega)).trans k294
    have k310 : ai_hv t406 194 5 = some (.inl (σ 2 0)) := (e406 194 5 (by first | decide | omega)).trans k295
    have k311 : ai_hv t406 200 5 = some (.inl (σ 3 0)) := (e406 200 5 (by first | decide | omega)).trans k296
    have k312 : ai_hv t406 206 5 = some (.inl (σ 4 0)) := (e406 206 5 (by first | decide | omega)).trans k297
    have k313 : ai_hv t406 212 5 = some (.inl (σ 5 0)) := (e406 212 5 (by first | decide | omega)).trans k298
    have k314 : ai_hv t406 218 5 = some (.inl (σ 6 0)) := (e406 218 5 (by first | decide | omega)).trans k299
    have k315 : ai_hv t406 224 5 = some (.inl (σ 7 0)) := (e406 224 5 (by first | decide | omega)).trans k300
    have k316 : ai_hv t406 7 4 = some (.inl (σ 8 0)) := (e406 7 4 (by first | decide | omega)).trans k301
    have k317 : ai_hv t406 7 5 = some (.inl (σ 9 0)) := (e406 7 5 (by first | decide | omega)).trans k302
    have k318 : ai_hv t406 7 6 = some (.inl (σ 9 1)) := (e406 7 6 (by first | decide | omega)).trans k303
    have k319 : ai_hv t406 7 7 = some (.inl (σ 9 2)) := (e406 7 7 (by first | decide | omega)).trans k304
    have k320 : ai_hv t406 7 1 = some (gx_r 191) := (e406 7 1 (by first | decide | omega)).trans k305
    show en_ex _ _ _ _ (91, [(3, .inl 4294967295), (1, .inr (.inl v115)), (0, gx_r 7)], [.inl v406], t406, n, 0) _
    refine ex_go (S := (93, [(4, .inl v406), (3, .inl 4294967295), (1, .inr (.inl v115)), (0, gx_r 7)], [], t406, n, 0)) rfl (fun _ => rfl) rfl ?_
    refine ex_go (S := (94, [(4, .inl v406), (3, .inl 4294967295), (1, .inr (.inl v115)), (0, gx_r 7)], [gx_r 7], t406, n, 0)) rfl (fun _ => rfl) rfl ?_
    refine gxo_ref (a := 7) (c := 1) rfl s406.1 rfl rfl rfl rfl rfl ?_
    refine ex_go (S := (100, [(4, .inl v406), (3, .inl 4294967295), (1, .inr (.inl v115)), (0, gx_r 7)], [gx_w 10, gx_r 1], t406, n, 0)) rfl (fun _ => rfl) rfl ?_
    have hT322 := cT_keep (t' := t406) hT (fun c i h => (e406 c i (by first | decide | omega)).trans ((e391 c i (by first | decide | omega)).trans ((e376 c i (by first | decide | omega)).trans ((e361 c i (by first | decide | omega)).trans ((e115 c i (by first | decide | omega)).trans (e101 c i (by first | decide | omega)))))))
    obtain ⟨_, r421, t421, a421, f421, rfl, s421, e421, z421, q421⟩ := pc_takeWord (d + 1) n (s406) hT322 (by first | decide | omega) (w := 10) (by first | decide | omega)
    have b421 := s421.2.2.2
    have y421 := z421.trans (congrArg (fw S m N 10) y406)
    refine gx_callo (a := 1) rfl rfl s406.1 rfl rfl rfl r421 rfl ?_
    have k323 : ai_hv t421 191 0 = some (.inl (σ 0 0)) := (e421 191 0 (by first | decide | omega)).trans k308
    have k324 : ai_hv t421 191 1 = some (.inl (σ 1 0)) := (e421 191 1 (by first | decide | omega)).trans k309
    have k325 : ai_hv t421 194 5 = some (.inl (σ 2 0)) := (e421 194 5 (by first | decide | omega)).trans k310
    have k326 : ai_hv t421 200 5 = some (.inl (σ 3 0)) := (e421 200 5 (by first | decide | omega)).trans k311
    have k327 : ai_hv t421 206 5 = some (.inl (σ 4 0)) := (e421 206 5 (by first | decide | omega)).trans k312
    have k328 : ai_hv t421 212 5 = some (.inl (σ 5 0)) := (e421 212 5 (by first | decide | omega)).trans k313
    have k329 : ai_hv t421 218 5 = some (.inl (σ 6 0)) := (e421 218 5 (by first | decide | omega)).trans k314
    have k330 : ai_hv t421 224 5 = some (.inl (σ 7 0)) := (e421 224 5 (by first | decide | omega)).trans k315
    have k331 : ai_hv t421 7 4 = some (.inl (σ 8 0)) := (e421 7 4 (by first | decide | omega)).trans k316
    have k332 : ai_hv t421 7 5 = some (.inl (σ 9 0)) := (e421 7 5 (by first | decide | omega)).trans k317
    have k333 : ai_hv t421 7 6 = some (.inl (σ 9 1)) := (e421 7 6 (by first | decide | omega)).trans k318
    have k334 : ai_hv t421 7 7 = some (.inl (σ 9 2)) := (e421 7 7 (by first | decide | omega)).trans k319
    have k335 : ai_hv t421 7 1 = some (gx_r 191) := (e421 7 1 (by first | decide | omega)).trans k320
    show en_ex _ _ _ _ (103, [(4, .inl v406), (3, .inl 4294967295), (1, .inr (.inl v115)), (0, gx_r 7)], [], t421, n, 0) _
    refine ex_go (S := (104, [(4, .inl v406), (3, .inl 4294967295), (1, .inr (.inl v115)), (0, gx_r 7)], [gx_r 7], t421, n, 0)) rfl (fun _ => rfl) rfl ?_
    refine gxo_ref (a := 7) (c := 1) rfl s421.1 rfl rfl rfl rfl rfl ?_
    refine ex_go (S := (108, [(4, .inl v406), (3, .inl 4294967295), (1, .inr (.inl v115)), (0, gx_r 7)], [.inl 0, gx_r 1], t421, n, 0)) rfl (fun _ => rfl) rfl ?_
    refine ex_go (S := (111, [(4, .inl v406), (3, .inl 4294967295), (1, .inr (.inl v115)), (0, gx_r 7)], [.inl 9999, .inl 0, gx_r 1], t421, n, 0)) rfl (fun _ => rfl) rfl ?_
    have hT337 := cT_keep (t' := t421) hT (fun c i h => (e421 c i (by first | decide | omega)).trans ((e406 c i (by first | decide | omega)).trans ((e391 c i (by first | decide | omega)).trans ((e376 c i (by first | decide | omega)).trans ((e361 c i (by first | decide | omega)).trans ((e115 c i (by first | decide | omega)).trans (e101 c i (by first | decide | omega))))))))
    obtain ⟨_, r436, v436, t436, a436, f436, rfl, s436, e436, z436, q436⟩ := pc_takeNumber (d + 1) n (s421) hT337 (by first | decide | omega) (lo := 0) (hi := 9999) (by first | decide | omega) (by first | decide | omega) (by first | decide | omega)
    have b436 := s436.2.2.2
    have y436 := z436.trans (congrArg (fn S m N 0 9999) y421)
    refine gx_callo (a := 1) rfl rfl s421.1 rfl rfl rfl r436 rfl ?_
    have k338 : ai_hv t436 191 0 = some (.inl (σ 0 0)) := (e436 191 0 (by first | decide | omega)).trans k323
    have k339 : ai_hv t436 191 1 = some (.inl (σ 1 0)) := (e436 191 1 (by first | decide | omega)).trans k324
    have k340 : ai_hv t436 194 5 = some (.inl (σ 2 0)) := (e436 194 5 (by first | decide | omega)).trans k325
    have k341 : ai_hv t436 200 5 = some (.inl (σ 3 0)) := (e436 200 5 (by first | decide | omega)).trans k326
    have k342 : ai_hv t436 206 5 = some (.inl (σ 4 0)) := (e436 206 5 (by first | decide | omega)).trans k327
    have k343 : ai_hv t436 212 5 = some (.inl (σ 5 0)) := (e436 212 5 (by first | decide | omega)).trans k328
    have k344 : ai_hv t436 218 5 = some (.inl (σ 6 0)) := (e436 218 5 (by first | decide | omega)).trans k329
    have k345 : ai_hv t436 224 5 = some (.inl (σ 7 0)) := (e436 224 5 (by first | decide | omega)).trans k330
    have k346 : ai_hv t436 7 4 = some (.inl (σ 8 0)) := (e436 7 4 (by first | decide | omega)).trans k331
    have k347 : ai_hv t436 7 5 = some (.inl (σ 9 0)) := (e436 7 5 (by first | decide | omega)).trans k332
    have k348 : ai_hv t436 7 6 = some (.inl (σ 9 1)) := (e436 7 6 (by first | decide | omega)).trans k333
    have k349 : ai_hv t436 7 7 = some (.inl (σ 9 2)) := (e436 7 7 (by first | decide | omega)).trans k334
    have k350 : ai_hv t436 7 1 = some (gx_r 191) := (e436 7 1 (by first | decide | omega)).trans k335
    show en_ex _ _ _ _ (114, [(4, .inl v406), (3, .inl 4294967295), (1, .inr (.inl v115)), (0, gx_r 7)], [.inl v436], t436, n, 0) _
    refine ex_go (S := (116, [(5, .inl v436), (4, .inl v406), (3, .inl 4294967295), (1, .inr (.inl v115)), (0, gx_r 7)], [], t436, n, 0)) rfl (fun _ => rfl) rfl ?_
    refine ex_go (S := (117, [(5, .inl v436), (4, .inl v406), (3, .inl 4294967295), (1, .inr (.inl v115)), (0, gx_r 7)], [gx_r 7], t436, n, 0)) rfl (fun _ => rfl) rfl ?_
    refine ex_go (S := (118, [(5, .inl v436), (4, .inl v406), (3, .inl 4294967295), (1, .inr (.inl v115)), (0, gx_r 7)], [gx_r 7, gx_r 7], t436, n, 0)) rfl (fun _ => rfl) rfl ?_
    refine gxo_get (a := 7) rfl s436.1 rfl rfl k350 rfl ?_
    refine gxo_ref (a := 191) (c := 206) rfl s436.1 rfl rfl rfl rfl rfl ?_
    refine ex_go (S := (125, [(5, .inl v436), (4, .inl v406), (3, .inl 4294967295), (1, .inr (.inl v115)), (0, gx_r 7)], [.inr (.inl v115), gx_r 206, gx_r 7], t436, n, 0)) rfl (fun _ => rfl) rfl ?_
    refine ex_go (S := (126, [(5, .inl v436), (4, .inl v406), (3, .inl 4294967295), (1, .inr (.inl v115)), (0, gx_r 7)], [.inl 4294967295, .inr (.inl v115), gx_r 206, gx_r 7], t436, n, 0)) rfl (fun _ => rfl) rfl ?_
    refine ex_go (S := (128, [(5, .inl v436), (4, .inl v406), (3, .inl 4294967295), (1, .inr (.inl v115)), (0, gx_r 7)], [.inl v406, .inl 4294967295, .inr (.inl v115), gx_r 206, gx_r 7], t436, n, 0)) rfl (fun _ => rfl) rfl ?_
    refine ex_go (S := (130, [(5, .inl v436), (4, .inl v406), (3, .inl 4294967295), (1, .inr (.inl v115)), (0, gx_r 7)], [.inl v436, .inl v406, .inl 4294967295, .inr (.inl v115), gx_r 206, gx_r 7], t436, n, 0)) rfl (fun _ => rfl) rfl ?_
    refine ex_go (S := (131, [(5, .inl v436), (4, .inl v406), (3, .inl 4294967295), (1, .inr (.inl v115)), (0, gx_r 7)], [.inl 0, .inl v436, .inl v406, .inl 4294967295, .inr (.inl v115), gx_r 206, gx_r 7], t436, n, 0)) rfl (fun _ => rfl) rfl ?_
    have hT352 := cT_keep (t' := t436) hT (fun c i h => (e436 c i (by first | decide | omega)).trans ((e421 c i (by first | decide | omega)).trans ((e406 c i (by first | decide | omega)).trans ((e391 c i (by first | decide | omega)).trans ((e376 c i (by first | decide | omega)).trans ((e361 c i (by first | decide | omega)).trans ((e115 c i (by first | decide | omega)).trans (e101 c i (by first | decide | omega)))))))))
    obtain ⟨_, r451, t451, a451, f451, rfl, s451, e451, z451, q451, u451⟩ := pc_endRow206 (d) n (s436) hT352 (by first | decide | omega) (x := v115) (y1 := 4294967295) (y2 := v406) (y3 := v436) (y4 := 0) k342 (fun h0 => by omega)
    have b451 := s451.2.2.2
    have y451 := z451.trans (congrArg (fs S m N 59) y436)
    refine gx_callo (a := 7) rfl rfl s436.1 rfl rfl rfl r451 rfl ?_
    have k353 : ai_hv t451 191 0 = some (.inl (σ 0 0)) := (e451 191 0 (by first | decide | omega)).trans k338
    have k354 : ai_hv t451 191 1 = some (.inl (σ 1 0)) := (e451 191 1 (by first | decide | omega)).trans k339
    have k355 : ai_hv t451 194 5 = some (.inl (σ 2 0)) := (e451 194 5 (by first | decide | omega)).trans k340
    have k356 : ai_hv t451 200 5 = some (.inl (σ 3 0)) := (e451 200 5 (by first | decide | omega)).trans k341
    have k357 : ai_hv t451 212 5 = some (.inl (σ 5 0)) := (e451 212 5 (by first | decide | omega)).trans k343
    have k358 : ai_hv t451 218 5 = some (.inl (σ 6 0)) := (e451 218 5 (by first | decide | omega)).trans k344
    have k359 : ai_hv t451 224 5 = some (.inl (σ 7 0)) := (e451 224 5 (by first | decide | omega)).trans k345
    have k360 : ai_hv t451 7 4 = some (.inl (σ 8 0)) := (e451 7 4 (by first | decide | omega)).trans k346
    have k361 : ai_hv t451 7 5 = some (.inl (σ 9 0)) := (e451 7 5 (by first | decide | omega)).trans k347
    have k362 : ai_hv t451 7 6 = some (.inl (σ 9 1)) := (e451 7 6 (by first | decide | omega)).trans k348
    have k363 : ai_hv t451 7 7 = some (.inl (σ 9 2)) := (e451 7 7 (by first | decide | omega)).trans k349
    have k364 : ai_hv t451 7 1 = some (gx_r 191) := (e451 7 1 (by first | decide | omega)).trans k350
    show en_ex _ _ _ _ (134, [(5, .inl v436), (4, .inl v406), (3, .inl 4294967295), (1, .inr (.inl v115)), (0, gx_r 7)], [], t451, n, 0) _
    refine ex_ret (r := (none, t451, n, 0)) rfl (fun _ => rfl) ?_
    have hT365 := cT_keep (t' := t451) hT (fun c i h => (e451 c i (by first | decide | omega)).trans ((e436 c i (by first | decide | omega)).trans ((e421 c i (by first | decide | omega)).trans ((e406 c i (by first | decide | omega)).trans ((e391 c i (by first | decide | omega)).trans ((e376 c i (by first | decide | omega)).trans ((e361 c i (by first | decide | omega)).trans ((e115 c i (by first | decide | omega)).trans (e101 c i (by first | decide | omega))))))))))
    exact ⟨_, rfl, t451, a451, f451, rfl, s451, hT365, k364, (fun c i h => (e451 c i (by first | decide | omega)).trans ((e436 c i (by first | decide | omega)).trans ((e421 c i (by first | decide | omega)).trans ((e406 c i (by first | decide | omega)).trans ((e391 c i (by first | decide | omega)).trans ((e376 c i (by first | decide | omega)).trans ((e361 c i (by first | decide | omega)).trans ((e115 c i (by first | decide | omega)).trans (e101 c i (by first | decide | omega)))))))))), y451, by omega, fun h0 => by omega⟩
end SPU
