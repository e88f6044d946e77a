section PK3
noncomputable def px_hs (t : en_H) (s e k : Nat) : Prop := ∀ h : Nat, ∃ F : Nat → Nat, F s = h ∧ F e = h + k ∧ ∀ i, s ≤ i → i < e → px_st t i (F i) (F (i + 1))
noncomputable def px_FE (c : Nat) (t t' : en_H) : Prop := ∀ c' i, ¬ ((c' = 383 ∧ (i = 7 ∨ i = 8 ∨ i = 13)) ∨ ((c' = 390 ∨ c' = 391) ∧ 1100 + c ≤ i)) → ai_hv t' c' i = ai_hv t c' i
noncomputable def px_Em (c : Nat) (t t' : en_H) : Prop := ∀ c' i, ¬ ((c' = 383 ∧ i = 13) ∨ ((c' = 390 ∨ c' = 391) ∧ i = 1100 + c)) → ai_hv t' c' i = ai_hv t c' i
noncomputable def px_X (t0 : en_H) (a0 f0 c0 : Nat) (t : en_H) (a f c : Nat) : Prop := px_S t a f ∧ px_FE c0 t0 t ∧ ai_hv t 383 13 = some (.inl c) ∧ (a0 ≤ a ∧ c0 ≤ c ∧ c + a0 ≤ a + c0 ∧ (f0 ≠ 0 → f ≠ 0) ∧ (f = 0 → a0 < a)) ∧ (f = 0 → px_hs t c0 c 1)
noncomputable def px_C (d mi e : Nat) : Prop := ∀ (n : Nat) (t : en_H) (a f c : Nat), px_S t a f → ai_hv t 383 13 = some (.inl c) → c ≤ a → ∃ r, en_u d mi [gx_r 383, .inl e] t n = some r ∧ ∃ t' a' f' c', r = (none, t', n, 0) ∧ px_X t a f c t' a' f' c'
theorem px_hs_kept {t t' : en_H} {s e k : Nat} (h : px_hs t s e k) (h1 : ∀ i, s ≤ i → i < e → ai_hv t' 390 (1100 + i) = ai_hv t 390 (1100 + i)) (h2 : ∀ i, s ≤ i → i < e → ai_hv t' 391 (1100 + i) = ai_hv t 391 (1100 + i)) : px_hs t' s e k := by
  intro h9
  obtain ⟨F, k1, k2, k3⟩ := h h9
  exact ⟨F, k1, k2, fun i z1 z2 => px_st_kept (k3 i z1 z2) (h1 i z1 z2) (h2 i z1 z2)⟩
theorem px_hs_cat {t : en_H} {s m e j k : Nat} (h1 : px_hs t s m j) (h2 : px_hs t m e k) (hs : s ≤ m) (he : m ≤ e) : px_hs t s e (j + k) := by
  intro h
  obtain ⟨F, f1, f2, f3⟩ := h1 h
  obtain ⟨D, d1, d2, d3⟩ := h2 (h + j)
  refine ⟨fun i => if i < m then F i else D i, ?_, ?_, fun i z1 z2 => ?_⟩
  · show (if s < m then F s else D s) = h
    by_cases c : s < m
    · rw [if_pos c]; exact f1
    · have e1 : s = m := by omega
      rw [if_neg c, e1, d1, ← f2, ← e1, f1]
  · show (if e < m then F e else D e) = _
    rw [if_neg (by first | decide | omega), d2]
    omega
  · show px_st t i (if i < m then F i else D i) (if i + 1 < m then F (i + 1) else D (i + 1))
    by_cases c : i < m
    · rw [if_pos c]
      by_cases c2 : i + 1 < m
      · rw [if_pos c2]
        exact f3 i z1 c
      · have e1 : i + 1 = m := by omega
        rw [if_neg c2, e1, d1, ← f2, ← e1]
        exact f3 i z1 c
    · rw [if_neg c, if_neg (by first | decide | omega)]
      exact d3 i (by first | decide | omega) z2
theorem px_hs_end {t : en_H} {s e k k' : Nat} (h1 : px_hs t s e k) (hs : s ≤ e) (h2 : ∀ h, px_st t e (h + k) (h + k')) : px_hs t s (e + 1) k' := by
  intro h
  obtain ⟨F, f1, f2, f3⟩ := h1 h
  refine ⟨fun i => if i < e + 1 then F i else h + k', ?_, ?_, fun i z1 z2 => ?_⟩
  · show (if s < e + 1 then F s else h + k') = h
    rw [if_pos (by first | decide | omega), f1]
  · show (if e + 1 < e + 1 then F (e + 1) else h + k') = h + k'
    rw [if_neg (by first | decide | omega)]
  · show px_st t i (if i < e + 1 then F i else h + k') (if i + 1 < e + 1 then F (i + 1) else h + k')
    rw [if_pos z2]
    by_cases c : i < e
    · rw [if_pos (by first | decide | omega)]
      exact f3 i z1 c
    · have e1 : i = e := by omega
      rw [if_neg (by first | decide | omega), e1, f2]
      exact h2 h
theorem px_hs_nil (t : en_H) (s : Nat) : px_hs t s s 0 := fun h => ⟨fun _ => h, rfl, rfl, fun i z1 z2 => by omega⟩
theorem px_X_bin {t0 t t1 t2 t3 : en_H} {a0 f0 c0 a f c a1 f1 a2 f2 c2 o z : Nat} (h : px_X t0 a0 f0 c0 t a f c) (hf : f = 0) (ha : a + 1 ≤ a1) (h1 : px_F t t1) (h2 : px_X t1 a1 f1 c t2 a2 f2 c2) (ho : 4 ≤ o ∧ o ≤ 10) (s3 : px_S t3 a2 f2) (e3 : px_Em c2 t2 t3) (k1 : ai_hv t3 383 13 = some (.inl (c2 + 1))) (k2 : ai_hv t3 390 (1100 + c2) = some (.inl o)) (k3 : ai_hv t3 391 (1100 + c2) = some (.inl z)) : px_X t0 a0 f0 c0 t3 a2 f2 (c2 + 1) := by
  obtain ⟨sS, fe, kc, ar, hs⟩ := h
  obtain ⟨sS2, fe2, kc2, ar2, hs2⟩ := h2
  refine ⟨s3, fun c' i hn => (e3 c' i (by first | decide | omega)).trans ((fe2 c' i (by first | decide | omega)).trans ((h1 c' i (by first | decide | omega)).trans (fe c' i (by first | decide | omega)))), k1, by omega, fun h0 => ?_⟩
  have g1 : px_hs t3 c0 c 1 := px_hs_kept (hs hf) (fun i z1 z2 => (e3 _ _ (by first | decide | omega)).trans ((fe2 _ _ (by first | decide | omega)).trans (h1 _ _ (by first | decide | omega)))) (fun i z1 z2 => (e3 _ _ (by first | decide | omega)).trans ((fe2 _ _ (by first | decide | omega)).trans (h1 _ _ (by first | decide | omega))))
  have g2 : px_hs t3 c c2 1 := px_hs_kept (hs2 h0) (fun i z1 z2 => e3 _ _ (by first | decide | omega)) (fun i z1 z2 => e3 _ _ (by first | decide | omega))
  exact px_hs_end (px_hs_cat g1 g2 (by first | decide | omega) (by first | decide | omega)) (by first | decide | omega) (fun h => ⟨o, z, k2, k3, by omega⟩)
theorem px_X_not {t0 t1 t2 t3 : en_H} {a f c a1 f1 a2 f2 c2 z : Nat} (hf : f = 0) (ha : a + 1 ≤ a1) (h1 : px_F t0 t1) (h2 : px_X t1 a1 f1 c t2 a2 f2 c2) (s3 : px_S t3 a2 f2) (e3 : px_Em c2 t2 t3) (k1 : ai_hv t3 383 13 = some (.inl (c2 + 1))) (k2 : ai_hv t3 390 (1100 + c2) = some (.inl 3)) (k3 : ai_hv t3 391 (1100 + c2) = some (.inl z)) : px_X t0 a f c t3 a2 f2 (c2 + 1) := by
  obtain ⟨sS2, fe2, kc2, ar2, hs2⟩ := h2
  refine ⟨s3, fun c' i hn => (e3 c' i (by first | decide | omega)).trans ((fe2 c' i (by first | decide | omega)).trans (h1 c' i (by first | decide | omega))), k1, by omega, fun h0 => ?_⟩
  have g2 : px_hs t3 c c2 1 := px_hs_kept (hs2 h0) (fun i z1 z2 => e3 _ _ (by first | decide | omega)) (fun i z1 z2 => e3 _ _ (by first | decide | omega))
  exact px_hs_end g2 (by first | decide | omega) (fun h => ⟨3, z, k2, k3, by omega⟩)
theorem px_X_in {t0 t1 t2 t3 : en_H} {a f c a1 f1 a2 f2 c2 a3 f3 : Nat} (hf : f = 0) (ha : a + 1 ≤ a1) (h1 : px_F t0 t1) (h2 : px_X t1 a1 f1 c t2 a2 f2 c2) (e3 : px_F t2 t3) (s3 : px_S t3 a3 f3) (ha3 : a2 ≤ a3) (hf3 : f3 = 0 → f2 = 0) : px_X t0 a f c t3 a3 f3 c2 := by
  obtain ⟨sS2, fe2, kc2, ar2, hs2⟩ := h2
  exact ⟨s3, fun c' i hn => (e3 c' i (by first | decide | omega)).trans ((fe2 c' i (by first | decide | omega)).trans (h1 c' i (by first | decide | omega))), (e3 383 13 (by first | decide | omega)).trans kc2, by omega, fun h0 => px_hs_kept (hs2 (hf3 h0)) (fun i z1 z2 => e3 _ _ (by first | decide | omega)) (fun i z1 z2 => e3 _ _ (by first | decide | omega))⟩
theorem px_X_one {t0 t2 t3 t4 : en_H} {a f c a4 f4 o z : Nat} (hf : f = 0) (ha : a + 1 ≤ a4) (h2 : px_F t0 t2) (e3 : px_Em c t2 t3) (e4 : px_F t3 t4) (s4 : px_S t4 a4 f4) (k1 : ai_hv t3 383 13 = some (.inl (c + 1))) (k2 : ai_hv t3 390 (1100 + c) = some (.inl o)) (k3 : ai_hv t3 391 (1100 + c) = some (.inl z)) (ho : o = 1 ∨ (o = 2 ∧ z ≤ 3)) : px_X t0 a f c t4 a4 f4 (c + 1) := by
  refine ⟨s4, fun c' i hn => (e4 c' i (by first | decide | omega)).trans ((e3 c' i (by first | decide | omega)).trans (h2 c' i (by first | decide | omega))), (e4 383 13 (by first | decide | omega)).trans k1, by omega, fun h0 => ?_⟩
  exact px_hs_end (px_hs_nil t4 c) (Nat.le_refl _) (fun h => ⟨o, z, (e4 _ _ (by first | decide | omega)).trans k2, (e4 _ _ (by first | decide | omega)).trans k3, by omega⟩)
theorem px_X_same {t0 t t' : en_H} {a0 f0 c0 a f c a' f' : Nat} (h : px_X t0 a0 f0 c0 t a f c) (e : px_F t t') (s : px_S t' a' f') (ha : a ≤ a') (hf : f' = f) : px_X t0 a0 f0 c0 t' a' f' c := by
  obtain ⟨sS, fe, kc, ar, hs⟩ := h
  exact ⟨s, fun c' i hn => (e c' i (by first | decide | omega)).trans (fe c' i hn), (e 383 13 (by first | decide | omega)).trans kc, by omega, fun h0 => px_hs_kept (hs (by first | decide | omega)) (fun i z1 z2 => e _ _ (by first | decide | omega)) (fun i z1 z2 => e _ _ (by first | decide | omega))⟩
theorem px_X_fault {t t' : en_H} {a f c a' f' : Nat} (kc : ai_hv t 383 13 = some (.inl c)) (e : px_F t t') (s : px_S t' a' f') (ha : a ≤ a') (hf : f' ≠ 0) : px_X t a f c t' a' f' c :=
  ⟨s, fun c' i hn => e c' i (by first | decide | omega), (e 383 13 (by first | decide | omega)).trans kc, by omega, fun h0 => absurd h0 hf⟩
theorem pk_emit (d n : Nat) {t0 : en_H} {a f o z c : Nat} (s0 : px_S t0 a f) (ho : o ≤ 10) (hz : z < 4294967296) (hc : c ≤ 1099) (kc : ai_hv t0 383 13 = some (.inl c)) : ∃ r, en_u (d + 1) 248 [gx_r 383, .inl o, .inl z] t0 n = some r ∧ ∃ t', r = (none, t', n, 0) ∧ px_S t' a f ∧ px_Em c t0 t' ∧ ai_hv t' 383 13 = some (.inl (c + 1)) ∧ ai_hv t' 390 (1100 + c) = some (.inl o) ∧ ai_hv t' 391 (1100 + c) = some (.inl z) := by
  have b0 := s0.2.2.2
  refine en_u_ex rfl ?_
  show en_ex _ _ _ _ (0, [(0, gx_r 383), (1, .inl o), (2, .inl z)], [], t0, n, 0) _
  refine ex_go (S := (1, [(0, gx_r 383), (1, .inl o), (2, .inl z)], [gx_r 383], t0, n, 0)) rfl (fun _ => rfl) rfl ?_
  refine gx_ref (c := 390) rfl s0.1 rfl rfl rfl rfl ?_
  refine ex_go (S := (7, [(0, gx_r 383), (1, .inl o), (2, .inl z)], [.inl 1100, gx_r 390], t0, n, 0)) rfl (fun _ => rfl) rfl ?_
  refine ex_go (S := (8, [(0, gx_r 383), (1, .inl o), (2, .inl z)], [gx_r 383, .inl 1100, gx_r 390], t0, n, 0)) rfl (fun _ => rfl) rfl ?_
  refine gx_get rfl s0.1 rfl kc rfl ?_
  refine ex_iadd rfl (by first | decide | omega) rfl ?_
  refine ex_go (S := (13, [(0, gx_r 383), (1, .inl o), (2, .inl z)], [.inl o, .inl (1100 + c), gx_r 390], t0, n, 0)) rfl (fun _ => rfl) rfl ?_
  refine gx_ap rfl (fun _ => rfl) s0.1 rfl rfl rfl (show 1100 + c < 2200 from by omega) (gx_run1 (show 1100 + c < 2200 from by omega)) (gx_full (by first | decide | omega)) rfl (fun t101 g101 k101 e101 => ?_)
  have k2 : ai_hv t101 383 13 = some (.inl c) := (e101 383 13 (by first | decide | omega)).trans kc
  have s101 : px_S t101 a f := ⟨g101, (e101 383 7 (by first | decide | omega)).trans s0.2.1, (e101 383 8 (by first | decide | omega)).trans s0.2.2.1, s0.2.2.2⟩
  refine ex_go (S := (15, [(0, gx_r 383), (1, .inl o), (2, .inl z)], [gx_r 383], t101, n, 0)) rfl (fun _ => rfl) rfl ?_
  refine gx_ref (c := 391) rfl s101.1 rfl rfl rfl rfl ?_
  refine ex_go (S := (21, [(0, gx_r 383), (1, .inl o), (2, .inl z)], [.inl 1100, gx_r 391], t101, n, 0)) rfl (fun _ => rfl) rfl ?_
  refine ex_go (S := (22, [(0, gx_r 383), (1, .inl o), (2, .inl z)], [gx_r 383, .inl 1100, gx_r 391], t101, n, 0)) rfl (fun _ => rfl) rfl ?_
  refine gx_get rfl s101.1 rfl k2 rfl ?_
  refine ex_iadd rfl (by first | decide | omega) rfl ?_
  refine ex_go (S := (27, [(0, gx_r 383), (1, .inl o), (2, .inl z)], [.inl z, .inl (1100 + c), gx_r 391], t101, n, 0)) rfl (fun _ => rfl) rfl ?_
  refine gx_ap rfl (fun _ => rfl) s101.1 rfl rfl rfl (show 1100 + c < 2200 from by omega) (gx_run1 (show 1100 + c < 2200 from by omega)) (gx_full (by first | decide | omega)) rfl (fun t103 g103 k103 e103 => ?_)
  have k4 : ai_hv t103 383 13 = some (.inl c) := (e103 383 13 (by first | decide | omega)).trans k2
  have k5 : ai_hv t103 390 (1100 + c) = some (.inl o) := (e103 390 (1100 + c) (by first | decide | omega)).trans k101
  have s103 : px_S t103 a f := ⟨g103, (e103 383 7 (by first | decide | omega)).trans s101.2.1, (e103 383 8 (by first | decide | omega)).trans s101.2.2.1, s101.2.2.2⟩
  refine ex_go (S := (29, [(0, gx_r 383), (1, .inl o), (2, .inl z)], [gx_r 383], t103, n, 0)) rfl (fun _ => rfl) rfl ?_
  refine ex_go (S := (30, [(0, gx_r 383), (1, .inl o), (2, .inl z)], [gx_r 383, gx_r 383], t103, n, 0)) rfl (fun _ => rfl) rfl ?_
  refine gx_get rfl s103.1 rfl k4 rfl ?_
  refine ex_go (S := (34, [(0, gx_r 383), (1, .inl o), (2, .inl z)], [.inl 1, .inl c, gx_r 383], t103, n, 0)) rfl (fun _ => rfl) rfl ?_
  refine ex_iadd rfl (by first | decide | omega) rfl ?_
  refine gx_put rfl s103.1 rfl rfl (ai_in_h (by first | decide | omega) (by first | decide | omega) (by first | decide | omega)) rfl (fun t106 g106 k106 e106 => ?_)
  have k7 : ai_hv t106 390 (1100 + c) = some (.inl o) := (e106 390 (1100 + c) (by first | decide | omega)).trans k5
  have k8 : ai_hv t106 391 (1100 + c) = some (.inl z) := (e106 391 (1100 + c) (by first | decide | omega)).trans k103
  have s106 : px_S t106 a f := ⟨g106, (e106 383 7 (by first | decide | omega)).trans s103.2.1, (e106 383 8 (by first | decide | omega)).trans s103.2.2.1, s103.2.2.2⟩
  refine ex_ret (r := (none, t106, n, 0)) rfl (fun _ => rfl) ?_
  exact ⟨_, rfl, t106, rfl, s106, (fun c9 i h => (e106 c9 i (by first | decide | omega)).trans ((e103 c9 i (by first | decide | omega)).trans (e101 c9 i (by first | decide | omega)))), k106, k7, k8⟩
theorem pk_products_l {l e : Nat} (h : ∀ d, px_C (d + l + 3) 288 e) (he : e ≤ 5) (d n : Nat) {tb : en_H} {ab fb cb : Nat} (hcb : cb ≤ ab) : ∀ j t0 a f c lx, (lx = [] ∨ ∃ b, b ≤ 1 ∧ lx = [(2, .inl b)]) → 1000 ≤ a + j → px_X tb ab fb cb t0 a f c → en_ex none (en_u (d + l + 3)) (en_code 286) (fun _ => false) (5, lx ++ [(0, gx_r 383), (1, .inl e)], [], t0, n, 0) (fun o => ∃ r, o = .inl r ∧ ∃ t' a' f' c', r = (none, t', n, 0) ∧ px_X tb ab fb cb t' a' f' c') := by
  intro j
  induction j with
  | zero =>
    intro t0 a f c lx hlx hj hx
    have s0 := hx.1
    have kc := hx.2.2.1
    have q0 := hx.2.2.2.1
    have b0 := s0.2.2.2
    rcases hlx with rfl | ⟨bx, hbx, rfl⟩
    · show en_ex _ _ _ _ (5, [(0, gx_r 383), (1, .inl e)], [], t0, n, 0) _
      refine ex_go (S := (6, [(0, gx_r 383), (1, .inl e)], [gx_r 383], t0, n, 0)) rfl (fun _ => rfl) rfl ?_
      refine ex_go (S := (8, [(0, gx_r 383), (1, .inl e)], [.inl 42, gx_r 383], t0, n, 0)) rfl (fun _ => rfl) rfl ?_
      obtain ⟨_, r101, v101, t101, a101, f101, rfl, s101, e101, q101⟩ := pk_hasSign (d + l + 1) n (s0) (w := 42)
      have b101 := s101.2.2.2
      refine gx_call1 rfl rfl s0.1 rfl rfl r101 rfl ?_
      have k2 : ai_hv t101 383 13 = some (.inl c) := (e101 383 13 (by first | decide | omega)).trans kc
      by_cases hc3 : v101 = 0
      · refine gx_1t (c := .eq) rfl (by first | decide | omega) hc3 rfl ?_
        refine ex_ret (r := (none, t101, n, 0)) rfl (fun _ => rfl) ?_
        exact ⟨_, rfl, t101, a101, f101, c, rfl, px_X_same hx (fun c i h => e101 c i (by first | decide | omega)) s101 (by first | decide | omega) (by first | decide | omega)⟩
      · refine gx_1f (c := .eq) rfl (by first | decide | omega) hc3 rfl ?_
        refine ex_go (S := (15, [(0, gx_r 383), (1, .inl e)], [gx_r 383], t101, n, 0)) rfl (fun _ => rfl) rfl ?_
        refine ex_go (S := (16, [(0, gx_r 383), (1, .inl e)], [.inl e, gx_r 383], t101, n, 0)) rfl (fun _ => rfl) rfl ?_
        obtain ⟨_, r104, t104, a104, f104, c104, rfl, x104⟩ := h d n _ _ _ _ s101 k2 (by first | decide | omega)
        have s104 := x104.1
        have e104 := x104.2.1
        have k104 := x104.2.2.1
        have q104 := x104.2.2.2.1
        have b104 := s104.2.2.2
        refine gx_call0 rfl rfl s101.1 rfl rfl r104 rfl ?_
        refine ex_go (S := (20, [(0, gx_r 383), (1, .inl e)], [gx_r 383], t104, n, 0)) rfl (fun _ => rfl) rfl ?_
        refine ex_go (S := (22, [(0, gx_r 383), (1, .inl e)], [.inl 6, gx_r 383], t104, n, 0)) rfl (fun _ => rfl) rfl ?_
        refine ex_go (S := (23, [(0, gx_r 383), (1, .inl e)], [.inl 0, .inl 6, gx_r 383], t104, n, 0)) rfl (fun _ => rfl) rfl ?_
        obtain ⟨_, r105, t105, rfl, s105, e105, k105, ko105, kz105⟩ := pk_emit (d + l + 2) n (s104) (o := 6) (z := 0) (by first | decide | omega) (by first | decide | omega) (by first | decide | omega) k104
        have b105 := s105.2.2.2
        refine gx_call0 rfl rfl s104.1 rfl rfl r105 rfl ?_
        refine ex_go (S := (5, [(0, gx_r 383), (1, .inl e)], [], t105, n, 0)) rfl (fun _ => rfl) rfl ?_
        exfalso; omega
    · show en_ex _ _ _ _ (5, [(2, .inl bx), (0, gx_r 383), (1, .inl e)], [], t0, n, 0) _
      refine ex_go (S := (6, [(2, .inl bx), (0, gx_r 383), (1, .inl e)], [gx_r 383], t0, n, 0)) rfl (fun _ => rfl) rfl ?_
      refine ex_go (S := (8, [(2, .inl bx), (0, gx_r 383), (1, .inl e)], [.inl 42, gx_r 383], t0, n, 0)) rfl (fun _ => rfl) rfl ?_
      obtain ⟨_, r101, v101, t101, a101, f101, rfl, s101, e101, q101⟩ := pk_hasSign (d + l + 1) n (s0) (w := 42)
      have b101 := s101.2.2.2
      refine gx_call1 rfl rfl s0.1 rfl rfl r101 rfl ?_
      have k2 : ai_hv t101 383 13 = some (.inl c) := (e101 383 13 (by first | decide | omega)).trans kc
      by_cases hc3 : v101 = 0
      · refine gx_1t (c := .eq) rfl (by first | decide | omega) hc3 rfl ?_
        refine ex_ret (r := (none, t101, n, 0)) rfl (fun _ => rfl) ?_
        exact ⟨_, rfl, t101, a101, f101, c, rfl, px_X_same hx (fun c i h => e101 c i (by first | decide | omega)) s101 (by first | decide | omega) (by first | decide | omega)⟩
      · refine gx_1f (c := .eq) rfl (by first | decide | omega) hc3 rfl ?_
        refine ex_go (S := (15, [(2, .inl bx), (0, gx_r 383), (1, .inl e)], [gx_r 383], t101, n, 0)) rfl (fun _ => rfl) rfl ?_
        refine ex_go (S := (16, [(2, .inl bx), (0, gx_r 383), (1, .inl e)], [.inl e, gx_r 383], t101, n, 0)) rfl (fun _ => rfl) rfl ?_
        obtain ⟨_, r104, t104, a104, f104, c104, rfl, x104⟩ := h d n _ _ _ _ s101 k2 (by first | decide | omega)
        have s104 := x104.1
        have e104 := x104.2.1
        have k104 := x104.2.2.1
        have q104 := x104.2.2.2.1
        have b104 := s104.2.2.2
        refine gx_call0 rfl rfl s101.1 rfl rfl r104 rfl ?_
        refine ex_go (S := (20, [(2, .inl bx), (0, gx_r 383), (1, .inl e)], [gx_r 383], t104, n, 0)) rfl (fun _ => rfl) rfl ?_
        refine ex_go (S := (22, [(2, .inl bx), (0, gx_r 383), (1, .inl e)], [.inl 6, gx_r 383], t104, n, 0)) rfl (fun _ => rfl) rfl ?_
        refine ex_go (S := (23, [(2, .inl bx), (0, gx_r 383), (1, .inl e)], [.inl 0, .inl 6, gx_r 383], t104, n, 0)) rfl (fun _ => rfl) rfl ?_
        obtain ⟨_, r105, t105, rfl, s105, e105, k105, ko105, kz105⟩ := pk_emit (d + l + 2) n (s104) (o := 6) (z := 0) (by first | decide | omega) (by first | decide | omega) (by first | decide | omega) k104
        have b105 := s105.2.2.2
        refine gx_call0 rfl rfl s104.1 rfl rfl r105 rfl ?_
        refine ex_go (S := (5, [(2, .inl bx), (0, gx_r 383), (1, .inl e)], [], t105, n, 0)) rfl (fun _ => rfl) rfl ?_
        exfalso; omega
  | succ j ih =>
    intro t0 a f c lx hlx hj hx
    have s0 := hx.1
    have kc := hx.2.2.1
    have q0 := hx.2.2.2.1
    have b0 := s0.2.2.2
    rcases hlx with rfl | ⟨bx, hbx, rfl⟩
    · show en_ex _ _ _ _ (5, [(0, gx_r 383), (1, .inl e)], [], t0, n, 0) _
      refine ex_go (S := (6, [(0, gx_r 383), (1, .inl e)], [gx_r 383], t0, n, 0)) rfl (fun _ => rfl) rfl ?_
      refine ex_go (S := (8, [(0, gx_r 383), (1, .inl e)], [.inl 42, gx_r 383], t0, n, 0)) rfl (fun _ => rfl) rfl ?_
      obtain ⟨_, r101, v101, t101, a101, f101, rfl, s101, e101, q101⟩ := pk_hasSign (d + l + 1) n (s0) (w := 42)
      have b101 := s101.2.2.2
      refine gx_call1 rfl rfl s0.1 rfl rfl r101 rfl ?_
      have k2 : ai_hv t101 383 13 = some (.inl c) := (e101 383 13 (by first | decide | omega)).trans kc
      by_cases hc3 : v101 = 0
      · refine gx_1t (c := .eq) rfl (by first | decide | omega) hc3 rfl ?_
        refine ex_ret (r := (none, t101, n, 0)) rfl (fun _ => rfl) ?_
        exact ⟨_, rfl, t101, a101, f101, c, rfl, px_X_same hx (fun c i h => e101 c i (by first | decide | omega)) s101 (by first | decide | omega) (by first | decide | omega)⟩
      · refine gx_1f (c := .eq) rfl (by first | decide | omega) hc3 rfl ?_
        refine ex_go (S := (15, [(0, gx_r 383), (1, .inl e)], [gx_r 383], t101, n, 0)) rfl (fun _ => rfl) rfl ?_
        refine ex_go (S := (16, [(0, gx_r 383), (1, .inl e)], [.inl e, gx_r 383], t101, n, 0)) rfl (fun _ => rfl) rfl ?_
        obtain ⟨_, r104, t104, a104, f104, c104, rfl, x104⟩ := h d n _ _ _ _ s101 k2 (by first | decide | omega)
        have s104 := x104.1
        have e104 := x104.2.1
        have k104 := x104.2.2.1
        have q104 := x104.2.2.2.1
        have b104 := s104.2.2.2
        refine gx_call0 rfl rfl s101.1 rfl rfl r104 rfl ?_
        refine ex_go (S := (20, [(0, gx_r 383), (1, .inl e)], [gx_r 383], t104, n, 0)) rfl (fun _ => rfl) rfl ?_
        refine ex_go (S := (22, [(0, gx_r 383), (1, .inl e)], [.inl 6, gx_r 383], t104, n, 0)) rfl (fun _ => rfl) rfl ?_
        refine ex_go (S := (23, [(0, gx_r 383), (1, .inl e)], [.inl 0, .inl 6, gx_r 383], t104, n, 0)) rfl (fun _ => rfl) rfl ?_
        obtain ⟨_, r105, t105, rfl, s105, e105, k105, ko105, kz105⟩ := pk_emit (d + l + 2) n (s104) (o := 6) (z := 0) (by first | decide | omega) (by first | decide | omega) (by first | decide | omega) k104
        have b105 := s105.2.2.2
        refine gx_call0 rfl rfl s104.1 rfl rfl r105 rfl ?_
        refine ex_go (S := (5, [(0, gx_r 383), (1, .inl e)], [], t105, n, 0)) rfl (fun _ => rfl) rfl ?_
        exact ih t105 a104 f104 (c104 + 1) [] (Or.inl rfl) (by first | decide | omega) (px_X_bin hx (by first | decide | omega) (by first | decide | omega) (fun c i h => e101 c i (by first | decide | omega)) x104 (by first | decide | omega) s105 e105 k105 ko105 kz105)
    · show en_ex _ _ _ _ (5, [(2, .inl bx), (0, gx_r 383), (1, .inl e)], [], t0, n, 0) _
      refine ex_go (S := (6, [(2, .inl bx), (0, gx_r 383), (1, .inl e)], [gx_r 383], t0, n, 0)) rfl (fun _ => rfl) rfl ?_
      refine ex_go (S := (8, [(2, .inl bx), (0, gx_r 383), (1, .inl e)], [.inl 42, gx_r 383], t0, n, 0)) rfl (fun _ => rfl) rfl ?_
      obtain ⟨_, r101, v101, t101, a101, f101, rfl, s101, e101, q101⟩ := pk_hasSign (d + l + 1) n (s0) (w := 42)
      have b101 := s101.2.2.2
      refine gx_call1 rfl rfl s0.1 rfl rfl r101 rfl ?_
      have k2 : ai_hv t101 383 13 = some (.inl c) := (e101 383 13 (by first | decide | omega)).trans kc
      by_cases hc3 : v101 = 0
      · refine gx_1t (c := .eq) rfl (by first | decide | omega) hc3 rfl ?_
        refine ex_ret (r := (none, t101, n, 0)) rfl (fun _ => rfl) ?_
        exact ⟨_, rfl, t101, a101, f101, c, rfl, px_X_same hx (fun c i h => e101 c i (by first | decide | omega)) s101 (by first | decide | omega) (by first | decide | omega)⟩
      · refine gx_1f (c := .eq) rfl (by first | decide | omega) hc3 rfl ?_
        refine ex_go (S := (15, [(2, .inl bx), (0, gx_r 383), (1, .inl e)], [gx_r 383], t101, n, 0)) rfl (fun _ => rfl) rfl ?_
        refine ex_go (S := (16, [(2, .inl bx), (0, gx_r 383), (1, .inl e)], [.inl e, gx_r 383], t101, n, 0)) rfl (fun _ => rfl) rfl ?_
        obtain ⟨_, r104, t104, a104, f104, c104, rfl, x104⟩ := h d n _ _ _ _ s101 k2 (by first | decide | omega)
        have s104 := x104.1
        have e104 := x104.2.1
        have k104 := x104.2.2.1
        have q104 := x104.2.2.2.1
        have b104 := s104.2.2.2
        refine gx_call0 rfl rfl s101.1 rfl rfl r104 rfl ?_
        refine ex_go (S := (20, [(2, .inl bx), (0, gx_r 383), (1, .inl e)], [gx_r 383], t104, n, 0)) rfl (fun _ => rfl) rfl ?_
        refine ex_go (S := (22, [(2, .inl bx), (0, gx_r 383), (1, .inl e)], [.inl 6, gx_r 383], t104, n, 0)) rfl (fun _ => rfl) rfl ?_
        refine ex_go (S := (23, [(2, .inl bx), (0, gx_r 383), (1, .inl e)], [.inl 0, .inl 6, gx_r 383], t104, n, 0)) rfl (fun _ => rfl) rfl ?_
        obtain ⟨_, r105, t105, rfl, s105, e105, k105, ko105, kz105⟩ := pk_emit (d + l + 2) n (s104) (o := 6) (z := 0) (by first | decide | omega) (by first | decide | omega) (by first | decide | omega) k104
        have b105 := s105.2.2.2
        refine gx_call0 rfl rfl s104.1 rfl rfl r105 rfl ?_
        refine ex_go (S := (5, [(2, .inl bx), (0, gx_r 383), (1, .inl e)], [], t105, n, 0)) rfl (fun _ => rfl) rfl ?_
        exact ih t105 a104 f104 (c104 + 1) [(2, .inl bx)] (Or.inr ⟨bx, by omega, rfl⟩) (by first | decide | omega) (px_X_bin hx (by first | decide | omega) (by first | decide | omega) (fun c i h => e101 c i (by first | decide | omega)) x104 (by first | decide | omega) s105 e105 k105 ko105 kz105)
theorem pk_products {l e : Nat} (h : ∀ d, px_C (d + l + 3) 288 e) (he : e ≤ 5) (d : Nat) : px_C (d + l + 4) 286 e := by
  intro n t0 a f c s0 kc hca
  have b0 := s0.2.2.2
  refine en_u_ex (d := d + l + 3) rfl ?_
  show en_ex _ _ _ _ (0, [(0, gx_r 383), (1, .inl e)], [], t0, n, 0) _
  refine ex_go (S := (1, [(0, gx_r 383), (1, .inl e)], [gx_r 383], t0, n, 0)) rfl (fun _ => rfl) rfl ?_
  refine ex_go (S := (2, [(0, gx_r 383), (1, .inl e)], [.inl e, gx_r 383], t0, n, 0)) rfl (fun _ => rfl) rfl ?_
  obtain ⟨_, r101, t101, a101, f101, c101, rfl, x101⟩ := h d n _ _ _ _ s0 kc (by first | decide | omega)
  have s101 := x101.1
  have e101 := x101.2.1
  have k101 := x101.2.2.1
  have q101 := x101.2.2.2.1
  have b101 := s101.2.2.2
  refine gx_call0 rfl rfl s0.1 rfl rfl r101 rfl ?_
  exact pk_products_l h he d n hca 1000 t101 a101 f101 c101 [] (Or.inl rfl) (by first | decide | omega) x101
theorem pk_sums_l {l e : Nat} (h : ∀ d, px_C (d + l + 4) 286 e) (he : e ≤ 5) (d n : Nat) {tb : en_H} {ab fb cb : Nat} (hcb : cb ≤ ab) : ∀ j t0 a f c lx, (lx = [] ∨ ∃ b, b ≤ 1 ∧ lx = [(2, .inl b)]) → 1000 ≤ a + j → px_X tb ab fb cb t0 a f c → en_ex none (en_u (d + l + 4)) (en_code 282) (fun _ => false) (5, lx ++ [(0, gx_r 383), (1, .inl e)], [], t0, n, 0) (fun o => ∃ r, o = .inl r ∧ ∃ t' a' f' c', r = (none, t', n, 0) ∧ px_X tb ab fb cb t' a' f' c') := by
  intro j
  induction j with
  | zero =>
    intro t0 a f c lx hlx hj hx
    have s0 := hx.1
    have kc := hx.2.2.1
    have q0 := hx.2.2.2.1
    have b0 := s0.2.2.2
    rcases hlx with rfl | ⟨bx, hbx, rfl⟩
    · show en_ex _ _ _ _ (5, [(0, gx_r 383), (1, .inl e)], [], t0, n, 0) _
      refine ex_go (S := (6, [(0, gx_r 383), (1, .inl e)], [gx_r 383], t0, n, 0)) rfl (fun _ => rfl) rfl ?_
      refine ex_go (S := (8, [(0, gx_r 383), (1, .inl e)], [.inl 43, gx_r 383], t0, n, 0)) rfl (fun _ => rfl) rfl ?_
      obtain ⟨_, r3, b1, rfl, q2⟩ := pk_isSign (d + l + 3) n (s0) (w := 43)
      refine gx_call1 rfl rfl s0.1 rfl rfl r3 rfl ?_
      by_cases hc4 : b1 ≠ 0
      · refine gx_1t (c := .ne) rfl (by first | decide | omega) hc4 rfl ?_
        refine ex_go (S := (24, [(0, gx_r 383), (1, .inl e)], [gx_r 383], t0, n, 0)) rfl (fun _ => rfl) rfl ?_
        refine ex_go (S := (26, [(0, gx_r 383), (1, .inl e)], [.inl 43, gx_r 383], t0, n, 0)) rfl (fun _ => rfl) rfl ?_
        obtain ⟨_, r7, b5, rfl, q6⟩ := pk_isSign (d + l + 3) n (s0) (w := 43)
        refine gx_call1 rfl rfl s0.1 rfl rfl r7 rfl ?_
        refine ex_go (S := (30, [(2, .inl b5), (0, gx_r 383), (1, .inl e)], [], t0, n, 0)) rfl (fun _ => rfl) rfl ?_
        refine ex_go (S := (31, [(2, .inl b5), (0, gx_r 383), (1, .inl e)], [gx_r 383], t0, n, 0)) rfl (fun _ => rfl) rfl ?_
        refine ex_go (S := (32, [(2, .inl b5), (0, gx_r 383), (1, .inl e)], [gx_r 383, gx_r 383], t0, n, 0)) rfl (fun _ => rfl) rfl ?_
        refine gx_get rfl s0.1 rfl s0.2.1 rfl ?_
        refine ex_go (S := (36, [(2, .inl b5), (0, gx_r 383), (1, .inl e)], [.inl 1, .inl a, gx_r 383], t0, n, 0)) rfl (fun _ => rfl) rfl ?_
        refine ex_iadd rfl (by first | decide | omega) rfl ?_
        refine gx_put rfl s0.1 rfl rfl (ai_in_h (by first | decide | omega) (by first | decide | omega) (by first | decide | omega)) rfl (fun t108 g108 k108 e108 => ?_)
        have k9 : ai_hv t108 383 13 = some (.inl c) := (e108 383 13 (by first | decide | omega)).trans kc
        have s108 : px_S t108 (a + 1) f := ⟨g108, k108, (e108 383 8 (by first | decide | omega)).trans s0.2.2.1, by omega, s0.2.2.2.2⟩
        refine ex_go (S := (41, [(2, .inl b5), (0, gx_r 383), (1, .inl e)], [gx_r 383], t108, n, 0)) rfl (fun _ => rfl) rfl ?_
        refine ex_go (S := (42, [(2, .inl b5), (0, gx_r 383), (1, .inl e)], [.inl e, gx_r 383], t108, n, 0)) rfl (fun _ => rfl) rfl ?_
        obtain ⟨_, r110, t110, a110, f110, c110, rfl, x110⟩ := h d n _ _ _ _ s108 k9 (by first | decide | omega)
        have s110 := x110.1
        have e110 := x110.2.1
        have k110 := x110.2.2.1
        have q110 := x110.2.2.2.1
        have b110 := s110.2.2.2
        refine gx_call0 rfl rfl s108.1 rfl rfl r110 rfl ?_
        refine ex_go (S := (46, [(2, .inl b5), (0, gx_r 383), (1, .inl e)], [gx_r 383], t110, n, 0)) rfl (fun _ => rfl) rfl ?_
        refine ex_go (S := (47, [(2, .inl b5), (0, gx_r 383), (1, .inl e)], [.inl b5, gx_r 383], t110, n, 0)) rfl (fun _ => rfl) rfl ?_
        by_cases hc11 : b5 = 0
        · refine gx_1t (c := .eq) rfl (by first | decide | omega) hc11 rfl ?_
          refine ex_go (S := (55, [(2, .inl b5), (0, gx_r 383), (1, .inl e)], [.inl 5, gx_r 383], t110, n, 0)) rfl (fun _ => rfl) rfl ?_
          refine ex_go (S := (56, [(2, .inl b5), (0, gx_r 383), (1, .inl e)], [.inl 0, .inl 5, gx_r 383], t110, n, 0)) rfl (fun _ => rfl) rfl ?_
          obtain ⟨_, r112, t112, rfl, s112, e112, k112, ko112, kz112⟩ := pk_emit (d + l + 3) n (s110) (o := 5) (z := 0) (by first | decide | omega) (by first | decide | omega) (by first | decide | omega) k110
          have b112 := s112.2.2.2
          refine gx_call0 rfl rfl s110.1 rfl rfl r112 rfl ?_
          refine ex_go (S := (5, [(2, .inl b5), (0, gx_r 383), (1, .inl e)], [], t112, n, 0)) rfl (fun _ => rfl) rfl ?_
          exfalso; omega
        · refine gx_1f (c := .eq) rfl (by first | decide | omega) hc11 rfl ?_
          refine ex_go (S := (51, [(2, .inl b5), (0, gx_r 383), (1, .inl e)], [.inl 4, gx_r 383], t110, n, 0)) rfl (fun _ => rfl) rfl ?_
          refine ex_go (S := (55, [(2, .inl b5), (0, gx_r 383), (1, .inl e)], [.inl 4, gx_r 383], t110, n, 0)) rfl (fun _ => rfl) rfl ?_
          refine ex_go (S := (56, [(2, .inl b5), (0, gx_r 383), (1, .inl e)], [.inl 0, .inl 4, gx_r 383], t110, n, 0)) rfl (fun _ => rfl) rfl ?_
          obtain ⟨_, r113, t113, rfl, s113, e113, k113, ko113, kz113⟩ := pk_emit (d + l + 3) n (s110) (o := 4) (z := 0) (by first | decide | omega) (by first | decide | omega) (by first | decide | omega) k110
          have b113 := s113.2.2.2
          refine gx_call0 rfl rfl s110.1 rfl rfl r113 rfl ?_
          refine ex_go (S := (5, [(2, .inl b5), (0, gx_r 383), (1, .inl e)], [], t113, n, 0)) rfl (fun _ => rfl) rfl ?_
          exfalso; omega
      · refine gx_1f (c := .ne) rfl (by first | decide | omega) hc4 rfl ?_
        refine ex_go (S := (15, [(0, gx_r 383), (1, .inl e)], [gx_r 383], t0, n, 0)) rfl (fun _ => rfl) rfl ?_
        refine ex_go (S := (17, [(0, gx_r 383), (1, .inl e)], [.inl 45, gx_r 383], t0, n, 0)) rfl (fun _ => rfl) rfl ?_
        obtain ⟨_, r16, b14, rfl, q15⟩ := pk_isSign (d + l + 3) n (s0) (w := 45)
        refine gx_call1 rfl rfl s0.1 rfl rfl r16 rfl ?_
        by_cases hc17 : b14 = 0
        · refine gx_1t (c := .eq) rfl (by first | decide | omega) hc17 rfl ?_
          refine ex_ret (r := (none, t0, n, 0)) rfl (fun _ => rfl) ?_
          exact ⟨_, rfl, t0, a, f, c, rfl, px_X_same hx (fun _ _ _ => rfl) s0 (by first | decide | omega) (by first | decide | omega)⟩
        · refine gx_1f (c := .eq) rfl (by first | decide | omega) hc17 rfl ?_
          refine ex_go (S := (24, [(0, gx_r 383), (1, .inl e)], [gx_r 383], t0, n, 0)) rfl (fun _ => rfl) rfl ?_
          refine ex_go (S := (26, [(0, gx_r 383), (1, .inl e)], [.inl 43, gx_r 383], t0, n, 0)) rfl (fun _ => rfl) rfl ?_
          obtain ⟨_, r20, b18, rfl, q19⟩ := pk_isSign (d + l + 3) n (s0) (w := 43)
          refine gx_call1 rfl rfl s0.1 rfl rfl r20 rfl ?_
          refine ex_go (S := (30, [(2, .inl b18), (0, gx_r 383), (1, .inl e)], [], t0, n, 0)) rfl (fun _ => rfl) rfl ?_
          refine ex_go (S := (31, [(2, .inl b18), (0, gx_r 383), (1, .inl e)], [gx_r 383], t0, n, 0)) rfl (fun _ => rfl) rfl ?_
          refine ex_go (S := (32, [(2, .inl b18), (0, gx_r 383), (1, .inl e)], [gx_r 383, gx_r 383], t0, n, 0)) rfl (fun _ => rfl) rfl ?_
          refine gx_get rfl s0.1 rfl s0.2.1 rfl ?_
          refine ex_go (S := (36, [(2, .inl b18), (0, gx_r 383), (1, .inl e)], [.inl 1, .inl a, gx_r 383], t0, n, 0)) rfl (fun _ => rfl) rfl ?_
          refine ex_iadd rfl (by first | decide | omega) rfl ?_
          refine gx_put rfl s0.1 rfl rfl (ai_in_h (by first | decide | omega) (by first | decide | omega) (by first | decide | omega)) rfl (fun t121 g121 k121 e121 => ?_)
          have k22 : ai_hv t121 383 13 = some (.inl c) := (e121 383 13 (by first | decide | omega)).trans kc
          have s121 : px_S t121 (a + 1) f := ⟨g121, k121, (e121 383 8 (by first | decide | omega)).trans s0.2.2.1, by omega, s0.2.2.2.2⟩
          refine ex_go (S := (41, [(2, .inl b18), (0, gx_r 383), (1, .inl e)], [gx_r 383], t121, n, 0)) rfl (fun _ => rfl) rfl ?_
          refine ex_go (S := (42, [(2, .inl b18), (0, gx_r 383), (1, .inl e)], [.inl e, gx_r 383], t121, n, 0)) rfl (fun _ => rfl) rfl ?_
          obtain ⟨_, r123, t123, a123, f123, c123, rfl, x123⟩ := h d n _ _ _ _ s121 k22 (by first | decide | omega)
          have s123 := x123.1
          have e123 := x123.2.1
          have k123 := x123.2.2.1
          have q123 := x123.2.2.2.1
          have b123 := s123.2.2.2
          refine gx_call0 rfl rfl s121.1 rfl rfl r123 rfl ?_
          refine ex_go (S := (46, [(2, .inl b18), (0, gx_r 383), (1, .inl e)], [gx_r 383], t123, n, 0)) rfl (fun _ => rfl) rfl ?_
          refine ex_go (S := (47, [(2, .inl b18), (0, gx_r 383), (1, .inl e)], [.inl b18, gx_r 383], t123, n, 0)) rfl (fun _ => rfl) rfl ?_
          by_cases hc24 : b18 = 0
          · refine gx_1t (c := .eq) rfl (by first | decide | omega) hc24 rfl ?_
            refine ex_go (S := (55, [(2, .inl b18), (0, gx_r 383), (1, .inl e)], [.inl 5, gx_r 383], t123, n, 0)) rfl (fun _ => rfl) rfl ?_
            refine ex_go (S := (56, [(2, .inl b18), (0, gx_r 383), (1, .inl e)], [.inl 0, .inl 5, gx_r 383], t123, n, 0)) rfl (fun _ => rfl) rfl ?_
            obtain ⟨_, r125, t125, rfl, s125, e125, k125, ko125, kz125⟩ := pk_emit (d + l + 3) n (s123) (o := 5) (z := 0) (by first | decide | omega) (by first | decide | omega) (by first | decide | omega) k123
            have b125 := s125.2.2.2
            refine gx_call0 rfl rfl s123.1 rfl rfl r125 rfl ?_
            refine ex_go (S := (5, [(2, .inl b18), (0, gx_r 383), (1, .inl e)], [], t125, n, 0)) rfl (fun _ => rfl) rfl ?_
            exfalso; omega
          · refine gx_1f (c := .eq) rfl (by first | decide | omega) hc24 rfl ?_
            refine ex_go (S := (51, [(2, .inl b18), (0, gx_r 383), (1, .inl e)], [.inl 4, gx_r 383], t123, n, 0)) rfl (fun _ => rfl) rfl ?_
            refine ex_go (S := (55, [(2, .inl b18), (0, gx_r 383), (1, .inl e)], [.inl 4, gx_r 383], t123, n, 0)) rfl (fun _ => rfl) rfl ?_
            refine ex_go (S := (56, [(2, .inl b18), (0, gx_r 383), (1, .inl e)], [.inl 0, .inl 4, gx_r 383], t123, n, 0)) rfl (fun _ => rfl) rfl ?_
            obtain ⟨_, r126, t126, rfl, s126, e126, k126, ko126, kz126⟩ := pk_emit (d + l + 3) n (s123) (o := 4) (z := 0) (by first | decide | omega) (by first | decide | omega) (by first | decide | omega) k123
            have b126 := s126.2.2.2
            refine gx_call0 rfl rfl s123.1 rfl rfl r126 rfl ?_
            refine ex_go (S := (5, [(2, .inl b18), (0, gx_r 383), (1, .inl e)], [], t126, n, 0)) rfl (fun _ => rfl) rfl ?_
            exfalso; omega
    · show en_ex _ _ _ _ (5, [(2, .inl bx), (0, gx_r 383), (1, .inl e)], [], t0, n, 0) _
      refine ex_go (S := (6, [(2, .inl bx), (0, gx_r 383), (1, .inl e)], [gx_r 383], t0, n, 0)) rfl (fun _ => rfl) rfl ?_
      refine ex_go (S := (8, [(2, .inl bx), (0, gx_r 383), (1, .inl e)], [.inl 43, gx_r 383], t0, n, 0)) rfl (fun _ => rfl) rfl ?_
      obtain ⟨_, r3, b1, rfl, q2⟩ := pk_isSign (d + l + 3) n (s0) (w := 43)
      refine gx_call1 rfl rfl s0.1 rfl rfl r3 rfl ?_
      by_cases hc4 : b1 ≠ 0
      · refine gx_1t (c := .ne) rfl (by first | decide | omega) hc4 rfl ?_
        refine ex_go (S := (24, [(2, .inl bx), (0, gx_r 383), (1, .inl e)], [gx_r 383], t0, n, 0)) rfl (fun _ => rfl) rfl ?_
        refine ex_go (S := (26, [(2, .inl bx), (0, gx_r 383), (1, .inl e)], [.inl 43, gx_r 383], t0, n, 0)) rfl (fun _ => rfl) rfl ?_
        obtain ⟨_, r7, b5, rfl, q6⟩ := pk_isSign (d + l + 3) n (s0) (w := 43)
        refine gx_call1 rfl rfl s0.1 rfl rfl r7 rfl ?_
        refine ex_go (S := (30, [(2, .inl b5), (0, gx_r 383), (1, .inl e)], [], t0, n, 0)) rfl (fun _ => rfl) rfl ?_
        refine ex_go (S := (31, [(2, .inl b5), (0, gx_r 383), (1, .inl e)], [gx_r 383], t0, n, 0)) rfl (fun _ => rfl) rfl ?_
        refine ex_go (S := (32, [(2, .inl b5), (0, gx_r 383), (1, .inl e)], [gx_r 383, gx_r 383], t0, n, 0)) rfl (fun _ => rfl) rfl ?_
        refine gx_get rfl s0.1 rfl s0.2.1 rfl ?_
        refine ex_go (S := (36, [(2, .inl b5), (0, gx_r 383), (1, .inl e)], [.inl 1, .inl a, gx_r 383], t0, n, 0)) rfl (fun _ => rfl) rfl ?_
        refine ex_iadd rfl (by first | decide | omega) rfl ?_
        refine gx_put rfl s0.1 rfl rfl (ai_in_h (by first | decide | omega) (by first | decide | omega) (by first | decide | omega)) rfl (fun t108 g108 k108 e108 => ?_)
        have k9 : ai_hv t108 383 13 = some (.inl c) := (e108 383 13 (by first | decide | omega)).trans kc
        have s108 : px_S t108 (a + 1) f := ⟨g108, k108, (e108 383 8 (by first | decide | omega)).trans s0.2.2.1, by omega, s0.2.2.2.2⟩
        refine ex_go (S := (41, [(2, .inl b5), (0, gx_r 383), (1, .inl e)], [gx_r 383], t108, n, 0)) rfl (fun _ => rfl) rfl ?_
        refine ex_go (S := (42, [(2, .inl b5), (0, gx_r 383), (1, .inl e)], [.inl e, gx_r 383], t108, n, 0)) rfl (fun _ => rfl) rfl ?_
        obtain ⟨_, r110, t110, a110, f110, c110, rfl, x110⟩ := h d n _ _ _ _ s108 k9 (by first | decide | omega)
        have s110 := x110.1
        have e110 := x110.2.1
        have k110 := x110.2.2.1
        have q110 := x110.2.2.2.1
        have b110 := s110.2.2.2
        refine gx_call0 rfl rfl s108.1 rfl rfl r110 rfl ?_
        refine ex_go (S := (46, [(2, .inl b5), (0, gx_r 383), (1, .inl e)], [gx_r 383], t110, n, 0)) rfl (fun _ => rfl) rfl ?_
        refine ex_go (S := (47, [(2, .inl b5), (0, gx_r 383), (1, .inl e)], [.inl b5, gx_r 383], t110, n, 0)) rfl (fun _ => rfl) rfl ?_
        by_cases hc11 : b5 = 0
        · refine gx_1t (c := .eq) rfl (by first | decide | omega) hc11 rfl ?_
          refine ex_go (S := (55, [(2, .inl b5), (0, gx_r 383), (1, .inl e)], [.inl 5, gx_r 383], t110, n, 0)) rfl (fun _ => rfl) rfl ?_
          refine ex_go (S := (56, [(2, .inl b5), (0, gx_r 383), (1, .inl e)], [.inl 0, .inl 5, gx_r 383], t110, n, 0)) rfl (fun _ => rfl) rfl ?_
          obtain ⟨_, r112, t112, rfl, s112, e112, k112, ko112, kz112⟩ := pk_emit (d + l + 3) n (s110) (o := 5) (z := 0) (by first | decide | omega) (by first | decide | omega) (by first | decide | omega) k110
          have b112 := s112.2.2.2
          refine gx_call0 rfl rfl s110.1 rfl rfl r112 rfl ?_
          refine ex_go (S := (5, [(2, .inl b5), (0, gx_r 383), (1, .inl e)], [], t112, n, 0)) rfl (fun _ => rfl) rfl ?_
          exfalso; omega
        · refine gx_1f (c := .eq) rfl (by first | decide | omega) hc11 rfl ?_
          refine ex_go (S := (51, [(2, .inl b5), (0, gx_r 383), (1, .inl e)], [.inl 4, gx_r 383], t110, n, 0)) rfl (fun _ => rfl) rfl ?_
          refine ex_go (S := (55, [(2, .inl b5), (0, gx_r 383), (1, .inl e)], [.inl 4, gx_r 383], t110, n, 0)) rfl (fun _ => rfl) rfl ?_
          refine ex_go (S := (56, [(2, .inl b5), (0, gx_r 383), (1, .inl e)], [.inl 0, .inl 4, gx_r 383], t110, n, 0)) rfl (fun _ => rfl) rfl ?_
          obtain ⟨_, r113, t113, rfl, s113, e113, k113, ko113, kz113⟩ := pk_emit (d + l + 3) n (s110) (o := 4) (z := 0) (by first | decide | omega) (by first | decide | omega) (by first | decide | omega) k110
          have b113 := s113.2.2.2
          refine gx_call0 rfl rfl s110.1 rfl rfl r113 rfl ?_
          refine ex_go (S := (5, [(2, .inl b5), (0, gx_r 383), (1, .inl e)], [], t113, n, 0)) rfl (fun _ => rfl) rfl ?_
          exfalso; omega
      · refine gx_1f (c := .ne) rfl (by first | decide | omega) hc4 rfl ?_
        refine ex_go (S := (15, [(2, .inl bx), (0, gx_r 383), (1, .inl e)], [gx_r 383], t0, n, 0)) rfl (fun _ => rfl) rfl ?_
        refine ex_go (S := (17, [(2, .inl bx), (0, gx_r 383), (1, .inl e)], [.inl 45, gx_r 383], t0, n, 0)) rfl (fun _ => rfl) rfl ?_
        obtain ⟨_, r16, b14, rfl, q15⟩ := pk_isSign (d + l + 3) n (s0) (w := 45)
        refine gx_call1 rfl rfl s0.1 rfl rfl r16 rfl ?_
        by_cases hc17 : b14 = 0
        · refine gx_1t (c := .eq) rfl (by first | decide | omega) hc17 rfl ?_
          refine ex_ret (r := (none, t0, n, 0)) rfl (fun _ => rfl) ?_
          exact ⟨_, rfl, t0, a, f, c, rfl, px_X_same hx (fun _ _ _ => rfl) s0 (by first | decide | omega) (by first | decide | omega)⟩
        · refine gx_1f (c := .eq) rfl (by first | decide | omega) hc17 rfl ?_
          refine ex_go (S := (24, [(2, .inl bx), (0, gx_r 383), (1, .inl e)], [gx_r 383], t0, n, 0)) rfl (fun _ => rfl) rfl ?_
          refine ex_go (S := (26, [(2, .inl bx), (0, gx_r 383), (1, .inl e)], [.inl 43, gx_r 383], t0, n, 0)) rfl (fun _ => rfl) rfl ?_
          obtain ⟨_, r20, b18, rfl, q19⟩ := pk_isSign (d + l + 3) n (s0) (w := 43)
          refine gx_call1 rfl rfl s0.1 rfl rfl r20 rfl ?_
          refine ex_go (S := (30, [(2, .inl b18), (0, gx_r 383), (1, .inl e)], [], t0, n, 0)) rfl (fun _ => rfl) rfl ?_
          refine ex_go (S := (31, [(2, .inl b18), (0, gx_r 383), (1, .inl e)], [gx_r 383], t0, n, 0)) rfl (fun _ => rfl) rfl ?_
          refine ex_go (S := (32, [(2, .inl b18), (0, gx_r 383), (1, .inl e)], [gx_r 383, gx_r 383], t0, n, 0)) rfl (fun _ => rfl) rfl ?_
          refine gx_get rfl s0.1 rfl s0.2.1 rfl ?_
          refine ex_go (S := (36, [(2, .inl b18), (0, gx_r 383), (1, .inl e)], [.inl 1, .inl a, gx_r 383], t0, n, 0)) rfl (fun _ => rfl) rfl ?_
          refine ex_iadd rfl (by first | decide | omega) rfl ?_
          refine gx_put rfl s0.1 rfl rfl (ai_in_h (by first | decide | omega) (by first | decide | omega) (by first | decide | omega)) rfl (fun t121 g121 k121 e121 => ?_)
          have k22 : ai_hv t121 383 13 = some (.inl c) := (e121 383 13 (by first | decide | omega)).trans kc
          have s121 : px_S t121 (a + 1) f := ⟨g121, k121, (e121 383 8 (by first | decide | omega)).trans s0.2.2.1, by omega, s0.2.2.2.2⟩
          refine ex_go (S := (41, [(2, .inl b18), (0, gx_r 383), (1, .inl e)], [gx_r 383], t121, n, 0)) rfl (fun _ => rfl) rfl ?_
          refine ex_go (S := (42, [(2, .inl b18), (0, gx_r 383), (1, .inl e)], [.inl e, gx_r 383], t121, n, 0)) rfl (fun _ => rfl) rfl ?_
          obtain ⟨_, r123, t123, a123, f123, c123, rfl, x123⟩ := h d n _ _ _ _ s121 k22 (by first | decide | omega)
          have s123 := x123.1
          have e123 := x123.2.1
          have k123 := x123.2.2.1
          have q123 := x123.2.2.2.1
          have b123 := s123.2.2.2
          refine gx_call0 rfl rfl s121.1 rfl rfl r123 rfl ?_
          refine ex_go (S := (46, [(2, .inl b18), (0, gx_r 383), (1, .inl e)], [gx_r 383], t123, n, 0)) rfl (fun _ => rfl) rfl ?_
          refine ex_go (S := (47, [(2, .inl b18), (0, gx_r 383), (1, .inl e)], [.inl b18, gx_r 383], t123, n, 0)) rfl (fun _ => rfl) rfl ?_
          by_cases hc24 : b18 = 0
          · refine gx_1t (c := .eq) rfl (by first | decide | omega) hc24 rfl ?_
            refine ex_go (S := (55, [(2, .inl b18), (0, gx_r 383), (1, .inl e)], [.inl 5, gx_r 383], t123, n, 0)) rfl (fun _ => rfl) rfl ?_
            refine ex_go (S := (56, [(2, .inl b18), (0, gx_r 383), (1, .inl e)], [.inl 0, .inl 5, gx_r 383], t123, n, 0)) rfl (fun _ => rfl) rfl ?_
            obtain ⟨_, r125, t125, rfl, s125, e125, k125, ko125, kz125⟩ := pk_emit (d + l + 3) n (s123) (o := 5) (z := 0) (by first | decide | omega) (by first | decide | omega) (by first | decide | omega) k123
            have b125 := s125.2.2.2
            refine gx_call0 rfl rfl s123.1 rfl rfl r125 rfl ?_
            refine ex_go (S := (5, [(2, .inl b18), (0, gx_r 383), (1, .inl e)], [], t125, n, 0)) rfl (fun _ => rfl) rfl ?_
            exfalso; omega
          · refine gx_1f (c := .eq) rfl (by first | decide | omega) hc24 rfl ?_
            refine ex_go (S := (51, [(2, .inl b18), (0, gx_r 383), (1, .inl e)], [.inl 4, gx_r 383], t123, n, 0)) rfl (fun _ => rfl) rfl ?_
            refine ex_go (S := (55, [(2, .inl b18), (0, gx_r 383), (1, .inl e)], [.inl 4, gx_r 383], t123, n, 0)) rfl (fun _ => rfl) rfl ?_
            refine ex_go (S := (56, [(2, .inl b18), (0, gx_r 383), (1, .inl e)], [.inl 0, .inl 4, gx_r 383], t123, n, 0)) rfl (fun _ => rfl) rfl ?_
            obtain ⟨_, r126, t126, rfl, s126, e126, k126, ko126, kz126⟩ := pk_emit (d + l + 3) n (s123) (o := 4) (z := 0) (by first | decide | omega) (by first | decide | omega) (by first | decide | omega) k123
            have b126 := s126.2.2.2
            refine gx_call0 rfl rfl s123.1 rfl rfl r126 rfl ?_
            refine ex_go (S := (5, [(2, .inl b18), (0, gx_r 383), (1, .inl e)], [], t126, n, 0)) rfl (fun _ => rfl) rfl ?_
            exfalso; omega
  | succ j ih =>
    intro t0 a f c lx hlx hj hx
    have s0 := hx.1
    have kc := hx.2.2.1
    have q0 := hx.2.2.2.1
    have b0 := s0.2.2.2
    rcases hlx with rfl | ⟨bx, hbx, rfl⟩
    · show en_ex _ _ _ _ (5, [(0, gx_r 383), (1, .inl e)], [], t0, n, 0) _
      refine ex_go (S := (6, [(0, gx_r 383), (1, .inl e)], [gx_r 383], t0, n, 0)) rfl (fun _ => rfl) rfl ?_
      refine ex_go (S := (8, [(0, gx_r 383), (1, .inl e)], [.inl 43, gx_r 383], t0, n, 0)) rfl (fun _ => rfl) rfl ?_
      obtain ⟨_, r3, b1, rfl, q2⟩ := pk_isSign (d + l + 3) n (s0) (w := 43)
      refine gx_call1 rfl rfl s0.1 rfl rfl r3 rfl ?_
      by_cases hc4 : b1 ≠ 0
      · refine gx_1t (c := .ne) rfl (by first | decide | omega) hc4 rfl ?_
        refine ex_go (S := (24, [(0, gx_r 383), (1, .inl e)], [gx_r 383], t0, n, 0)) rfl (fun _ => rfl) rfl ?_
        refine ex_go (S := (26, [(0, gx_r 383), (1, .inl e)], [.inl 43, gx_r 383], t0, n, 0)) rfl (fun _ => rfl) rfl ?_
        obtain ⟨_, r7, b5, rfl, q6⟩ := pk_isSign (d + l + 3) n (s0) (w := 43)
        refine gx_call1 rfl rfl s0.1 rfl rfl r7 rfl ?_
        refine ex_go (S := (30, [(2, .inl b5), (0, gx_r 383), (1, .inl e)], [], t0, n, 0)) rfl (fun _ => rfl) rfl ?_
        refine ex_go (S := (31, [(2, .inl b5), (0, gx_r 383), (1, .inl e)], [gx_r 383], t0, n, 0)) rfl (fun _ => rfl) rfl ?_
        refine ex_go (S := (32, [(2, .inl b5), (0, gx_r 383), (1, .inl e)], [gx_r 383, gx_r 383], t0, n, 0)) rfl (fun _ => rfl) rfl ?_
        refine gx_get rfl s0.1 rfl s0.2.1 rfl ?_
        refine ex_go (S := (36, [(2, .inl b5), (0, gx_r 383), (1, .inl e)], [.inl 1, .inl a, gx_r 383], t0, n, 0)) rfl (fun _ => rfl) rfl ?_
        refine ex_iadd rfl (by first | decide | omega) rfl ?_
        refine gx_put rfl s0.1 rfl rfl (ai_in_h (by first | decide | omega) (by first | decide | omega) (by first | decide | omega)) rfl (fun t108 g108 k108 e108 => ?_)
        have k9 : ai_hv t108 383 13 = some (.inl c) := (e108 383 13 (by first | decide | omega)).trans kc
        have s108 : px_S t108 (a + 1) f := ⟨g108, k108, (e108 383 8 (by first | decide | omega)).trans s0.2.2.1, by omega, s0.2.2.2.2⟩
        refine ex_go (S := (41, [(2, .inl b5), (0, gx_r 383), (1, .inl e)], [gx_r 383], t108, n, 0)) rfl (fun _ => rfl) rfl ?_
        refine ex_go (S := (42, [(2, .inl b5), (0, gx_r 383), (1, .inl e)], [.inl e, gx_r 383], t108, n, 0)) rfl (fun _ => rfl) rfl ?_
        obtain ⟨_, r110, t110, a110, f110, c110, rfl, x110⟩ := h d n _ _ _ _ s108 k9 (by first | decide | omega)
        have s110 := x110.1
        have e110 := x110.2.1
        have k110 := x110.2.2.1
        have q110 := x110.2.2.2.1
        have b110 := s110.2.2.2
        refine gx_call0 rfl rfl s108.1 rfl rfl r110 rfl ?_
        refine ex_go (S := (46, [(2, .inl b5), (0, gx_r 383), (1, .inl e)], [gx_r 383], t110, n, 0)) rfl (fun _ => rfl) rfl ?_
        refine ex_go (S := (47, [(2, .inl b5), (0, gx_r 383), (1, .inl e)], [.inl b5, gx_r 383], t110, n, 0)) rfl (fun _ => rfl) rfl ?_
        by_cases hc11 : b5 = 0
        · refine gx_1t (c := .eq) rfl (by first | decide | omega) hc11 rfl ?_
          refine ex_go (S := (55, [(2, .inl b5), (0, gx_r 383), (1, .inl e)], [.inl 5, gx_r 383], t110, n, 0)) rfl (fun _ => rfl) rfl ?_
          refine ex_go (S := (56, [(2, .inl b5), (0, gx_r 383), (1, .inl e)], [.inl 0, .inl 5, gx_r 383], t110, n, 0)) rfl (fun _ => rfl) rfl ?_
          obtain ⟨_, r112, t112, rfl, s112, e112, k112, ko112, kz112⟩ := pk_emit (d + l + 3) n (s110) (o := 5) (z := 0) (by first | decide | omega) (by first | decide | omega) (by first | decide | omega) k110
          have b112 := s112.2.2.2
          refine gx_call0 rfl rfl s110.1 rfl rfl r112 rfl ?_
          refine ex_go (S := (5, [(2, .inl b5), (0, gx_r 383), (1, .inl e)], [], t112, n, 0)) rfl (fun _ => rfl) rfl ?_
          exact ih t112 a110 f110 (c110 + 1) [(2, .inl b5)] (Or.inr ⟨b5, by omega, rfl⟩) (by first | decide | omega) (px_X_bin hx (by first | decide | omega) (by first | decide | omega) (fun c i h => e108 c i (by first | decide | omega)) x110 (by first | decide | omega) s112 e112 k112 ko112 kz112)
        · refine gx_1f (c := .eq) rfl (by first | decide | omega) hc11 rfl ?_
          refine ex_go (S := (51, [(2, .inl b5), (0, gx_r 383), (1, .inl e)], [.inl 4, gx_r 383], t110, n, 0)) rfl (fun _ => rfl) rfl ?_
          refine ex_go (S := (55, [(2, .inl b5), (0, gx_r 383), (1, .inl e)], [.inl 4, gx_r 383], t110, n, 0)) rfl (fun _ => rfl) rfl ?_
          refine ex_go (S := (56, [(2, .inl b5), (0, gx_r 383), (1, .inl e)], [.inl 0, .inl 4, gx_r 383], t110, n, 0)) rfl (fun _ => rfl) rfl ?_
          obtain ⟨_, r113, t113, rfl, s113, e113, k113, ko113, kz113⟩ := pk_emit (d + l + 3) n (s110) (o := 4) (z := 0) (by first | decide | omega) (by first | decide | omega) (by first | decide | omega) k110
          have b113 := s113.2.2.2
          refine gx_call0 rfl rfl s110.1 rfl rfl r113 rfl ?_
          refine ex_go (S := (5, [(2, .inl b5), (0, gx_r 383), (1, .inl e)], [], t113, n, 0)) rfl (fun _ => rfl) rfl ?_
          exact ih t113 a110 f110 (c110 + 1) [(2, .inl b5)] (Or.inr ⟨b5, by omega, rfl⟩) (by first | decide | omega) (px_X_bin hx (by first | decide | omega) (by first | decide | omega) (fun c i h => e108 c i (by first | decide | omega)) x110 (by first | decide | omega) s113 e113 k113 ko113 kz113)
      · refine gx_1f (c := .ne) rfl (by first | decide | omega) hc4 rfl ?_
        refine ex_go (S := (15, [(0, gx_r 383), (1, .inl e)], [gx_r 383], t0, n, 0)) rfl (fun _ => rfl) rfl ?_
        refine ex_go (S := (17, [(0, gx_r 383), (1, .inl e)], [.inl 45, gx_r 383], t0, n, 0)) rfl (fun _ => rfl) rfl ?_
        obtain ⟨_, r16, b14, rfl, q15⟩ := pk_isSign (d + l + 3) n (s0) (w := 45)
        refine gx_call1 rfl rfl s0.1 rfl rfl r16 rfl ?_
        by_cases hc17 : b14 = 0
        · refine gx_1t (c := .eq) rfl (by first | decide | omega) hc17 rfl ?_
          refine ex_ret (r := (none, t0, n, 0)) rfl (fun _ => rfl) ?_
          exact ⟨_, rfl, t0, a, f, c, rfl, px_X_same hx (fun _ _ _ => rfl) s0 (by first | decide | omega) (by first | decide | omega)⟩
        · refine gx_1f (c := .eq) rfl (by first | decide | omega) hc17 rfl ?_
          refine ex_go (S := (24, [(0, gx_r 383), (1, .inl e)], [gx_r 383], t0, n, 0)) rfl (fun _ => rfl) rfl ?_
          refine ex_go (S := (26, [(0, gx_r 383), (1, .inl e)], [.inl 43, gx_r 383], t0, n, 0)) rfl (fun _ => rfl) rfl ?_
          obtain ⟨_, r20, b18, rfl, q19⟩ := pk_isSign (d + l + 3) n (s0) (w := 43)
          refine gx_call1 rfl rfl s0.1 rfl rfl r20 rfl ?_
          refine ex_go (S := (30, [(2, .inl b18), (0, gx_r 383), (1, .inl e)], [], t0, n, 0)) rfl (fun _ => rfl) rfl ?_
          refine ex_go (S := (31, [(2, .inl b18), (0, gx_r 383), (1, .inl e)], [gx_r 383], t0, n, 0)) rfl (fun _ => rfl) rfl ?_
          refine ex_go (S := (32, [(2, .inl b18), (0, gx_r 383), (1, .inl e)], [gx_r 383, gx_r 383], t0, n, 0)) rfl (fun _ => rfl) rfl ?_
          refine gx_get rfl s0.1 rfl s0.2.1 rfl ?_
          refine ex_go (S := (36, [(2, .inl b18), (0, gx_r 383), (1, .inl e)], [.inl 1, .inl a, gx_r 383], t0, n, 0)) rfl (fun _ => rfl) rfl ?_
          refine ex_iadd rfl (by first | decide | omega) rfl ?_
          refine gx_put rfl s0.1 rfl rfl (ai_in_h (by first | decide | omega) (by first | decide | omega) (by first | decide | omega)) rfl (fun t121 g121 k121 e121 => ?_)
          have k22 : ai_hv t121 383 13 = some (.inl c) := (e121 383 13 (by first | decide | omega)).trans kc
          have s121 : px_S t121 (a + 1) f := ⟨g121, k121, (e121 383 8 (by first | decide | omega)).trans s0.2.2.1, by omega, s0.2.2.2.2⟩
          refine ex_go (S := (41, [(2, .inl b18), (0, gx_r 383), (1, .inl e)], [gx_r 383], t121, n, 0)) rfl (fun _ => rfl) rfl ?_
          refine ex_go (S := (42, [(2, .inl b18), (0, gx_r 383), (1, .inl e)], [.inl e, gx_r 383], t121, n, 0)) rfl (fun _ => rfl) rfl ?_
          obtain ⟨_, r123, t123, a123, f123, c123, rfl, x123⟩ := h d n _ _ _ _ s121 k22 (by first | decide | omega)
          have s123 := x123.1
          have e123 := x123.2.1
          have k123 := x123.2.2.1
          have q123 := x123.2.2.2.1
          have b123 := s123.2.2.2
          refine gx_call0 rfl rfl s121.1 rfl rfl r123 rfl ?_
          refine ex_go (S := (46, [(2, .inl b18), (0, gx_r 383), (1, .inl e)], [gx_r 383], t123, n, 0)) rfl (fun _ => rfl) rfl ?_
          refine ex_go (S := (47, [(2, .inl b18), (0, gx_r 383), (1, .inl e)], [.inl b18, gx_r 383], t123, n, 0)) rfl (fun _ => rfl) rfl ?_
          by_cases hc24 : b18 = 0
          · refine gx_1t (c := .eq) rfl (by first | decide | omega) hc24 rfl ?_
            refine ex_go (S := (55, [(2, .inl b18), (0, gx_r 383), (1, .inl e)], [.inl 5, gx_r 383], t123, n, 0)) rfl (fun _ => rfl) rfl ?_
            refine ex_go (S := (56, [(2, .inl b18), (0, gx_r 383), (1, .inl e)], [.inl 0, .inl 5, gx_r 383], t123, n, 0)) rfl (fun _ => rfl) rfl ?_
            obtain ⟨_, r125, t125, rfl, s125, e125, k125, ko125, kz125⟩ := pk_emit (d + l + 3) n (s123) (o := 5) (z := 0) (by first | decide | omega) (by first | decide | omega) (by first | decide | omega) k123
            have b125 := s125.2.2.2
            refine gx_call0 rfl rfl s123.1 rfl rfl r125 rfl ?_
            refine ex_go (S := (5, [(2, .inl b18), (0, gx_r 383), (1, .inl e)], [], t125, n, 0)) rfl (fun _ => rfl) rfl ?_
            exact ih t125 a123 f123 (c123 + 1) [(2, .inl b18)] (Or.inr ⟨b18, by omega, rfl⟩) (by first | decide | omega) (px_X_bin hx (by first | decide | omega) (by first | decide | omega) (fun c i h => e121 c i (by first | decide | omega)) x123 (by first | decide | omega) s125 e125 k125 ko125 kz125)
          · refine gx_1f (c := .eq) rfl (by first | decide | omega) hc24 rfl ?_
            refine ex_go (S := (51, [(2, .inl b18), (0, gx_r 383), (1, .inl e)], [.inl 4, gx_r 383], t123, n, 0)) rfl (fun _ => rfl) rfl ?_
            refine ex_go (S := (55, [(2, .inl b18), (0, gx_r 383), (1, .inl e)], [.inl 4, gx_r 383], t123, n, 0)) rfl (fun _ => rfl) rfl ?_
            refine ex_go (S := (56, [(2, .inl b18), (0, gx_r 383), (1, .inl e)], [.inl 0, .inl 4, gx_r 383], t123, n, 0)) rfl (fun _ => rfl) rfl ?_
            obtain ⟨_, r126, t126, rfl, s126, e126, k126, ko126, kz126⟩ := pk_emit (d + l + 3) n (s123) (o := 4) (z := 0) (by first | decide | omega) (by first | decide | omega) (by first | decide | omega) k123
            have b126 := s126.2.2.2
            refine gx_call0 rfl rfl s123.1 rfl rfl r126 rfl ?_
            refine ex_go (S := (5, [(2, .inl b18), (0, gx_r 383), (1, .inl e)], [], t126, n, 0)) rfl (fun _ => rfl) rfl ?_
            exact ih t126 a123 f123 (c123 + 1) [(2, .inl b18)] (Or.inr ⟨b18, by omega, rfl⟩) (by first | decide | omega) (px_X_bin hx (by first | decide | omega) (by first | decide | omega) (fun c i h => e121 c i (by first | decide | omega)) x123 (by first | decide | omega) s126 e126 k126 ko126 kz126)
    · show en_ex _ _ _ _ (5, [(2, .inl bx), (0, gx_r 383), (1, .inl e)], [], t0, n, 0) _
      refine ex_go (S := (6, [(2, .inl bx), (0, gx_r 383), (1, .inl e)], [gx_r 383], t0, n, 0)) rfl (fun _ => rfl) rfl ?_
      refine ex_go (S := (8, [(2, .inl bx), (0, gx_r 383), (1, .inl e)], [.inl 43, gx_r 383], t0, n, 0)) rfl (fun _ => rfl) rfl ?_
      obtain ⟨_, r3, b1, rfl, q2⟩ := pk_isSign (d + l + 3) n (s0) (w := 43)
      refine gx_call1 rfl rfl s0.1 rfl rfl r3 rfl ?_
      by_cases hc4 : b1 ≠ 0
      · refine gx_1t (c := .ne) rfl (by first | decide | omega) hc4 rfl ?_
        refine ex_go (S := (24, [(2, .inl bx), (0, gx_r 383), (1, .inl e)], [gx_r 383], t0, n, 0)) rfl (fun _ => rfl) rfl ?_
        refine ex_go (S := (26, [(2, .inl bx), (0, gx_r 383), (1, .inl e)], [.inl 43, gx_r 383], t0, n, 0)) rfl (fun _ => rfl) rfl ?_
        obtain ⟨_, r7, b5, rfl, q6⟩ := pk_isSign (d + l + 3) n (s0) (w := 43)
        refine gx_call1 rfl rfl s0.1 rfl rfl r7 rfl ?_
        refine ex_go (S := (30, [(2, .inl b5), (0, gx_r 383), (1, .inl e)], [], t0, n, 0)) rfl (fun _ => rfl) rfl ?_
        refine ex_go (S := (31, [(2, .inl b5), (0, gx_r 383), (1, .inl e)], [gx_r 383], t0, n, 0)) rfl (fun _ => rfl) rfl ?_
        refine ex_go (S := (32, [(2, .inl b5), (0, gx_r 383), (1, .inl e)], [gx_r 383, gx_r 383], t0, n, 0)) rfl (fun _ => rfl) rfl ?_
        refine gx_get rfl s0.1 rfl s0.2.1 rfl ?_
        refine ex_go (S := (36, [(2, .inl b5), (0, gx_r 383), (1, .inl e)], [.inl 1, .inl a, gx_r 383], t0, n, 0)) rfl (fun _ => rfl) rfl ?_
        refine ex_iadd rfl (by first | decide | omega) rfl ?_
        refine gx_put rfl s0.1 rfl rfl (ai_in_h (by first | decide | omega) (by first | decide | omega) (by first | decide | omega)) rfl (fun t108 g108 k108 e108 => ?_)
        have k9 : ai_hv t108 383 13 = some (.inl c) := (e108 383 13 (by first | decide | omega)).trans kc
        have s108 : px_S t108 (a + 1) f := ⟨g108, k108, (e108 383 8 (by first | decide | omega)).trans s0.2.2.1, by omega, s0.2.2.2.2⟩
        refine ex_go (S := (41, [(2, .inl b5), (0, gx_r 383), (1, .inl e)], [gx_r 383], t108, n, 0)) rfl (fun _ => rfl) rfl ?_
        refine ex_go (S := (42, [(2, .inl b5), (0, gx_r 383), (1, .inl e)], [.inl e, gx_r 383], t108, n, 0)) rfl (fun _ => rfl) rfl ?_
        obtain ⟨_, r110, t110, a110, f110, c110, rfl, x110⟩ := h d n _ _ _ _ s108 k9 (by first | decide | omega)
        have s110 := x110.1
        have e110 := x110.2.1
        have k110 := x110.2.2.1
        have q110 := x110.2.2.2.1
        have b110 := s110.2.2.2
        refine gx_call0 rfl rfl s108.1 rfl rfl r110 rfl ?_
        refine ex_go (S := (46, [(2, .inl b5), (0, gx_r 383), (1, .inl e)], [gx_r 383], t110, n, 0)) rfl (fun _ => rfl) rfl ?_
        refine ex_go (S := (47, [(2, .inl b5), (0, gx_r 383), (1, .inl e)], [.inl b5, gx_r 383], t110, n, 0)) rfl (fun _ => rfl) rfl ?_
        by_cases hc11 : b5 = 0
        · refine gx_1t (c := .eq) rfl (by first | decide | omega) hc11 rfl ?_
          refine ex_go (S := (55, [(2, .inl b5), (0, gx_r 383), (1, .inl e)], [.inl 5, gx_r 383], t110, n, 0)) rfl (fun _ => rfl) rfl ?_
          refine ex_go (S := (56, [(2, .inl b5), (0, gx_r 383), (1, .inl e)], [.inl 0, .inl 5, gx_r 383], t110, n, 0)) rfl (fun _ => rfl) rfl ?_
          obtain ⟨_, r112, t112, rfl, s112, e112, k112, ko112, kz112⟩ := pk_emit (d + l + 3) n (s110) (o := 5) (z := 0) (by first | decide | omega) (by first | decide | omega) (by first | decide | omega) k110
          have b112 := s112.2.2.2
          refine gx_call0 rfl rfl s110.1 rfl rfl r112 rfl ?_
          refine ex_go (S := (5, [(2, .inl b5), (0, gx_r 383), (1, .inl e)], [], t112, n, 0)) rfl (fun _ => rfl) rfl ?_
          exact ih t112 a110 f110 (c110 + 1) [(2, .inl b5)] (Or.inr ⟨b5, by omega, rfl⟩) (by first | decide | omega) (px_X_bin hx (by first | decide | omega) (by first | decide | omega) (fun c i h => e108 c i (by first | decide | omega)) x110 (by first | decide | omega) s112 e112 k112 ko112 kz112)
        · refine gx_1f (c := .eq) rfl (by first | decide | omega) hc11 rfl ?_
          refine ex_go (S := (51, [(2, .inl b5), (0, gx_r 383), (1, .inl e)], [.inl 4, gx_r 383], t110, n, 0)) rfl (fun _ => rfl) rfl ?_
          refine ex_go (S := (55, [(2, .inl b5), (0, gx_r 383), (1, .inl e)], [.inl 4, gx_r 383], t110, n, 0)) rfl (fun _ => rfl) rfl ?_
          refine ex_go (S := (56, [(2, .inl b5), (0, gx_r 383), (1, .inl e)], [.inl 0, .inl 4, gx_r 383], t110, n, 0)) rfl (fun _ => rfl) rfl ?_
          obtain ⟨_, r113, t113, rfl, s113, e113, k113, ko113, kz113⟩ := pk_emit (d + l + 3) n (s110) (o := 4) (z := 0) (by first | decide | omega) (by first | decide | omega) (by first | decide | omega) k110
          have b113 := s113.2.2.2
          refine gx_call0 rfl rfl s110.1 rfl rfl r113 rfl ?_
          refine ex_go (S := (5, [(2, .inl b5), (0, gx_r 383), (1, .inl e)], [], t113, n, 0)) rfl (fun _ => rfl) rfl ?_
          exact ih t113 a110 f110 (c110 + 1) [(2, .inl b5)] (Or.inr ⟨b5, by omega, rfl⟩) (by first | decide | omega) (px_X_bin hx (by first | decide | omega) (by first | decide | omega) (fun c i h => e108 c i (by first | decide | omega)) x110 (by first | decide | omega) s113 e113 k113 ko113 kz113)
      · refine gx_1f (c := .ne) rfl (by first | decide | omega) hc4 rfl ?_
        refine ex_go (S := (15, [(2, .inl bx), (0, gx_r 383), (1, .inl e)], [gx_r 383], t0, n, 0)) rfl (fun _ => rfl) rfl ?_
        refine ex_go (S := (17, [(2, .inl bx), (0, gx_r 383), (1, .inl e)], [.inl 45, gx_r 383], t0, n, 0)) rfl (fun _ => rfl) rfl ?_
        obtain ⟨_, r16, b14, rfl, q15⟩ := pk_isSign (d + l + 3) n (s0) (w := 45)
        refine gx_call1 rfl rfl s0.1 rfl rfl r16 rfl ?_
        by_cases hc17 : b14 = 0
        · refine gx_1t (c := .eq) rfl (by first | decide | omega) hc17 rfl ?_
          refine ex_ret (r := (none, t0, n, 0)) rfl (fun _ => rfl) ?_
          exact ⟨_, rfl, t0, a, f, c, rfl, px_X_same hx (fun _ _ _ => rfl) s0 (by first | decide | omega) (by first | decide | omega)⟩
        · refine gx_1f (c := .eq) rfl (by first | decide | omega) hc17 rfl ?_
          refine ex_go (S := (24, [(2, .inl bx), (0, gx_r 383), (1, .inl e)], [gx_r 383], t0, n, 0)) rfl (fun _ => rfl) rfl ?_
          refine ex_go (S := (26, [(2, .inl bx), (0, gx_r 383), (1, .inl e)], [.inl 43, gx_r 383], t0, n, 0)) rfl (fun _ => rfl) rfl ?_
          obtain ⟨_, r20, b18, rfl, q19⟩ := pk_isSign (d + l + 3) n (s0) (w := 43)
          refine gx_call1 rfl rfl s0.1 rfl rfl r20 rfl ?_
          refine ex_go (S := (30, [(2, .inl b18), (0, gx_r 383), (1, .inl e)], [], t0, n, 0)) rfl (fun _ => rfl) rfl ?_
          refine ex_go (S := (31, [(2, .inl b18), (0, gx_r 383), (1, .inl e)], [gx_r 383], t0, n, 0)) rfl (fun _ => rfl) rfl ?_
          refine ex_go (S := (32, [(2, .inl b18), (0, gx_r 383), (1, .inl e)], [gx_r 383, gx_r 383], t0, n, 0)) rfl (fun _ => rfl) rfl ?_
          refine gx_get rfl s0.1 rfl s0.2.1 rfl ?_
          refine ex_go (S := (36, [(2, .inl b18), (0, gx_r 383), (1, .inl e)], [.inl 1, .inl a, gx_r 383], t0, n, 0)) rfl (fun _ => rfl) rfl ?_
          refine ex_iadd rfl (by first | decide | omega) rfl ?_
          refine gx_put rfl s0.1 rfl rfl (ai_in_h (by first | decide | omega) (by first | decide | omega) (by first | decide | omega)) rfl (fun t121 g121 k121 e121 => ?_)
          have k22 : ai_hv t121 383 13 = some (.inl c) := (e121 383 13 (by first | decide | omega)).trans kc
          have s121 : px_S t121 (a + 1) f := ⟨g121, k121, (e121 383 8 (by first | decide | omega)).trans s0.2.2.1, by omega, s0.2.2.2.2⟩
          refine ex_go (S := (41, [(2, .inl b18), (0, gx_r 383), (1, .inl e)], [gx_r 383], t121, n, 0)) rfl (fun _ => rfl) rfl ?_
          refine ex_go (S := (42, [(2, .inl b18), (0, gx_r 383), (1, .inl e)], [.inl e, gx_r 383], t121, n, 0)) rfl (fun _ => rfl) rfl ?_
          obtain ⟨_, r123, t123, a123, f123, c123, rfl, x123⟩ := h d n _ _ _ _ s121 k22 (by first | decide | omega)
          have s123 := x123.1
          have e123 := x123.2.1
          have k123 := x123.2.2.1
          have q123 := x123.2.2.2.1
          have b123 := s123.2.2.2
          refine gx_call0 rfl rfl s121.1 rfl rfl r123 rfl ?_
          refine ex_go (S := (46, [(2, .inl b18), (0, gx_r 383), (1, .inl e)], [gx_r 383], t123, n, 0)) rfl (fun _ => rfl) rfl ?_
          refine ex_go (S := (47, [(2, .inl b18), (0, gx_r 383), (1, .inl e)], [.inl b18, gx_r 383], t123, n, 0)) rfl (fun _ => rfl) rfl ?_
          by_cases hc24 : b18 = 0
          · refine gx_1t (c := .eq) rfl (by first | decide | omega) hc24 rfl ?_
            refine ex_go (S := (55, [(2, .inl b18), (0, gx_r 383), (1, .inl e)], [.inl 5, gx_r 383], t123, n, 0)) rfl (fun _ => rfl) rfl ?_
            refine ex_go (S := (56, [(2, .inl b18), (0, gx_r 383), (1, .inl e)], [.inl 0, .inl 5, gx_r 383], t123, n, 0)) rfl (fun _ => rfl) rfl ?_
            obtain ⟨_, r125, t125, rfl, s125, e125, k125, ko125, kz125⟩ := pk_emit (d + l + 3) n (s123) (o := 5) (z := 0) (by first | decide | omega) (by first | decide | omega) (by first | decide | omega) k123
            have b125 := s125.2.2.2
            refine gx_call0 rfl rfl s123.1 rfl rfl r125 rfl ?_
            refine ex_go (S := (5, [(2, .inl b18), (0, gx_r 383), (1, .inl e)], [], t125, n, 0)) rfl (fun _ => rfl) rfl ?_
            exact ih t125 a123 f123 (c123 + 1) [(2, .inl b18)] (Or.inr ⟨b18, by omega, rfl⟩) (by first | decide | omega) (px_X_bin hx (by first | decide | omega) (by first | decide | omega) (fun c i h => e121 c i (by first | decide | omega)) x123 (by first | decide | omega) s125 e125 k125 ko125 kz125)
          · refine gx_1f (c := .eq) rfl (by first | decide | omega) hc24 rfl ?_
            refine ex_go (S := (51, [(2, .inl b18), (0, gx_r 383), (1, .inl e)], [.inl 4, gx_r 383], t123, n, 0)) rfl (fun _ => rfl) rfl ?_
            refine ex_go (S := (55, [(2, .inl b18), (0, gx_r 383), (1, .inl e)], [.inl 4, gx_r 383], t123, n, 0)) rfl (fun _ => rfl) rfl ?_
            refine ex_go (S := (56, [(2, .inl b18), (0, gx_r 383), (1, .inl e)], [.inl 0, .inl 4, gx_r 383], t123, n, 0)) rfl (fun _ => rfl) rfl ?_
            obtain ⟨_, r126, t126, rfl, s126, e126, k126, ko126, kz126⟩ := pk_emit (d + l + 3) n (s123) (o := 4) (z := 0) (by first | decide | omega) (by first | decide | omega) (by first | decide | omega) k123
            have b126 := s126.2.2.2
            refine gx_call0 rfl rfl s123.1 rfl rfl r126 rfl ?_
            refine ex_go (S := (5, [(2, .inl b18), (0, gx_r 383), (1, .inl e)], [], t126, n, 0)) rfl (fun _ => rfl) rfl ?_
            exact ih t126 a123 f123 (c123 + 1) [(2, .inl b18)] (Or.inr ⟨b18, by omega, rfl⟩) (by first | decide | omega) (px_X_bin hx (by first | decide | omega) (by first | decide | omega) (fun c i h => e121 c i (by first | decide | omega)) x123 (by first | decide | omega) s126 e126 k126 ko126 kz126)
theorem pk_sums {l e : Nat} (h : ∀ d, px_C (d + l + 4) 286 e) (he : e ≤ 5) (d : Nat) : px_C (d + l + 5) 282 e := by
  intro n t0 a f c s0 kc hca
  have b0 := s0.2.2.2
  refine en_u_ex (d := d + l + 4) rfl ?_
  show en_ex _ _ _ _ (0, [(0, gx_r 383), (1, .inl e)], [], t0, n, 0) _
  refine ex_go (S := (1, [(0, gx_r 383), (1, .inl e)], [gx_r 383], t0, n, 0)) rfl (fun _ => rfl) rfl ?_
  refine ex_go (S := (2, [(0, gx_r 383), (1, .inl e)], [.inl e, gx_r 383], t0, n, 0)) rfl (fun _ => rfl) rfl ?_
  obtain ⟨_, r101, t101, a101, f101, c101, rfl, x101⟩ := h d n _ _ _ _ s0 kc (by first | decide | omega)
  have s101 := x101.1
  have e101 := x101.2.1
  have k101 := x101.2.2.1
  have q101 := x101.2.2.2.1
  have b101 := s101.2.2.2
  refine gx_call0 rfl rfl s0.1 rfl rfl r101 rfl ?_
  exact pk_sums_l h he d n hca 1000 t101 a101 f101 c101 [] (Or.inl rfl) (by first | decide | omega) x101
theorem pk_test {l e : Nat} (h : ∀ d, px_C (d + l + 5) 282 e) (he : e ≤ 5) (d : Nat) : px_C (d + l + 6) 271 e := by
  intro n t0 a f c s0 kc hca
  have b0 := s0.2.2.2
  refine en_u_ex (d := d + l + 5) rfl ?_
  show en_ex _ _ _ _ (0, [(0, gx_r 383), (1, .inl e)], [], t0, n, 0) _
  refine ex_go (S := (1, [(0, gx_r 383), (1, .inl e)], [gx_r 383], t0, n, 0)) rfl (fun _ => rfl) rfl ?_
  refine ex_go (S := (2, [(0, gx_r 383), (1, .inl e)], [.inl e, gx_r 383], t0, n, 0)) rfl (fun _ => rfl) rfl ?_
  obtain ⟨_, r101, t101, a101, f101, c101, rfl, x101⟩ := h d n _ _ _ _ s0 kc (by first | decide | omega)
  have s101 := x101.1
  have e101 := x101.2.1
  have k101 := x101.2.2.1
  have q101 := x101.2.2.2.1
  have b101 := s101.2.2.2
  refine gx_call0 rfl rfl s0.1 rfl rfl r101 rfl ?_
  refine ex_go (S := (6, [(0, gx_r 383), (1, .inl e)], [gx_r 383], t101, n, 0)) rfl (fun _ => rfl) rfl ?_
  refine ex_go (S := (8, [(0, gx_r 383), (1, .inl e)], [.inl 60, gx_r 383], t101, n, 0)) rfl (fun _ => rfl) rfl ?_
  obtain ⟨_, r4, b2, rfl, q3⟩ := pk_isSign (d + l + 4) n (s101) (w := 60)
  refine gx_call1 rfl rfl s101.1 rfl rfl r4 rfl ?_
  refine ex_go (S := (12, [(2, .inl b2), (0, gx_r 383), (1, .inl e)], [], t101, n, 0)) rfl (fun _ => rfl) rfl ?_
  refine ex_go (S := (13, [(2, .inl b2), (0, gx_r 383), (1, .inl e)], [gx_r 383], t101, n, 0)) rfl (fun _ => rfl) rfl ?_
  refine ex_go (S := (15, [(2, .inl b2), (0, gx_r 383), (1, .inl e)], [.inl 60, gx_r 383], t101, n, 0)) rfl (fun _ => rfl) rfl ?_
  obtain ⟨_, r105, v105, t105, a105, f105, rfl, s105, e105, q105⟩ := pk_hasSign (d + l + 3) n (s101) (w := 60)
  have b105 := s105.2.2.2
  refine gx_call1 rfl rfl s101.1 rfl rfl r105 rfl ?_
  have k6 : ai_hv t105 383 13 = some (.inl c101) := (e105 383 13 (by first | decide | omega)).trans k101
  by_cases hc7 : v105 ≠ 0
  · refine gx_1t (c := .ne) rfl (by first | decide | omega) hc7 rfl ?_
    refine ex_go (S := (31, [(2, .inl b2), (0, gx_r 383), (1, .inl e)], [gx_r 383], t105, n, 0)) rfl (fun _ => rfl) rfl ?_
    refine ex_go (S := (32, [(2, .inl b2), (0, gx_r 383), (1, .inl e)], [.inl e, gx_r 383], t105, n, 0)) rfl (fun _ => rfl) rfl ?_
    obtain ⟨_, r108, t108, a108, f108, c108, rfl, x108⟩ := h d n _ _ _ _ s105 k6 (by first | decide | omega)
    have s108 := x108.1
    have e108 := x108.2.1
    have k108 := x108.2.2.1
    have q108 := x108.2.2.2.1
    have b108 := s108.2.2.2
    refine gx_call0 rfl rfl s105.1 rfl rfl r108 rfl ?_
    refine ex_go (S := (36, [(2, .inl b2), (0, gx_r 383), (1, .inl e)], [gx_r 383], t108, n, 0)) rfl (fun _ => rfl) rfl ?_
    refine ex_go (S := (37, [(2, .inl b2), (0, gx_r 383), (1, .inl e)], [.inl b2, gx_r 383], t108, n, 0)) rfl (fun _ => rfl) rfl ?_
    by_cases hc9 : b2 = 0
    · refine gx_1t (c := .eq) rfl (by first | decide | omega) hc9 rfl ?_
      refine ex_go (S := (47, [(2, .inl b2), (0, gx_r 383), (1, .inl e)], [.inl 8, gx_r 383], t108, n, 0)) rfl (fun _ => rfl) rfl ?_
      refine ex_go (S := (48, [(2, .inl b2), (0, gx_r 383), (1, .inl e)], [.inl 0, .inl 8, gx_r 383], t108, n, 0)) rfl (fun _ => rfl) rfl ?_
      obtain ⟨_, r110, t110, rfl, s110, e110, k110, ko110, kz110⟩ := pk_emit (d + l + 4) n (s108) (o := 8) (z := 0) (by first | decide | omega) (by first | decide | omega) (by first | decide | omega) k108
      have b110 := s110.2.2.2
      refine gx_call0 rfl rfl s108.1 rfl rfl r110 rfl ?_
      refine ex_ret (r := (none, t110, n, 0)) rfl (fun _ => rfl) ?_
      exact ⟨_, rfl, t110, a108, f108, c108 + 1, rfl, px_X_bin x101 (by first | decide | omega) (by first | decide | omega) (fun c i h => e105 c i (by first | decide | omega)) x108 (by first | decide | omega) s110 e110 k110 ko110 kz110⟩
    · refine gx_1f (c := .eq) rfl (by first | decide | omega) hc9 rfl ?_
      refine ex_go (S := (42, [(2, .inl b2), (0, gx_r 383), (1, .inl e)], [.inl 7, gx_r 383], t108, n, 0)) rfl (fun _ => rfl) rfl ?_
      refine ex_go (S := (47, [(2, .inl b2), (0, gx_r 383), (1, .inl e)], [.inl 7, gx_r 383], t108, n, 0)) rfl (fun _ => rfl) rfl ?_
      refine ex_go (S := (48, [(2, .inl b2), (0, gx_r 383), (1, .inl e)], [.inl 0, .inl 7, gx_r 383], t108, n, 0)) rfl (fun _ => rfl) rfl ?_
      obtain ⟨_, r111, t111, rfl, s111, e111, k111, ko111, kz111⟩ := pk_emit (d + l + 4) n (s108) (o := 7) (z := 0) (by first | decide | omega) (by first | decide | omega) (by first | decide | omega) k108
      have b111 := s111.2.2.2
      refine gx_call0 rfl rfl s108.1 rfl rfl r111 rfl ?_
      refine ex_ret (r := (none, t111, n, 0)) rfl (fun _ => rfl) ?_
      exact ⟨_, rfl, t111, a108, f108, c108 + 1, rfl, px_X_bin x101 (by first | decide | omega) (by first | decide | omega) (fun c i h => e105 c i (by first | decide | omega)) x108 (by first | decide | omega) s111 e111 k111 ko111 kz111⟩
  · refine gx_1f (c := .ne) rfl (by first | decide | omega) hc7 rfl ?_
    refine ex_go (S := (22, [(2, .inl b2), (0, gx_r 383), (1, .inl e)], [gx_r 383], t105, n, 0)) rfl (fun _ => rfl) rfl ?_
    refine ex_go (S := (24, [(2, .inl b2), (0, gx_r 383), (1, .inl e)], [.inl 61, gx_r 383], t105, n, 0)) rfl (fun _ => rfl) rfl ?_
    obtain ⟨_, r112, v112, t112, a112, f112, rfl, s112, e112, q112⟩ := pk_hasSign (d + l + 3) n (s105) (w := 61)
    have b112 := s112.2.2.2
    refine gx_call1 rfl rfl s105.1 rfl rfl r112 rfl ?_
    have k13 : ai_hv t112 383 13 = some (.inl c101) := (e112 383 13 (by first | decide | omega)).trans k6
    by_cases hc14 : v112 = 0
    · refine gx_1t (c := .eq) rfl (by first | decide | omega) hc14 rfl ?_
      refine ex_ret (r := (none, t112, n, 0)) rfl (fun _ => rfl) ?_
      exact ⟨_, rfl, t112, a112, f112, c101, rfl, px_X_same x101 (fun c i h => (e112 c i (by first | decide | omega)).trans (e105 c i (by first | decide | omega))) s112 (by first | decide | omega) (by first | decide | omega)⟩
    · refine gx_1f (c := .eq) rfl (by first | decide | omega) hc14 rfl ?_
      refine ex_go (S := (31, [(2, .inl b2), (0, gx_r 383), (1, .inl e)], [gx_r 383], t112, n, 0)) rfl (fun _ => rfl) rfl ?_
      refine ex_go (S := (32, [(2, .inl b2), (0, gx_r 383), (1, .inl e)], [.inl e, gx_r 383], t112, n, 0)) rfl (fun _ => rfl) rfl ?_
      obtain ⟨_, r115, t115, a115, f115, c115, rfl, x115⟩ := h d n _ _ _ _ s112 k13 (by first | decide | omega)
      have s115 := x115.1
      have e115 := x115.2.1
      have k115 := x115.2.2.1
      have q115 := x115.2.2.2.1
      have b115 := s115.2.2.2
      refine gx_call0 rfl rfl s112.1 rfl rfl r115 rfl ?_
      refine ex_go (S := (36, [(2, .inl b2), (0, gx_r 383), (1, .inl e)], [gx_r 383], t115, n, 0)) rfl (fun _ => rfl) rfl ?_
      refine ex_go (S := (37, [(2, .inl b2), (0, gx_r 383), (1, .inl e)], [.inl b2, gx_r 383], t115, n, 0)) rfl (fun _ => rfl) rfl ?_
      by_cases hc16 : b2 = 0
      · refine gx_1t (c := .eq) rfl (by first | decide | omega) hc16 rfl ?_
        refine ex_go (S := (47, [(2, .inl b2), (0, gx_r 383), (1, .inl e)], [.inl 8, gx_r 383], t115, n, 0)) rfl (fun _ => rfl) rfl ?_
        refine ex_go (S := (48, [(2, .inl b2), (0, gx_r 383), (1, .inl e)], [.inl 0, .inl 8, gx_r 383], t115, n, 0)) rfl (fun _ => rfl) rfl ?_
        obtain ⟨_, r117, t117, rfl, s117, e117, k117, ko117, kz117⟩ := pk_emit (d + l + 4) n (s115) (o := 8) (z := 0) (by first | decide | omega) (by first | decide | omega) (by first | decide | omega) k115
        have b117 := s117.2.2.2
        refine gx_call0 rfl rfl s115.1 rfl rfl r117 rfl ?_
        refine ex_ret (r := (none, t117, n, 0)) rfl (fun _ => rfl) ?_
        exact ⟨_, rfl, t117, a115, f115, c115 + 1, rfl, px_X_bin x101 (by first | decide | omega) (by first | decide | omega) (fun c i h => (e112 c i (by first | decide | omega)).trans (e105 c i (by first | decide | omega))) x115 (by first | decide | omega) s117 e117 k117 ko117 kz117⟩
      · refine gx_1f (c := .eq) rfl (by first | decide | omega) hc16 rfl ?_
        refine ex_go (S := (42, [(2, .inl b2), (0, gx_r 383), (1, .inl e)], [.inl 7, gx_r 383], t115, n, 0)) rfl (fun _ => rfl) rfl ?_
        refine ex_go (S := (47, [(2, .inl b2), (0, gx_r 383), (1, .inl e)], [.inl 7, gx_r 383], t115, n, 0)) rfl (fun _ => rfl) rfl ?_
        refine ex_go (S := (48, [(2, .inl b2), (0, gx_r 383), (1, .inl e)], [.inl 0, .inl 7, gx_r 383], t115, n, 0)) rfl (fun _ => rfl) rfl ?_
        obtain ⟨_, r118, t118, rfl, s118, e118, k118, ko118, kz118⟩ := pk_emit (d + l + 4) n (s115) (o := 7) (z := 0) (by first | decide | omega) (by first | decide | omega) (by first | decide | omega) k115
        have b118 := s118.2.2.2
        refine gx_call0 rfl rfl s115.1 rfl rfl r118 rfl ?_
        refine ex_ret (r := (none, t118, n, 0)) rfl (fun _ => rfl) ?_
        exact ⟨_, rfl, t118, a115, f115, c115 + 1, rfl, px_X_bin x101 (by first | decide | omega) (by first | decide | omega) (fun c i h => (e112 c i (by first | decide | omega)).trans (e105 c i (by first | decide | omega))) x115 (by first | decide | omega) s118 e118 k118 ko118 kz118⟩
theorem pk_all_l {l e : Nat} (h : ∀ d, px_C (d + l + 6) 271 e) (he : e ≤ 5) (d n : Nat) {tb : en_H} {ab fb cb : Nat} (hcb : cb ≤ ab) : ∀ j t0 a f c lx, (lx = [] ∨ ∃ b, b ≤ 1 ∧ lx = [(2, .inl b)]) → 1000 ≤ a + j → px_X tb ab fb cb t0 a f c → en_ex none (en_u (d + l + 6)) (en_code 247) (fun _ => false) (5, lx ++ [(0, gx_r 383), (1, .inl e)], [], t0, n, 0) (fun o => ∃ r, o = .inl r ∧ ∃ t' a' f' c', r = (none, t', n, 0) ∧ px_X tb ab fb cb t' a' f' c') := by
  intro j
  induction j with
  | zero =>
    intro t0 a f c lx hlx hj hx
    have s0 := hx.1
    have kc := hx.2.2.1
    have q0 := hx.2.2.2.1
    have b0 := s0.2.2.2
    rcases hlx with rfl | ⟨bx, hbx, rfl⟩
    · show en_ex _ _ _ _ (5, [(0, gx_r 383), (1, .inl e)], [], t0, n, 0) _
      refine ex_go (S := (6, [(0, gx_r 383), (1, .inl e)], [gx_r 383], t0, n, 0)) rfl (fun _ => rfl) rfl ?_
      refine ex_go (S := (8, [(0, gx_r 383), (1, .inl e)], [.inl 36, gx_r 383], t0, n, 0)) rfl (fun _ => rfl) rfl ?_
      obtain ⟨_, r3, b1, rfl, q2⟩ := pk_isWord (d + l + 5) n (s0) (w := 36) (by first | decide | omega)
      refine gx_call1 rfl rfl s0.1 rfl rfl r3 rfl ?_
      by_cases hc4 : b1 ≠ 0
      · refine gx_1t (c := .ne) rfl (by first | decide | omega) hc4 rfl ?_
        refine ex_go (S := (24, [(0, gx_r 383), (1, .inl e)], [gx_r 383], t0, n, 0)) rfl (fun _ => rfl) rfl ?_
        refine ex_go (S := (26, [(0, gx_r 383), (1, .inl e)], [.inl 36, gx_r 383], t0, n, 0)) rfl (fun _ => rfl) rfl ?_
        obtain ⟨_, r7, b5, rfl, q6⟩ := pk_isWord (d + l + 5) n (s0) (w := 36) (by first | decide | omega)
        refine gx_call1 rfl rfl s0.1 rfl rfl r7 rfl ?_
        refine ex_go (S := (30, [(2, .inl b5), (0, gx_r 383), (1, .inl e)], [], t0, n, 0)) rfl (fun _ => rfl) rfl ?_
        refine ex_go (S := (31, [(2, .inl b5), (0, gx_r 383), (1, .inl e)], [gx_r 383], t0, n, 0)) rfl (fun _ => rfl) rfl ?_
        refine ex_go (S := (32, [(2, .inl b5), (0, gx_r 383), (1, .inl e)], [gx_r 383, gx_r 383], t0, n, 0)) rfl (fun _ => rfl) rfl ?_
        refine gx_get rfl s0.1 rfl s0.2.1 rfl ?_
        refine ex_go (S := (36, [(2, .inl b5), (0, gx_r 383), (1, .inl e)], [.inl 1, .inl a, gx_r 383], t0, n, 0)) rfl (fun _ => rfl) rfl ?_
        refine ex_iadd rfl (by first | decide | omega) rfl ?_
        refine gx_put rfl s0.1 rfl rfl (ai_in_h (by first | decide | omega) (by first | decide | omega) (by first | decide | omega)) rfl (fun t108 g108 k108 e108 => ?_)
        have k9 : ai_hv t108 383 13 = some (.inl c) := (e108 383 13 (by first | decide | omega)).trans kc
        have s108 : px_S t108 (a + 1) f := ⟨g108, k108, (e108 383 8 (by first | decide | omega)).trans s0.2.2.1, by omega, s0.2.2.2.2⟩
        refine ex_go (S := (41, [(2, .inl b5), (0, gx_r 383), (1, .inl e)], [gx_r 383], t108, n, 0)) rfl (fun _ => rfl) rfl ?_
        refine ex_go (S := (42, [(2, .inl b5), (0, gx_r 383), (1, .inl e)], [.inl e, gx_r 383], t108, n, 0)) rfl (fun _ => rfl) rfl ?_
        obtain ⟨_, r110, t110, a110, f110, c110, rfl, x110⟩ := h d n _ _ _ _ s108 k9 (by first | decide | omega)
        have s110 := x110.1
        have e110 := x110.2.1
        have k110 := x110.2.2.1
        have q110 := x110.2.2.2.1
        have b110 := s110.2.2.2
        refine gx_call0 rfl rfl s108.1 rfl rfl r110 rfl ?_
        refine ex_go (S := (46, [(2, .inl b5), (0, gx_r 383), (1, .inl e)], [gx_r 383], t110, n, 0)) rfl (fun _ => rfl) rfl ?_
        refine ex_go (S := (47, [(2, .inl b5), (0, gx_r 383), (1, .inl e)], [.inl b5, gx_r 383], t110, n, 0)) rfl (fun _ => rfl) rfl ?_
        by_cases hc11 : b5 = 0
        · refine gx_1t (c := .eq) rfl (by first | decide | omega) hc11 rfl ?_
          refine ex_go (S := (57, [(2, .inl b5), (0, gx_r 383), (1, .inl e)], [.inl 10, gx_r 383], t110, n, 0)) rfl (fun _ => rfl) rfl ?_
          refine ex_go (S := (58, [(2, .inl b5), (0, gx_r 383), (1, .inl e)], [.inl 0, .inl 10, gx_r 383], t110, n, 0)) rfl (fun _ => rfl) rfl ?_
          obtain ⟨_, r112, t112, rfl, s112, e112, k112, ko112, kz112⟩ := pk_emit (d + l + 5) n (s110) (o := 10) (z := 0) (by first | decide | omega) (by first | decide | omega) (by first | decide | omega) k110
          have b112 := s112.2.2.2
          refine gx_call0 rfl rfl s110.1 rfl rfl r112 rfl ?_
          refine ex_go (S := (5, [(2, .inl b5), (0, gx_r 383), (1, .inl e)], [], t112, n, 0)) rfl (fun _ => rfl) rfl ?_
          exfalso; omega
        · refine gx_1f (c := .eq) rfl (by first | decide | omega) hc11 rfl ?_
          refine ex_go (S := (52, [(2, .inl b5), (0, gx_r 383), (1, .inl e)], [.inl 9, gx_r 383], t110, n, 0)) rfl (fun _ => rfl) rfl ?_
          refine ex_go (S := (57, [(2, .inl b5), (0, gx_r 383), (1, .inl e)], [.inl 9, gx_r 383], t110, n, 0)) rfl (fun _ => rfl) rfl ?_
          refine ex_go (S := (58, [(2, .inl b5), (0, gx_r 383), (1, .inl e)], [.inl 0, .inl 9, gx_r 383], t110, n, 0)) rfl (fun _ => rfl) rfl ?_
          obtain ⟨_, r113, t113, rfl, s113, e113, k113, ko113, kz113⟩ := pk_emit (d + l + 5) n (s110) (o := 9) (z := 0) (by first | decide | omega) (by first | decide | omega) (by first | decide | omega) k110
          have b113 := s113.2.2.2
          refine gx_call0 rfl rfl s110.1 rfl rfl r113 rfl ?_
          refine ex_go (S := (5, [(2, .inl b5), (0, gx_r 383), (1, .inl e)], [], t113, n, 0)) rfl (fun _ => rfl) rfl ?_
          exfalso; omega
      · refine gx_1f (c := .ne) rfl (by first | decide | omega) hc4 rfl ?_
        refine ex_go (S := (15, [(0, gx_r 383), (1, .inl e)], [gx_r 383], t0, n, 0)) rfl (fun _ => rfl) rfl ?_
        refine ex_go (S := (17, [(0, gx_r 383), (1, .inl e)], [.inl 37, gx_r 383], t0, n, 0)) rfl (fun _ => rfl) rfl ?_
        obtain ⟨_, r16, b14, rfl, q15⟩ := pk_isWord (d + l + 5) n (s0) (w := 37) (by first | decide | omega)
        refine gx_call1 rfl rfl s0.1 rfl rfl r16 rfl ?_
        by_cases hc17 : b14 = 0
        · refine gx_1t (c := .eq) rfl (by first | decide | omega) hc17 rfl ?_
          refine ex_ret (r := (none, t0, n, 0)) rfl (fun _ => rfl) ?_
          exact ⟨_, rfl, t0, a, f, c, rfl, px_X_same hx (fun _ _ _ => rfl) s0 (by first | decide | omega) (by first | decide | omega)⟩
        · refine gx_1f (c := .eq) rfl (by first | decide | omega) hc17 rfl ?_
          refine ex_go (S := (24, [(0, gx_r 383), (1, .inl e)], [gx_r 383], t0, n, 0)) rfl (fun _ => rfl) rfl ?_
          refine ex_go (S := (26, [(0, gx_r 383), (1, .inl e)], [.inl 36, gx_r 383], t0, n, 0)) rfl (fun _ => rfl) rfl ?_
          obtain ⟨_, r20, b18, rfl, q19⟩ := pk_isWord (d + l + 5) n (s0) (w := 36) (by first | decide | omega)
          refine gx_call1 rfl rfl s0.1 rfl rfl r20 rfl ?_
          refine ex_go (S := (30, [(2, .inl b18), (0, gx_r 383), (1, .inl e)], [], t0, n, 0)) rfl (fun _ => rfl) rfl ?_
          refine ex_go (S := (31, [(2, .inl b18), (0, gx_r 383), (1, .inl e)], [gx_r 383], t0, n, 0)) rfl (fun _ => rfl) rfl ?_
          refine ex_go (S := (32, [(2, .inl b18), (0, gx_r 383), (1, .inl e)], [gx_r 383, gx_r 383], t0, n, 0)) rfl (fun _ => rfl) rfl ?_
          refine gx_get rfl s0.1 rfl s0.2.1 rfl ?_
          refine ex_go (S := (36, [(2, .inl b18), (0, gx_r 383), (1, .inl e)], [.inl 1, .inl a, gx_r 383], t0, n, 0)) rfl (fun _ => rfl) rfl ?_
          refine ex_iadd rfl (by first | decide | omega) rfl ?_
          refine gx_put rfl s0.1 rfl rfl (ai_in_h (by first | decide | omega) (by first | decide | omega) (by first | decide | omega)) rfl (fun t121 g121 k121 e121 => ?_)
          have k22 : ai_hv t121 383 13 = some (.inl c) := (e121 383 13 (by first | decide | omega)).trans kc
          have s121 : px_S t121 (a + 1) f := ⟨g121, k121, (e121 383 8 (by first | decide | omega)).trans s0.2.2.1, by omega, s0.2.2.2.2⟩
          refine ex_go (S := (41, [(2, .inl b18), (0, gx_r 383), (1, .inl e)], [gx_r 383], t121, n, 0)) rfl (fun _ => rfl) rfl ?_
          refine ex_go (S := (42, [(2, .inl b18), (0, gx_r 383), (1, .inl e)], [.inl e, gx_r 383], t121, n, 0)) rfl (fun _ => rfl) rfl ?_
          obtain ⟨_, r123, t123, a123, f123, c123, rfl, x123⟩ := h d n _ _ _ _ s121 k22 (by first | decide | omega)
          have s123 := x123.1
          have e123 := x123.2.1
          have k123 := x123.2.2.1
          have q123 := x123.2.2.2.1
          have b123 := s123.2.2.2
          refine gx_call0 rfl rfl s121.1 rfl rfl r123 rfl ?_
          refine ex_go (S := (46, [(2, .inl b18), (0, gx_r 383), (1, .inl e)], [gx_r 383], t123, n, 0)) rfl (fun _ => rfl) rfl ?_
          refine ex_go (S := (47, [(2, .inl b18), (0, gx_r 383), (1, .inl e)], [.inl b18, gx_r 383], t123, n, 0)) rfl (fun _ => rfl) rfl ?_
          by_cases hc24 : b18 = 0
          · refine gx_1t (c := .eq) rfl (by first | decide | omega) hc24 rfl ?_
            refine ex_go (S := (57, [(2, .inl b18), (0, gx_r 383), (1, .inl e)], [.inl 10, gx_r 383], t123, n, 0)) rfl (fun _ => rfl) rfl ?_
            refine ex_go (S := (58, [(2, .inl b18), (0, gx_r 383), (1, .inl e)], [.inl 0, .inl 10, gx_r 383], t123, n, 0)) rfl (fun _ => rfl) rfl ?_
            obtain ⟨_, r125, t125, rfl, s125, e125, k125, ko125, kz125⟩ := pk_emit (d + l + 5) n (s123) (o := 10) (z := 0) (by first | decide | omega) (by first | decide | omega) (by first | decide | omega) k123
            have b125 := s125.2.2.2
            refine gx_call0 rfl rfl s123.1 rfl rfl r125 rfl ?_
            refine ex_go (S := (5, [(2, .inl b18), (0, gx_r 383), (1, .inl e)], [], t125, n, 0)) rfl (fun _ => rfl) rfl ?_
            exfalso; omega
          · refine gx_1f (c := .eq) rfl (by first | decide | omega) hc24 rfl ?_
            refine ex_go (S := (52, [(2, .inl b18), (0, gx_r 383), (1, .inl e)], [.inl 9, gx_r 383], t123, n, 0)) rfl (fun _ => rfl) rfl ?_
            refine ex_go (S := (57, [(2, .inl b18), (0, gx_r 383), (1, .inl e)], [.inl 9, gx_r 383], t123, n, 0)) rfl (fun _ => rfl) rfl ?_
            refine ex_go (S := (58, [(2, .inl b18), (0, gx_r 383), (1, .inl e)], [.inl 0, .inl 9, gx_r 383], t123, n, 0)) rfl (fun _ => rfl) rfl ?_
            obtain ⟨_, r126, t126, rfl, s126, e126, k126, ko126, kz126⟩ := pk_emit (d + l + 5) n (s123) (o := 9) (z := 0) (by first | decide | omega) (by first | decide | omega) (by first | decide | omega) k123
            have b126 := s126.2.2.2
            refine gx_call0 rfl rfl s123.1 rfl rfl r126 rfl ?_
            refine ex_go (S := (5, [(2, .inl b18), (0, gx_r 383), (1, .inl e)], [], t126, n, 0)) rfl (fun _ => rfl) rfl ?_
            exfalso; omega
    · show en_ex _ _ _ _ (5, [(2, .inl bx), (0, gx_r 383), (1, .inl e)], [], t0, n, 0) _
      refine ex_go (S := (6, [(2, .inl bx), (0, gx_r 383), (1, .inl e)], [gx_r 383], t0, n, 0)) rfl (fun _ => rfl) rfl ?_
      refine ex_go (S := (8, [(2, .inl bx), (0, gx_r 383), (1, .inl e)], [.inl 36, gx_r 383], t0, n, 0)) rfl (fun _ => rfl) rfl ?_
      obtain ⟨_, r3, b1, rfl, q2⟩ := pk_isWord (d + l + 5) n (s0) (w := 36) (by first | decide | omega)
      refine gx_call1 rfl rfl s0.1 rfl rfl r3 rfl ?_
      by_cases hc4 : b1 ≠ 0
      · refine gx_1t (c := .ne) rfl (by first | decide | omega) hc4 rfl ?_
        refine ex_go (S := (24, [(2, .inl bx), (0, gx_r 383), (1, .inl e)], [gx_r 383], t0, n, 0)) rfl (fun _ => rfl) rfl ?_
        refine ex_go (S := (26, [(2, .inl bx), (0, gx_r 383), (1, .inl e)], [.inl 36, gx_r 383], t0, n, 0)) rfl (fun _ => rfl) rfl ?_
        obtain ⟨_, r7, b5, rfl, q6⟩ := pk_isWord (d + l + 5) n (s0) (w := 36) (by first | decide | omega)
        refine gx_call1 rfl rfl s0.1 rfl rfl r7 rfl ?_
        refine ex_go (S := (30, [(2, .inl b5), (0, gx_r 383), (1, .inl e)], [], t0, n, 0)) rfl (fun _ => rfl) rfl ?_
        refine ex_go (S := (31, [(2, .inl b5), (0, gx_r 383), (1, .inl e)], [gx_r 383], t0, n, 0)) rfl (fun _ => rfl) rfl ?_
        refine ex_go (S := (32, [(2, .inl b5), (0, gx_r 383), (1, .inl e)], [gx_r 383, gx_r 383], t0, n, 0)) rfl (fun _ => rfl) rfl ?_
        refine gx_get rfl s0.1 rfl s0.2.1 rfl ?_
        refine ex_go (S := (36, [(2, .inl b5), (0, gx_r 383), (1, .inl e)], [.inl 1, .inl a, gx_r 383], t0, n, 0)) rfl (fun _ => rfl) rfl ?_
        refine ex_iadd rfl (by first | decide | omega) rfl ?_
        refine gx_put rfl s0.1 rfl rfl (ai_in_h (by first | decide | omega) (by first | decide | omega) (by first | decide | omega)) rfl (fun t108 g108 k108 e108 => ?_)
        have k9 : ai_hv t108 383 13 = some (.inl c) := (e108 383 13 (by first | decide | omega)).trans kc
        have s108 : px_S t108 (a + 1) f := ⟨g108, k108, (e108 383 8 (by first | decide | omega)).trans s0.2.2.1, by omega, s0.2.2.2.2⟩
        refine ex_go (S := (41, [(2, .inl b5), (0, gx_r 383), (1, .inl e)], [gx_r 383], t108, n, 0)) rfl (fun _ => rfl) rfl ?_
        refine ex_go (S := (42, [(2, .inl b5), (0, gx_r 383), (1, .inl e)], [.inl e, gx_r 383], t108, n, 0)) rfl (fun _ => rfl) rfl ?_
        obtain ⟨_, r110, t110, a110, f110, c110, rfl, x110⟩ := h d n _ _ _ _ s108 k9 (by first | decide | omega)
        have s110 := x110.1
        have e110 := x110.2.1
        have k110 := x110.2.2.1
        have q110 := x110.2.2.2.1
        have b110 := s110.2.2.2
        refine gx_call0 rfl rfl s108.1 rfl rfl r110 rfl ?_
        refine ex_go (S := (46, [(2, .inl b5), (0, gx_r 383), (1, .inl e)], [gx_r 383], t110, n, 0)) rfl (fun _ => rfl) rfl ?_
        refine ex_go (S := (47, [(2, .inl b5), (0, gx_r 383), (1, .inl e)], [.inl b5, gx_r 383], t110, n, 0)) rfl (fun _ => rfl) rfl ?_
        by_cases hc11 : b5 = 0
        · refine gx_1t (c := .eq) rfl (by first | decide | omega) hc11 rfl ?_
          refine ex_go (S := (57, [(2, .inl b5), (0, gx_r 383), (1, .inl e)], [.inl 10, gx_r 383], t110, n, 0)) rfl (fun _ => rfl) rfl ?_
          refine ex_go (S := (58, [(2, .inl b5), (0, gx_r 383), (1, .inl e)], [.inl 0, .inl 10, gx_r 383], t110, n, 0)) rfl (fun _ => rfl) rfl ?_
          obtain ⟨_, r112, t112, rfl, s112, e112, k112, ko112, kz112⟩ := pk_emit (d + l + 5) n (s110) (o := 10) (z := 0) (by first | decide | omega) (by first | decide | omega) (by first | decide | omega) k110
          have b112 := s112.2.2.2
          refine gx_call0 rfl rfl s110.1 rfl rfl r112 rfl ?_
          refine ex_go (S := (5, [(2, .inl b5), (0, gx_r 383), (1, .inl e)], [], t112, n, 0)) rfl (fun _ => rfl) rfl ?_
          exfalso; omega
        · refine gx_1f (c := .eq) rfl (by first | decide | omega) hc11 rfl ?_
          refine ex_go (S := (52, [(2, .inl b5), (0, gx_r 383), (1, .inl e)], [.inl 9, gx_r 383], t110, n, 0)) rfl (fun _ => rfl) rfl ?_
          refine ex_go (S := (57, [(2, .inl b5), (0, gx_r 383), (1, .inl e)], [.inl 9, gx_r 383], t110, n, 0)) rfl (fun _ => rfl) rfl ?_
          refine ex_go (S := (58, [(2, .inl b5), (0, gx_r 383), (1, .inl e)], [.inl 0, .inl 9, gx_r 383], t110, n, 0)) rfl (fun _ => rfl) rfl ?_
          obtain ⟨_, r113, t113, rfl, s113, e113, k113, ko113, kz113⟩ := pk_emit (d + l + 5) n (s110) (o := 9) (z := 0) (by first | decide | omega) (by first | decide | omega) (by first | decide | omega) k110
          have b113 := s113.2.2.2
          refine gx_call0 rfl rfl s110.1 rfl rfl r113 rfl ?_
          refine ex_go (S := (5, [(2, .inl b5), (0, gx_r 383), (1, .inl e)], [], t113, n, 0)) rfl (fun _ => rfl) rfl ?_
          exfalso; omega
      · refine gx_1f (c := .ne) rfl (by first | decide | omega) hc4 rfl ?_
        refine ex_go (S := (15, [(2, .inl bx), (0, gx_r 383), (1, .inl e)], [gx_r 383], t0, n, 0)) rfl (fun _ => rfl) rfl ?_
        refine ex_go (S := (17, [(2, .inl bx), (0, gx_r 383), (1, .inl e)], [.inl 37, gx_r 383], t0, n, 0)) rfl (fun _ => rfl) rfl ?_
        obtain ⟨_, r16, b14, rfl, q15⟩ := pk_isWord (d + l + 5) n (s0) (w := 37) (by first | decide | omega)
        refine gx_call1 rfl rfl s0.1 rfl rfl r16 rfl ?_
        by_cases hc17 : b14 = 0
        · refine gx_1t (c := .eq) rfl (by first | decide | omega) hc17 rfl ?_
          refine ex_ret (r := (none, t0, n, 0)) rfl (fun _ => rfl) ?_
          exact ⟨_, rfl, t0, a, f, c, rfl, px_X_same hx (fun _ _ _ => rfl) s0 (by first | decide | omega) (by first | decide | omega)⟩
        · refine gx_1f (c := .eq) rfl (by first | decide | omega) hc17 rfl ?_
          refine ex_go (S := (24, [(2, .inl bx), (0, gx_r 383), (1, .inl e)], [gx_r 383], t0, n, 0)) rfl (fun _ => rfl) rfl ?_
          refine ex_go (S := (26, [(2, .inl bx), (0, gx_r 383), (1, .inl e)], [.inl 36, gx_r 383], t0, n, 0)) rfl (fun _ => rfl) rfl ?_
          obtain ⟨_, r20, b18, rfl, q19⟩ := pk_isWord (d + l + 5) n (s0) (w := 36) (by first | decide | omega)
          refine gx_call1 rfl rfl s0.1 rfl rfl r20 rfl ?_
          refine ex_go (S := (30, [(2, .inl b18), (0, gx_r 383), (1, .inl e)], [], t0, n, 0)) rfl (fun _ => rfl) rfl ?_
          refine ex_go (S := (31, [(2, .inl b18), (0, gx_r 383), (1, .inl e)], [gx_r 383], t0, n, 0)) rfl (fun _ => rfl) rfl ?_
          refine ex_go (S := (32, [(2, .inl b18), (0, gx_r 383), (1, .inl e)], [gx_r 383, gx_r 383], t0, n, 0)) rfl (fun _ => rfl) rfl ?_
          refine gx_get rfl s0.1 rfl s0.2.1 rfl ?_
          refine ex_go (S := (36, [(2, .inl b18), (0, gx_r 383), (1, .inl e)], [.inl 1, .inl a, gx_r 383], t0, n, 0)) rfl (fun _ => rfl) rfl ?_
          refine ex_iadd rfl (by first | decide | omega) rfl ?_
          refine gx_put rfl s0.1 rfl rfl (ai_in_h (by first | decide | omega) (by first | decide | omega) (by first | decide | omega)) rfl (fun t121 g121 k121 e121 => ?_)
          have k22 : ai_hv t121 383 13 = some (.inl c) := (e121 383 13 (by first | decide | omega)).trans kc
          have s121 : px_S t121 (a + 1) f := ⟨g121, k121, (e121 383 8 (by first | decide | omega)).trans s0.2.2.1, by omega, s0.2.2.2.2⟩
          refine ex_go (S := (41, [(2, .inl b18), (0, gx_r 383), (1, .inl e)], [gx_r 383], t121, n, 0)) rfl (fun _ => rfl) rfl ?_
          refine ex_go (S := (42, [(2, .inl b18), (0, gx_r 383), (1, .inl e)], [.inl e, gx_r 383], t121, n, 0)) rfl (fun _ => rfl) rfl ?_
          obtain ⟨_, r123, t123, a123, f123, c123, rfl, x123⟩ := h d n _ _ _ _ s121 k22 (by first | decide | omega)
          have s123 := x123.1
          have e123 := x123.2.1
          have k123 := x123.2.2.1
          have q123 := x123.2.2.2.1
          have b123 := s123.2.2.2
          refine gx_call0 rfl rfl s121.1 rfl rfl r123 rfl ?_
          refine ex_go (S := (46, [(2, .inl b18), (0, gx_r 383), (1, .inl e)], [gx_r 383], t123, n, 0)) rfl (fun _ => rfl) rfl ?_
          refine ex_go (S := (47, [(2, .inl b18), (0, gx_r 383), (1, .inl e)], [.inl b18, gx_r 383], t123, n, 0)) rfl (fun _ => rfl) rfl ?_
          by_cases hc24 : b18 = 0
          · refine gx_1t (c := .eq) rfl (by first | decide | omega) hc24 rfl ?_
            refine ex_go (S := (57, [(2, .inl b18), (0, gx_r 383), (1, .inl e)], [.inl 10, gx_r 383], t123, n, 0)) rfl (fun _ => rfl) rfl ?_
            refine ex_go (S := (58, [(2, .inl b18), (0, gx_r 383), (1, .inl e)], [.inl 0, .inl 10, gx_r 383], t123, n, 0)) rfl (fun _ => rfl) rfl ?_
            obtain ⟨_, r125, t125, rfl, s125, e125, k125, ko125, kz125⟩ := pk_emit (d + l + 5) n (s123) (o := 10) (z := 0) (by first | decide | omega) (by first | decide | omega) (by first | decide | omega) k123
            have b125 := s125.2.2.2
            refine gx_call0 rfl rfl s123.1 rfl rfl r125 rfl ?_
            refine ex_go (S := (5, [(2, .inl b18), (0, gx_r 383), (1, .inl e)], [], t125, n, 0)) rfl (fun _ => rfl) rfl ?_
            exfalso; omega
          · refine gx_1f (c := .eq) rfl (by first | decide | omega) hc24 rfl ?_
            refine ex_go (S := (52, [(2, .inl b18), (0, gx_r 383), (1, .inl e)], [.inl 9, gx_r 383], t123, n, 0)) rfl (fun _ => rfl) rfl ?_
            refine ex_go (S := (57, [(2, .inl b18), (0, gx_r 383), (1, .inl e)], [.inl 9, gx_r 383], t123, n, 0)) rfl (fun _ => rfl) rfl ?_
            refine ex_go (S := (58, [(2, .inl b18), (0, gx_r 383), (1, .inl e)], [.inl 0, .inl 9, gx_r 383], t123, n, 0)) rfl (fun _ => rfl) rfl ?_
            obtain ⟨_, r126, t126, rfl, s126, e126, k126, ko126, kz126⟩ := pk_emit (d + l + 5) n (s123) (o := 9) (z := 0) (by first | decide | omega) (by first | decide | omega) (by first | decide | omega) k123
            have b126 := s126.2.2.2
            refine gx_call0 rfl rfl s123.1 rfl rfl r126 rfl ?_
            refine ex_go (S := (5, [(2, .inl b18), (0, gx_r 383), (1, .inl e)], [], t126, n, 0)) rfl (fun _ => rfl) rfl ?_
            exfalso; omega
  | succ j ih =>
    intro t0 a f c lx hlx hj hx
    have s0 := hx.1
    have kc := hx.2.2.1
    have q0 := hx.2.2.2.1
    have b0 := s0.2.2.2
    rcases hlx with rfl | ⟨bx, hbx, rfl⟩
    · show en_ex _ _ _ _ (5, [(0, gx_r 383), (1, .inl e)], [], t0, n, 0) _
      refine ex_go (S := (6, [(0, gx_r 383), (1, .inl e)], [gx_r 383], t0, n, 0)) rfl (fun _ => rfl) rfl ?_
      refine ex_go (S := (8, [(0, gx_r 383), (1, .inl e)], [.inl 36, gx_r 383], t0, n, 0)) rfl (fun _ => rfl) rfl ?_
      obtain ⟨_, r3, b1, rfl, q2⟩ := pk_isWord (d + l + 5) n (s0) (w := 36) (by first | decide | omega)
      refine gx_call1 rfl rfl s0.1 rfl rfl r3 rfl ?_
      by_cases hc4 : b1 ≠ 0
      · refine gx_1t (c := .ne) rfl (by first | decide | omega) hc4 rfl ?_
        refine ex_go (S := (24, [(0, gx_r 383), (1, .inl e)], [gx_r 383], t0, n, 0)) rfl (fun _ => rfl) rfl ?_
        refine ex_go (S := (26, [(0, gx_r 383), (1, .inl e)], [.inl 36, gx_r 383], t0, n, 0)) rfl (fun _ => rfl) rfl ?_
        obtain ⟨_, r7, b5, rfl, q6⟩ := pk_isWord (d + l + 5) n (s0) (w := 36) (by first | decide | omega)
        refine gx_call1 rfl rfl s0.1 rfl rfl r7 rfl ?_
        refine ex_go (S := (30, [(2, .inl b5), (0, gx_r 383), (1, .inl e)], [], t0, n, 0)) rfl (fun _ => rfl) rfl ?_
        refine ex_go (S := (31, [(2, .inl b5), (0, gx_r 383), (1, .inl e)], [gx_r 383], t0, n, 0)) rfl (fun _ => rfl) rfl ?_
        refine ex_go (S := (32, [(2, .inl b5), (0, gx_r 383), (1, .inl e)], [gx_r 383, gx_r 383], t0, n, 0)) rfl (fun _ => rfl) rfl ?_
        refine gx_get rfl s0.1 rfl s0.2.1 rfl ?_
        refine ex_go (S := (36, [(2, .inl b5), (0, gx_r 383), (1, .inl e)], [.inl 1, .inl a, gx_r 383], t0, n, 0)) rfl (fun _ => rfl) rfl ?_
        refine ex_iadd rfl (by first | decide | omega) rfl ?_
        refine gx_put rfl s0.1 rfl rfl (ai_in_h (by first | decide | omega) (by first | decide | omega) (by first | decide | omega)) rfl (fun t108 g108 k108 e108 => ?_)
        have k9 : ai_hv t108 383 13 = some (.inl c) := (e108 383 13 (by first | decide | omega)).trans kc
        have s108 : px_S t108 (a + 1) f := ⟨g108, k108, (e108 383 8 (by first | decide | omega)).trans s0.2.2.1, by omega, s0.2.2.2.2⟩
        refine ex_go (S := (41, [(2, .inl b5), (0, gx_r 383), (1, .inl e)], [gx_r 383], t108, n, 0)) rfl (fun _ => rfl) rfl ?_
        refine ex_go (S := (42, [(2, .inl b5), (0, gx_r 383), (1, .inl e)], [.inl e, gx_r 383], t108, n, 0)) rfl (fun _ => rfl) rfl ?_
        obtain ⟨_, r110, t110, a110, f110, c110, rfl, x110⟩ := h d n _ _ _ _ s108 k9 (by first | decide | omega)
        have s110 := x110.1
        have e110 := x110.2.1
        have k110 := x110.2.2.1
        have q110 := x110.2.2.2.1
        have b110 := s110.2.2.2
        refine gx_call0 rfl rfl s108.1 rfl rfl r110 rfl ?_
        refine ex_go (S := (46, [(2, .inl b5), (0, gx_r 383), (1, .inl e)], [gx_r 383], t110, n, 0)) rfl (fun _ => rfl) rfl ?_
        refine ex_go (S := (47, [(2, .inl b5), (0, gx_r 383), (1, .inl e)], [.inl b5, gx_r 383], t110, n, 0)) rfl (fun _ => rfl) rfl ?_
        by_cases hc11 : b5 = 0
        · refine gx_1t (c := .eq) rfl (by first | decide | omega) hc11 rfl ?_
          refine ex_go (S := (57, [(2, .inl b5), (0, gx_r 383), (1, .inl e)], [.inl 10, gx_r 383], t110, n, 0)) rfl (fun _ => rfl) rfl ?_
          refine ex_go (S := (58, [(2, .inl b5), (0, gx_r 383), (1, .inl e)], [.inl 0, .inl 10, gx_r 383], t110, n, 0)) rfl (fun _ => rfl) rfl ?_
          obtain ⟨_, r112, t112, rfl, s112, e112, k112, ko112, kz112⟩ := pk_emit (d + l + 5) n (s110) (o := 10) (z := 0) (by first | decide | omega) (by first | decide | omega) (by first | decide | omega) k110
          have b112 := s112.2.2.2
          refine gx_call0 rfl rfl s110.1 rfl rfl r112 rfl ?_
          refine ex_go (S := (5, [(2, .inl b5), (0, gx_r 383), (1, .inl e)], [], t112, n, 0)) rfl (fun _ => rfl) rfl ?_
          exact ih t112 a110 f110 (c110 + 1) [(2, .inl b5)] (Or.inr ⟨b5, by omega, rfl⟩) (by first | decide | omega) (px_X_bin hx (by first | decide | omega) (by first | decide | omega) (fun c i h => e108 c i (by first | decide | omega)) x110 (by first | decide | omega) s112 e112 k112 ko112 kz112)
        · refine gx_1f (c := .eq) rfl (by first | decide | omega) hc11 rfl ?_
          refine ex_go (S := (52, [(2, .inl b5), (0, gx_r 383), (1, .inl e)], [.inl 9, gx_r 383], t110, n, 0)) rfl (fun _ => rfl) rfl ?_
          refine ex_go (S := (57, [(2, .inl b5), (0, gx_r 383), (1, .inl e)], [.inl 9, gx_r 383], t110, n, 0)) rfl (fun _ => rfl) rfl ?_
          refine ex_go (S := (58, [(2, .inl b5), (0, gx_r 383), (1, .inl e)], [.inl 0, .inl 9, gx_r 383], t110, n, 0)) rfl (fun _ => rfl) rfl ?_
          obtain ⟨_, r113, t113, rfl, s113, e113, k113, ko113, kz113⟩ := pk_emit (d + l + 5) n (s110) (o := 9) (z := 0) (by first | decide | omega) (by first | decide | omega) (by first | decide | omega) k110
          have b113 := s113.2.2.2
          refine gx_call0 rfl rfl s110.1 rfl rfl r113 rfl ?_
          refine ex_go (S := (5, [(2, .inl b5), (0, gx_r 383), (1, .inl e)], [], t113, n, 0)) rfl (fun _ => rfl) rfl ?_
          exact ih t113 a110 f110 (c110 + 1) [(2, .inl b5)] (Or.inr ⟨b5, by omega, rfl⟩) (by first | decide | omega) (px_X_bin hx (by first | decide | omega) (by first | decide | omega) (fun c i h => e108 c i (by first | decide | omega)) x110 (by first | decide | omega) s113 e113 k113 ko113 kz113)
      · refine gx_1f (c := .ne) rfl (by first | decide | omega) hc4 rfl ?_
        refine ex_go (S := (15, [(0, gx_r 383), (1, .inl e)], [gx_r 383], t0, n, 0)) rfl (fun _ => rfl) rfl ?_
        refine ex_go (S := (17, [(0, gx_r 383), (1, .inl e)], [.inl 37, gx_r 383], t0, n, 0)) rfl (fun _ => rfl) rfl ?_
        obtain ⟨_, r16, b14, rfl, q15⟩ := pk_isWord (d + l + 5) n (s0) (w := 37) (by first | decide | omega)
        refine gx_call1 rfl rfl s0.1 rfl rfl r16 rfl ?_
        by_cases hc17 : b14 = 0
        · refine gx_1t (c := .eq) rfl (by first | decide | omega) hc17 rfl ?_
          refine ex_ret (r := (none, t0, n, 0)) rfl (fun _ => rfl) ?_
          exact ⟨_, rfl, t0, a, f, c, rfl, px_X_same hx (fun _ _ _ => rfl) s0 (by first | decide | omega) (by first | decide | omega)⟩
        · refine gx_1f (c := .eq) rfl (by first | decide | omega) hc17 rfl ?_
          refine ex_go (S := (24, [(0, gx_r 383), (1, .inl e)], [gx_r 383], t0, n, 0)) rfl (fun _ => rfl) rfl ?_
          refine ex_go (S := (26, [(0, gx_r 383), (1, .inl e)], [.inl 36, gx_r 383], t0, n, 0)) rfl (fun _ => rfl) rfl ?_
          obtain ⟨_, r20, b18, rfl, q19⟩ := pk_isWord (d + l + 5) n (s0) (w := 36) (by first | decide | omega)
          refine gx_call1 rfl rfl s0.1 rfl rfl r20 rfl ?_
          refine ex_go (S := (30, [(2, .inl b18), (0, gx_r 383), (1, .inl e)], [], t0, n, 0)) rfl (fun _ => rfl) rfl ?_
          refine ex_go (S := (31, [(2, .inl b18), (0, gx_r 383), (1, .inl e)], [gx_r 383], t0, n, 0)) rfl (fun _ => rfl) rfl ?_
          refine ex_go (S := (32, [(2, .inl b18), (0, gx_r 383), (1, .inl e)], [gx_r 383, gx_r 383], t0, n, 0)) rfl (fun _ => rfl) rfl ?_
          refine gx_get rfl s0.1 rfl s0.2.1 rfl ?_
          refine ex_go (S := (36, [(2, .inl b18), (0, gx_r 383), (1, .inl e)], [.inl 1, .inl a, gx_r 383], t0, n, 0)) rfl (fun _ => rfl) rfl ?_
          refine ex_iadd rfl (by first | decide | omega) rfl ?_
          refine gx_put rfl s0.1 rfl rfl (ai_in_h (by first | decide | omega) (by first | decide | omega) (by first | decide | omega)) rfl (fun t121 g121 k121 e121 => ?_)
          have k22 : ai_hv t121 383 13 = some (.inl c) := (e121 383 13 (by first | decide | omega)).trans kc
          have s121 : px_S t121 (a + 1) f := ⟨g121, k121, (e121 383 8 (by first | decide | omega)).trans s0.2.2.1, by omega, s0.2.2.2.2⟩
          refine ex_go (S := (41, [(2, .inl b18), (0, gx_r 383), (1, .inl e)], [gx_r 383], t121, n, 0)) rfl (fun _ => rfl) rfl ?_
          refine ex_go (S := (42, [(2, .inl b18), (0, gx_r 383), (1, .inl e)], [.inl e, gx_r 383], t121, n, 0)) rfl (fun _ => rfl) rfl ?_
          obtain ⟨_, r123, t123, a123, f123, c123, rfl, x123⟩ := h d n _ _ _ _ s121 k22 (by first | decide | omega)
          have s123 := x123.1
          have e123 := x123.2.1
          have k123 := x123.2.2.1
          have q123 := x123.2.2.2.1
          have b123 := s123.2.2.2
          refine gx_call0 rfl rfl s121.1 rfl rfl r123 rfl ?_
          refine ex_go (S := (46, [(2, .inl b18), (0, gx_r 383), (1, .inl e)], [gx_r 383], t123, n, 0)) rfl (fun _ => rfl) rfl ?_
          refine ex_go (S := (47, [(2, .inl b18), (0, gx_r 383), (1, .inl e)], [.inl b18, gx_r 383], t123, n, 0)) rfl (fun _ => rfl) rfl ?_
          by_cases hc24 : b18 = 0
          · refine gx_1t (c := .eq) rfl (by first | decide | omega) hc24 rfl ?_
            refine ex_go (S := (57, [(2, .inl b18), (0, gx_r 383), (1, .inl e)], [.inl 10, gx_r 383], t123, n, 0)) rfl (fun _ => rfl) rfl ?_
            refine ex_go (S := (58, [(2, .inl b18), (0, gx_r 383), (1, .inl e)], [.inl 0, .inl 10, gx_r 383], t123, n, 0)) rfl (fun _ => rfl) rfl ?_
            obtain ⟨_, r125, t125, rfl, s125, e125, k125, ko125, kz125⟩ := pk_emit (d + l + 5) n (s123) (o := 10) (z := 0) (by first | decide | omega) (by first | decide | omega) (by first | decide | omega) k123
            have b125 := s125.2.2.2
            refine gx_call0 rfl rfl s123.1 rfl rfl r125 rfl ?_
            refine ex_go (S := (5, [(2, .inl b18), (0, gx_r 383), (1, .inl e)], [], t125, n, 0)) rfl (fun _ => rfl) rfl ?_
            exact ih t125 a123 f123 (c123 + 1) [(2, .inl b18)] (Or.inr ⟨b18, by omega, rfl⟩) (by first | decide | omega) (px_X_bin hx (by first | decide | omega) (by first | decide | omega) (fun c i h => e121 c i (by first | decide | omega)) x123 (by first | decide | omega) s125 e125 k125 ko125 kz125)
          · refine gx_1f (c := .eq) rfl (by first | decide | omega) hc24 rfl ?_
            refine ex_go (S := (52, [(2, .inl b18), (0, gx_r 383), (1, .inl e)], [.inl 9, gx_r 383], t123, n, 0)) rfl (fun _ => rfl) rfl ?_
            refine ex_go (S := (57, [(2, .inl b18), (0, gx_r 383), (1, .inl e)], [.inl 9, gx_r 383], t123, n, 0)) rfl (fun _ => rfl) rfl ?_
            refine ex_go (S := (58, [(2, .inl b18), (0, gx_r 383), (1, .inl e)], [.inl 0, .inl 9, gx_r 383], t123, n, 0)) rfl (fun _ => rfl) rfl ?_
            obtain ⟨_, r126, t126, rfl, s126, e126, k126, ko126, kz126⟩ := pk_emit (d + l + 5) n (s123) (o := 9) (z := 0) (by first | decide | omega) (by first | decide | omega) (by first | decide | omega) k123
            have b126 := s126.2.2.2
            refine gx_call0 rfl rfl s123.1 rfl rfl r126 rfl ?_
            refine ex_go (S := (5, [(2, .inl b18), (0, gx_r 383), (1, .inl e)], [], t126, n, 0)) rfl (fun _ => rfl) rfl ?_
            exact ih t126 a123 f123 (c123 + 1) [(2, .inl b18)] (Or.inr ⟨b18, by omega, rfl⟩) (by first | decide | omega) (px_X_bin hx (by first | decide | omega) (by first | decide | omega) (fun c i h => e121 c i (by first | decide | omega)) x123 (by first | decide | omega) s126 e126 k126 ko126 kz126)
    · show en_ex _ _ _ _ (5, [(2, .inl bx), (0, gx_r 383), (1, .inl e)], [], t0, n, 0) _
      refine ex_go (S := (6, [(2, .inl bx), (0, gx_r 383), (1, .inl e)], [gx_r 383], t0, n, 0)) rfl (fun _ => rfl) rfl ?_
      refine ex_go (S := (8, [(2, .inl bx), (0, gx_r 383), (1, .inl e)], [.inl 36, gx_r 383], t0, n, 0)) rfl (fun _ => rfl) rfl ?_
      obtain ⟨_, r3, b1, rfl, q2⟩ := pk_isWord (d + l + 5) n (s0) (w := 36) (by first | decide | omega)
      refine gx_call1 rfl rfl s0.1 rfl rfl r3 rfl ?_
      by_cases hc4 : b1 ≠ 0
      · refine gx_1t (c := .ne) rfl (by first | decide | omega) hc4 rfl ?_
        refine ex_go (S := (24, [(2, .inl bx), (0, gx_r 383), (1, .inl e)], [gx_r 383], t0, n, 0)) rfl (fun _ => rfl) rfl ?_
        refine ex_go (S := (26, [(2, .inl bx), (0, gx_r 383), (1, .inl e)], [.inl 36, gx_r 383], t0, n, 0)) rfl (fun _ => rfl) rfl ?_
        obtain ⟨_, r7, b5, rfl, q6⟩ := pk_isWord (d + l + 5) n (s0) (w := 36) (by first | decide | omega)
        refine gx_call1 rfl rfl s0.1 rfl rfl r7 rfl ?_
        refine ex_go (S := (30, [(2, .inl b5), (0, gx_r 383), (1, .inl e)], [], t0, n, 0)) rfl (fun _ => rfl) rfl ?_
        refine ex_go (S := (31, [(2, .inl b5), (0, gx_r 383), (1, .inl e)], [gx_r 383], t0, n, 0)) rfl (fun _ => rfl) rfl ?_
        refine ex_go (S := (32, [(2, .inl b5), (0, gx_r 383), (1, .inl e)], [gx_r 383, gx_r 383], t0, n, 0)) rfl (fun _ => rfl) rfl ?_
        refine gx_get rfl s0.1 rfl s0.2.1 rfl ?_
        refine ex_go (S := (36, [(2, .inl b5), (0, gx_r 383), (1, .inl e)], [.inl 1, .inl a, gx_r 383], t0, n, 0)) rfl (fun _ => rfl) rfl ?_
        refine ex_iadd rfl (by first | decide | omega) rfl ?_
        refine gx_put rfl s0.1 rfl rfl (ai_in_h (by first | decide | omega) (by first | decide | omega) (by first | decide | omega)) rfl (fun t108 g108 k108 e108 => ?_)
        have k9 : ai_hv t108 383 13 = some (.inl c) := (e108 383 13 (by first | decide | omega)).trans kc
        have s108 : px_S t108 (a + 1) f := ⟨g108, k108, (e108 383 8 (by first | decide | omega)).trans s0.2.2.1, by omega, s0.2.2.2.2⟩
        refine ex_go (S := (41, [(2, .inl b5), (0, gx_r 383), (1, .inl e)], [gx_r 383], t108, n, 0)) rfl (fun _ => rfl) rfl ?_
        refine ex_go (S := (42, [(2, .inl b5), (0, gx_r 383), (1, .inl e)], [.inl e, gx_r 383], t108, n, 0)) rfl (fun _ => rfl) rfl ?_
        obtain ⟨_, r110, t110, a110, f110, c110, rfl, x110⟩ := h d n _ _ _ _ s108 k9 (by first | decide | omega)
        have s110 := x110.1
        have e110 := x110.2.1
        have k110 := x110.2.2.1
        have q110 := x110.2.2.2.1
        have b110 := s110.2.2.2
        refine gx_call0 rfl rfl s108.1 rfl rfl r110 rfl ?_
        refine ex_go (S := (46, [(2, .inl b5), (0, gx_r 383), (1, .inl e)], [gx_r 383], t110, n, 0)) rfl (fun _ => rfl) rfl ?_
        refine ex_go (S := (47, [(2, .inl b5), (0, gx_r 383), (1, .inl e)], [.inl b5, gx_r 383], t110, n, 0)) rfl (fun _ => rfl) rfl ?_
        by_cases hc11 : b5 = 0
        · refine gx_1t (c := .eq) rfl (by first | decide | omega) hc11 rfl ?_
          refine ex_go (S := (57, [(2, .inl b5), (0, gx_r 383), (1, .inl e)], [.inl 10, gx_r 383], t110, n, 0)) rfl (fun _ => rfl) rfl ?_
          refine ex_go (S := (58, [(2, .inl b5), (0, gx_r 383), (1, .inl e)], [.inl 0, .inl 10, gx_r 383], t110, n, 0)) rfl (fun _ => rfl) rfl ?_
          obtain ⟨_, r112, t112, rfl, s112, e112, k112, ko112, kz112⟩ := pk_emit (d + l + 5) n (s110) (o := 10) (z := 0) (by first | decide | omega) (by first | decide | omega) (by first | decide | omega) k110
          have b112 := s112.2.2.2
          refine gx_call0 rfl rfl s110.1 rfl rfl r112 rfl ?_
          refine ex_go (S := (5, [(2, .inl b5), (0, gx_r 383), (1, .inl e)], [], t112, n, 0)) rfl (fun _ => rfl) rfl ?_
          exact ih t112 a110 f110 (c110 + 1) [(2, .inl b5)] (Or.inr ⟨b5, by omega, rfl⟩) (by first | decide | omega) (px_X_bin hx (by first | decide | omega) (by first | decide | omega) (fun c i h => e108 c i (by first | decide | omega)) x110 (by first | decide | omega) s112 e112 k112 ko112 kz112)
        · refine gx_1f (c := .eq) rfl (by first | decide | omega) hc11 rfl ?_
          refine ex_go (S := (52, [(2, .inl b5), (0, gx_r 383), (1, .inl e)], [.inl 9, gx_r 383], t110, n, 0)) rfl (fun _ => rfl) rfl ?_
          refine ex_go (S := (57, [(2, .inl b5), (0, gx_r 383), (1, .inl e)], [.inl 9, gx_r 383], t110, n, 0)) rfl (fun _ => rfl) rfl ?_
          refine ex_go (S := (58, [(2, .inl b5), (0, gx_r 383), (1, .inl e)], [.inl 0, .inl 9, gx_r 383], t110, n, 0)) rfl (fun _ => rfl) rfl ?_
          obtain ⟨_, r113, t113, rfl, s113, e113, k113, ko113, kz113⟩ := pk_emit (d + l + 5) n (s110) (o := 9) (z := 0) (by first | decide | omega) (by first | decide | omega) (by first | decide | omega) k110
          have b113 := s113.2.2.2
          refine gx_call0 rfl rfl s110.1 rfl rfl r113 rfl ?_
          refine ex_go (S := (5, [(2, .inl b5), (0, gx_r 383), (1, .inl e)], [], t113, n, 0)) rfl (fun _ => rfl) rfl ?_
          exact ih t113 a110 f110 (c110 + 1) [(2, .inl b5)] (Or.inr ⟨b5, by omega, rfl⟩) (by first | decide | omega) (px_X_bin hx (by first | decide | omega) (by first | decide | omega) (fun c i h => e108 c i (by first | decide | omega)) x110 (by first | decide | omega) s113 e113 k113 ko113 kz113)
      · refine gx_1f (c := .ne) rfl (by first | decide | omega) hc4 rfl ?_
        refine ex_go (S := (15, [(2, .inl bx), (0, gx_r 383), (1, .inl e)], [gx_r 383], t0, n, 0)) rfl (fun _ => rfl) rfl ?_
        refine ex_go (S := (17, [(2, .inl bx), (0, gx_r 383), (1, .inl e)], [.inl 37, gx_r 383], t0, n, 0)) rfl (fun _ => rfl) rfl ?_
        obtain ⟨_, r16, b14, rfl, q15⟩ := pk_isWord (d + l + 5) n (s0) (w := 37) (by first | decide | omega)
        refine gx_call1 rfl rfl s0.1 rfl rfl r16 rfl ?_
        by_cases hc17 : b14 = 0
        · refine gx_1t (c := .eq) rfl (by first | decide | omega) hc17 rfl ?_
          refine ex_ret (r := (none, t0, n, 0)) rfl (fun _ => rfl) ?_
          exact ⟨_, rfl, t0, a, f, c, rfl, px_X_same hx (fun _ _ _ => rfl) s0 (by first | decide | omega) (by first | decide | omega)⟩
        · refine gx_1f (c := .eq) rfl (by first | decide | omega) hc17 rfl ?_
          refine ex_go (S := (24, [(2, .inl bx), (0, gx_r 383), (1, .inl e)], [gx_r 383], t0, n, 0)) rfl (fun _ => rfl) rfl ?_
          refine ex_go (S := (26, [(2, .inl bx), (0, gx_r 383), (1, .inl e)], [.inl 36, gx_r 383], t0, n, 0)) rfl (fun _ => rfl) rfl ?_
          obtain ⟨_, r20, b18, rfl, q19⟩ := pk_isWord (d + l + 5) n (s0) (w := 36) (by first | decide | omega)
          refine gx_call1 rfl rfl s0.1 rfl rfl r20 rfl ?_
          refine ex_go (S := (30, [(2, .inl b18), (0, gx_r 383), (1, .inl e)], [], t0, n, 0)) rfl (fun _ => rfl) rfl ?_
          refine ex_go (S := (31, [(2, .inl b18), (0, gx_r 383), (1, .inl e)], [gx_r 383], t0, n, 0)) rfl (fun _ => rfl) rfl ?_
          refine ex_go (S := (32, [(2, .inl b18), (0, gx_r 383), (1, .inl e)], [gx_r 383, gx_r 383], t0, n, 0)) rfl (fun _ => rfl) rfl ?_
          refine gx_get rfl s0.1 rfl s0.2.1 rfl ?_
          refine ex_go (S := (36, [(2, .inl b18), (0, gx_r 383), (1, .inl e)], [.inl 1, .inl a, gx_r 383], t0, n, 0)) rfl (fun _ => rfl) rfl ?_
          refine ex_iadd rfl (by first | decide | omega) rfl ?_
          refine gx_put rfl s0.1 rfl rfl (ai_in_h (by first | decide | omega) (by first | decide | omega) (by first | decide | omega)) rfl (fun t121 g121 k121 e121 => ?_)
          have k22 : ai_hv t121 383 13 = some (.inl c) := (e121 383 13 (by first | decide | omega)).trans kc
          have s121 : px_S t121 (a + 1) f := ⟨g121, k121, (e121 383 8 (by first | decide | omega)).trans s0.2.2.1, by omega, s0.2.2.2.2⟩
          refine ex_go (S := (41, [(2, .inl b18), (0, gx_r 383), (1, .inl e)], [gx_r 383], t121, n, 0)) rfl (fun _ => rfl) rfl ?_
          refine ex_go (S := (42, [(2, .inl b18), (0, gx_r 383), (1, .inl e)], [.inl e, gx_r 383], t121, n, 0)) rfl (fun _ => rfl) rfl ?_
          obtain ⟨_, r123, t123, a123, f123, c123, rfl, x123⟩ := h d n _ _ _ _ s121 k22 (by first | decide | omega)
          have s123 := x123.1
          have e123 := x123.2.1
          have k123 := x123.2.2.1
          have q123 := x123.2.2.2.1
          have b123 := s123.2.2.2
          refine gx_call0 rfl rfl s121.1 rfl rfl r123 rfl ?_
          refine ex_go (S := (46, [(2, .inl b18), (0, gx_r 383), (1, .inl e)], [gx_r 383], t123, n, 0)) rfl (fun _ => rfl) rfl ?_
          refine ex_go (S := (47, [(2, .inl b18), (0, gx_r 383), (1, .inl e)], [.inl b18, gx_r 383], t123, n, 0)) rfl (fun _ => rfl) rfl ?_
          by_cases hc24 : b18 = 0
          · refine gx_1t (c := .eq) rfl (by first | decide | omega) hc24 rfl ?_
            refine ex_go (S := (57, [(2, .inl b18), (0, gx_r 383), (1, .inl e)], [.inl 10, gx_r 383], t123, n, 0)) rfl (fun _ => rfl) rfl ?_
            refine ex_go (S := (58, [(2, .inl b18), (0, gx_r 383), (1, .inl e)], [.inl 0, .inl 10, gx_r 383], t123, n, 0)) rfl (fun _ => rfl) rfl ?_
            obtain ⟨_, r125, t125, rfl, s125, e125, k125, ko125, kz125⟩ := pk_emit (d + l + 5) n (s123) (o := 10) (z := 0) (by first | decide | omega) (by first | decide | omega) (by first | decide | omega) k123
            have b125 := s125.2.2.2
            refine gx_call0 rfl rfl s123.1 rfl rfl r125 rfl ?_
            refine ex_go (S := (5, [(2, .inl b18), (0, gx_r 383), (1, .inl e)], [], t125, n, 0)) rfl (fun _ => rfl) rfl ?_
            exact ih t125 a123 f123 (c123 + 1) [(2, .inl b18)] (Or.inr ⟨b18, by omega, rfl⟩) (by first | decide | omega) (px_X_bin hx (by first | decide | omega) (by first | decide | omega) (fun c i h => e121 c i (by first | decide | omega)) x123 (by first | decide | omega) s125 e125 k125 ko125 kz125)
          · refine gx_1f (c := .eq) rfl (by first | decide | omega) hc24 rfl ?_
            refine ex_go (S := (52, [(2, .inl b18), (0, gx_r 383), (1, .inl e)], [.inl 9, gx_r 383], t123, n, 0)) rfl (fun _ => rfl) rfl ?_
            refine ex_go (S := (57, [(2, .inl b18), (0, gx_r 383), (1, .inl e)], [.inl 9, gx_r 383], t123, n, 0)) rfl (fun _ => rfl) rfl ?_
            refine ex_go (S := (58, [(2, .inl b18), (0, gx_r 383), (1, .inl e)], [.inl 0, .inl 9, gx_r 383], t123, n, 0)) rfl (fun _ => rfl) rfl ?_
            obtain ⟨_, r126, t126, rfl, s126, e126, k126, ko126, kz126⟩ := pk_emit (d + l + 5) n (s123) (o := 9) (z := 0) (by first | decide | omega) (by first | decide | omega) (by first | decide | omega) k123
            have b126 := s126.2.2.2
            refine gx_call0 rfl rfl s123.1 rfl rfl r126 rfl ?_
            refine ex_go (S := (5, [(2, .inl b18), (0, gx_r 383), (1, .inl e)], [], t126, n, 0)) rfl (fun _ => rfl) rfl ?_
            exact ih t126 a123 f123 (c123 + 1) [(2, .inl b18)] (Or.inr ⟨b18, by omega, rfl⟩) (by first | decide | omega) (px_X_bin hx (by first | decide | omega) (by first | decide | omega) (fun c i h => e121 c i (by first | decide | omega)) x123 (by first | decide | omega) s126 e126 k126 ko126 kz126)
theorem pk_all {l e : Nat} (h : ∀ d, px_C (d + l + 6) 271 e) (he : e ≤ 5) (d : Nat) : px_C (d + l + 7) 247 e := by
  intro n t0 a f c s0 kc hca
  have b0 := s0.2.2.2
  refine en_u_ex (d := d + l + 6) rfl ?_
  show en_ex _ _ _ _ (0, [(0, gx_r 383), (1, .inl e)], [], t0, n, 0) _
  refine ex_go (S := (1, [(0, gx_r 383), (1, .inl e)], [gx_r 383], t0, n, 0)) rfl (fun _ => rfl) rfl ?_
  refine ex_go (S := (2, [(0, gx_r 383), (1, .inl e)], [.inl e, gx_r 383], t0, n, 0)) rfl (fun _ => rfl) rfl ?_
  obtain ⟨_, r101, t101, a101, f101, c101, rfl, x101⟩ := h d n _ _ _ _ s0 kc (by first | decide | omega)
  have s101 := x101.1
  have e101 := x101.2.1
  have k101 := x101.2.2.1
  have q101 := x101.2.2.2.1
  have b101 := s101.2.2.2
  refine gx_call0 rfl rfl s0.1 rfl rfl r101 rfl ?_
  exact pk_all_l h he d n hca 1000 t101 a101 f101 c101 [] (Or.inl rfl) (by first | decide | omega) x101
end PK3
