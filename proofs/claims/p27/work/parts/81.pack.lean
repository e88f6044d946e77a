section PK9
noncomputable def px_W (t t' : en_H) : Prop := ∀ c i, ¬ ((c = 383 ∧ i ≠ 18 ∧ i ≠ 26) ∨ c = 385 ∨ c = 386 ∨ c = 387 ∨ c = 393 ∨ c = 395 ∨ (c = 389 ∧ 160 ≤ i) ∨ ((c = 390 ∨ c = 391) ∧ 1100 ≤ i)) → ai_hv t' c i = ai_hv t c i
theorem px_O_F {t t' : en_H} {c : Nat} (h : px_O t c) (e : px_F t t') : px_O t' c := by
  obtain ⟨r, nt, ng, ns, nl, ov, dn, pa, k1, k2, k3, k4, k5, k6, k7, k8, k9, hA, h1, h4⟩ := h
  exact ⟨r, nt, ng, ns, nl, ov, dn, pa, (e _ _ (by first | decide | omega)).trans k1, (e _ _ (by first | decide | omega)).trans k2, (e _ _ (by first | decide | omega)).trans k3, (e _ _ (by first | decide | omega)).trans k4, (e _ _ (by first | decide | omega)).trans k5, (e _ _ (by first | decide | omega)).trans k6, (e _ _ (by first | decide | omega)).trans k7, (e _ _ (by first | decide | omega)).trans k8, (e _ _ (by first | decide | omega)).trans k9, hA, px_E1_kept h1 (e _ _ (by first | decide | omega)) (fun k hk => e _ _ (by first | decide | omega)), px_E4_kept h4 (Nat.le_refl _) (fun l hl => e _ _ (by first | decide | omega)) (fun i hi => e _ _ (by first | decide | omega)) (fun i hi => e _ _ (by first | decide | omega))⟩
theorem px_E_W {t t' : en_H} (h : ai_E t) (e : px_W t t') : ai_E t' :=
  ⟨⟨ai_El_kept h.1.1 (fun i => e _ i (by first | decide | omega)) (fun i => e _ i (by first | decide | omega)) (fun i => e _ i (by first | decide | omega)), ai_El_kept h.1.2 (fun i => e _ i (by first | decide | omega)) (fun i => e _ i (by first | decide | omega)) (fun i => e _ i (by first | decide | omega))⟩, by
    obtain ⟨e1, e2, e3, e4⟩ := h.2
    refine ⟨fun k hk => ?_, fun k hk => ?_, fun b hb => ?_, fun l hl => ?_⟩
    · have := e1 k hk
      simp only [ai_En, e 389 3 (by first | decide | omega), e 389 (95 + 4 * k) (by first | decide | omega)] at this ⊢
      exact this
    · have := e2 k hk
      simp only [ai_En, fun i => e 396 i (by first | decide | omega)] at this ⊢
      exact this
    · rw [e 399 _ (by first | decide | omega), e 399 _ (by first | decide | omega)]
      exact e3 b hb
    · rcases e4 l hl with h | ⟨s, e9, F, k1, k2, k3, k4, k5, k6⟩
      · exact Or.inl ((e _ _ (by first | decide | omega)).trans h)
      · exact Or.inr ⟨s, e9, F, (e _ _ (by first | decide | omega)).trans k1, k2, k3, k4, (e _ _ (by first | decide | omega)).trans k5, fun i z1 z2 => by
          rw [e 390 i (by first | decide | omega), e 391 i (by first | decide | omega)]
          exact k6 i z1 z2⟩⟩
noncomputable def gx_chc (k : Nat) : Bool := match ai_run ah_389.2.2.2 (160 + (6 + k)) with
  | some (.inl p) => (match ai_run ah_389.2.2.2 (6 + k) with
    | some (.inl q) => Nat.ble q.1 p.1 && Nat.ble p.2 q.2
    | _ => false)
  | _ => false
theorem gx_copy {t : en_H} {i : Nat} (k : Nat) (hG : ai_HG ah_G t) (h1 : 6 ≤ k) (h2 : k < 160) (e : i = 160 + k) : ∃ m p, ai_hv t 389 i = some (.inl m) ∧ m < 4294967296 ∧ ai_run ah_389.2.2.2 k = some (.inl p) ∧ ai_rh (.inl p) (.inl m) := by
  have h3 := ha_all_ok (p := gx_chc) (m := 154) (by decide +kernel) (k - 6) (by first | decide | omega)
  unfold gx_chc at h3
  rw [show 6 + (k - 6) = k by omega, ← e] at h3
  split at h3
  · rename_i p hp
    split at h3
    · rename_i q hq
      rw [Bool.and_eq_true] at h3
      obtain ⟨v, k1, m, rfl, m1, m2, m3⟩ := gx_sl (c := 389) (i := i) hG rfl (show i < 320 by omega) hp
      exact ⟨m, q, k1, m1, hq, m, rfl, m1, Nat.le_trans (Nat.le_of_ble_eq_true h3.1) m2, Nat.le_trans m3 (Nat.le_of_ble_eq_true h3.2)⟩
    · cases h3
  · cases h3
theorem gx_opany {t : en_H} {i : Nat} (hG : ai_HG ah_G t) (hi : i < 2200) : ∃ m, ai_hv t 390 i = some (.inl m) ∧ m < 4294967296 := by
  obtain ⟨v, k1, m, rfl, m1, m2, m3⟩ := gx_sl (c := 390) (i := i) hG rfl hi (gx_run1 hi)
  exact ⟨m, k1, m1⟩
theorem gx_argany {t : en_H} {i : Nat} (hG : ai_HG ah_G t) (hi : i < 2200) : ∃ m, ai_hv t 391 i = some (.inl m) ∧ m < 4294967296 := by
  obtain ⟨v, k1, m, rfl, m1, m2, m3⟩ := gx_sl (c := 391) (i := i) hG rfl hi (gx_run1 hi)
  exact ⟨m, k1, m1⟩
theorem pa_l (d n : Nat) {tb : en_H} {Q : en_O → Prop} (hQ : ∀ t1 a1 f1, px_S t1 a1 f1 → (f1 = 0 → ∃ c, px_O t1 c ∧ c ≤ a1) → ai_hv t1 383 2 = some (.inl 0) → px_W tb t1 → en_ex none (en_u (d + 34)) (en_code 33) (fun _ => false) (104, [(0, gx_r 383)], [], t1, n, 0) Q) : ∀ j t0 a f, (f = 0 → 1000 ≤ a + j) → px_S t0 a f → (f = 0 → ∃ c, px_O t0 c ∧ c ≤ a) → ai_hv t0 383 2 = some (.inl 0) → px_W tb t0 → en_ex none (en_u (d + 34)) (en_code 33) (fun _ => false) (72, [(0, gx_r 383)], [], t0, n, 0) Q := by
  intro j
  induction j with
  | zero =>
    intro t0 a f hj s0 hO k2 w0
    have b0 := s0.2.2.2
    refine ex_go (S := (73, [(0, gx_r 383)], [gx_r 383], t0, n, 0)) rfl (fun _ => rfl) rfl ?_
    refine gx_get rfl s0.1 rfl s0.2.2.1 rfl ?_
    by_cases hc1 : f ≠ 0
    · refine gx_1t (c := .ne) rfl (by first | decide | omega) hc1 rfl ?_
      exact hQ t0 a f s0 hO k2 (fun c i h => w0 c i h)
    · refine gx_1f (c := .ne) rfl (by first | decide | omega) hc1 rfl ?_
      refine ex_go (S := (80, [(0, gx_r 383)], [gx_r 383], t0, n, 0)) rfl (fun _ => rfl) rfl ?_
      refine gx_ref (c := 385) rfl s0.1 rfl rfl rfl rfl ?_
      refine ex_go (S := (84, [(0, gx_r 383)], [gx_r 383, gx_r 385], t0, n, 0)) rfl (fun _ => rfl) rfl ?_
      refine gx_get rfl s0.1 rfl s0.2.1 rfl ?_
      obtain ⟨m2, k3, m2b⟩ := gx_sort s0.1 (i := a) (by first | decide | omega)
      refine gx_ag (v := .inl m2) (cb := fun c => Nat.beq c 0) rfl (fun _ => rfl) s0.1 rfl rfl k3 (by first | decide | omega) rfl ?_
      by_cases hc4 : m2 = 0
      · refine gx_1t (c := .eq) rfl (by first | decide | omega) hc4 rfl ?_
        exact hQ t0 a f s0 hO k2 (fun c i h => w0 c i h)
      · refine gx_1f (c := .eq) rfl (by first | decide | omega) hc4 rfl ?_
        exfalso; omega
  | succ j ih =>
    intro t0 a f hj s0 hO k2 w0
    have b0 := s0.2.2.2
    refine ex_go (S := (73, [(0, gx_r 383)], [gx_r 383], t0, n, 0)) rfl (fun _ => rfl) rfl ?_
    refine gx_get rfl s0.1 rfl s0.2.2.1 rfl ?_
    by_cases hc1 : f ≠ 0
    · refine gx_1t (c := .ne) rfl (by first | decide | omega) hc1 rfl ?_
      exact hQ t0 a f s0 hO k2 (fun c i h => w0 c i h)
    · refine gx_1f (c := .ne) rfl (by first | decide | omega) hc1 rfl ?_
      refine ex_go (S := (80, [(0, gx_r 383)], [gx_r 383], t0, n, 0)) rfl (fun _ => rfl) rfl ?_
      refine gx_ref (c := 385) rfl s0.1 rfl rfl rfl rfl ?_
      refine ex_go (S := (84, [(0, gx_r 383)], [gx_r 383, gx_r 385], t0, n, 0)) rfl (fun _ => rfl) rfl ?_
      refine gx_get rfl s0.1 rfl s0.2.1 rfl ?_
      obtain ⟨m2, k3, m2b⟩ := gx_sort s0.1 (i := a) (by first | decide | omega)
      refine gx_ag (v := .inl m2) (cb := fun c => Nat.beq c 0) rfl (fun _ => rfl) s0.1 rfl rfl k3 (by first | decide | omega) rfl ?_
      by_cases hc4 : m2 = 0
      · refine gx_1t (c := .eq) rfl (by first | decide | omega) hc4 rfl ?_
        exact hQ t0 a f s0 hO k2 (fun c i h => w0 c i h)
      · refine gx_1f (c := .eq) rfl (by first | decide | omega) hc4 rfl ?_
        refine ex_go (S := (92, [(0, gx_r 383)], [gx_r 383], t0, n, 0)) rfl (fun _ => rfl) rfl ?_
        obtain ⟨cL, hcL, hcLa⟩ := hO (by first | decide | omega)
        have sL : px_S t0 a 0 := by rw [← show f = 0 by omega]; exact s0
        obtain ⟨_, r105, t105, a105, f105, rfl, s105, e105, q105⟩ := pk_readLine d n sL (by first | decide | omega) hcLa hcL
        have b105 := s105.2.2.2
        refine gx_call0 rfl rfl s0.1 rfl rfl r105 rfl ?_
        have k6 : ai_hv t105 383 2 = some (.inl 0) := (e105 383 2 (by first | decide | omega)).trans k2
        have k7 : ai_hv t105 385 a = some (.inl m2) := (e105 385 a (by first | decide | omega)).trans k3
        refine ex_go (S := (96, [(0, gx_r 383)], [gx_r 383], t105, n, 0)) rfl (fun _ => rfl) rfl ?_
        refine ex_go (S := (98, [(0, gx_r 383)], [.inl 59, gx_r 383], t105, n, 0)) rfl (fun _ => rfl) rfl ?_
        obtain ⟨_, r108, t108, a108, f108, rfl, s108, e108, q108⟩ := pk_takeSign (d + 32) n (s105) (w := 59)
        have b108 := s108.2.2.2
        refine gx_call0 rfl rfl s105.1 rfl rfl r108 rfl ?_
        have k9 : ai_hv t108 383 2 = some (.inl 0) := (e108 383 2 (by first | decide | omega)).trans k6
        have k10 : ai_hv t108 385 a = some (.inl m2) := (e108 385 a (by first | decide | omega)).trans k7
        refine ex_go (S := (72, [(0, gx_r 383)], [], t108, n, 0)) rfl (fun _ => rfl) rfl ?_
        refine ih t108 a108 f108 (fun h9 => ?_) s108 (fun h9 => ?_) k9 (fun c i h => (e108 c i (by first | decide | omega)).trans ((e105 c i (by first | decide | omega)).trans (w0 c i h)))
        · have h8 := (q105 (by first | decide | omega)).1
          omega
        · obtain ⟨h8, c9, o9, l9⟩ := q105 (by first | decide | omega)
          exact ⟨c9, px_O_F o9 e108, by omega⟩
theorem pa_1 {fn : en_F} {n : Nat} {tb : en_H} {Q : en_O → Prop} (hQ : ∀ t1, ai_HG ah_G t1 → (∀ i, i < 160 → ai_hv t1 389 i = ai_hv tb 389 (160 + i)) → (∀ c i, ¬ (c = 389 ∧ i < 160) → ai_hv t1 c i = ai_hv tb c i) → en_ex none fn (en_code 33) (fun _ => false) (147, [(1, .inl 160), (0, gx_r 383)], [], t1, n, 0) Q) : ∀ j k t0, k + j = 160 → 6 ≤ k → ai_HG ah_G t0 → (∀ i, i < k → ai_hv t0 389 i = ai_hv tb 389 (160 + i)) → (∀ c i, ¬ (c = 389 ∧ i < k) → ai_hv t0 c i = ai_hv tb c i) → en_ex none fn (en_code 33) (fun _ => false) (118, [(1, .inl k), (0, gx_r 383)], [], t0, n, 0) Q := by
  intro j
  induction j with
  | zero =>
    intro k t0 hk h6 g0 i0 e0
    have hk : k = 160 := by omega
    subst hk
    refine ex_go (S := (119, [(1, .inl 160), (0, gx_r 383)], [.inl 160], t0, n, 0)) rfl (fun _ => rfl) rfl ?_
    refine ex_go (S := (122, [(1, .inl 160), (0, gx_r 383)], [.inl 160, .inl 160], t0, n, 0)) rfl (fun _ => rfl) rfl ?_
    refine ex_go (S := (147, [(1, .inl 160), (0, gx_r 383)], [], t0, n, 0)) rfl (fun _ => rfl) rfl ?_
    exact hQ t0 g0 i0 e0
  | succ j ih =>
    intro k t0 hk h6 g0 i0 e0
    refine ex_go (S := (119, [(1, .inl k), (0, gx_r 383)], [.inl k], t0, n, 0)) rfl (fun _ => rfl) rfl ?_
    refine ex_go (S := (122, [(1, .inl k), (0, gx_r 383)], [.inl 160, .inl k], t0, n, 0)) rfl (fun _ => rfl) rfl ?_
    refine gx_2f (c := .ge) rfl (by first | decide | omega) (by first | decide | omega) (show ¬ (160 ≤ k) from by omega) rfl ?_
    refine ex_go (S := (126, [(1, .inl k), (0, gx_r 383)], [gx_r 383], t0, n, 0)) rfl (fun _ => rfl) rfl ?_
    refine gx_ref (c := 389) rfl g0 rfl rfl rfl rfl ?_
    refine ex_go (S := (130, [(1, .inl k), (0, gx_r 383)], [.inl k, gx_r 389], t0, n, 0)) rfl (fun _ => rfl) rfl ?_
    refine ex_go (S := (131, [(1, .inl k), (0, gx_r 383)], [gx_r 383, .inl k, gx_r 389], t0, n, 0)) rfl (fun _ => rfl) rfl ?_
    refine gx_ref (c := 389) rfl g0 rfl rfl rfl rfl ?_
    refine ex_go (S := (137, [(1, .inl k), (0, gx_r 383)], [.inl 160, gx_r 389, .inl k, gx_r 389], t0, n, 0)) rfl (fun _ => rfl) rfl ?_
    refine ex_go (S := (138, [(1, .inl k), (0, gx_r 383)], [.inl k, .inl 160, gx_r 389, .inl k, gx_r 389], t0, n, 0)) rfl (fun _ => rfl) rfl ?_
    refine ex_iadd rfl (by first | decide | omega) rfl ?_
    obtain ⟨mv, pv, kv, mvb, hpv, hrv⟩ := gx_copy (i := 160 + k) k g0 (by first | decide | omega) (by first | decide | omega) (by first | decide | omega)
    refine gx_ag (v := .inl mv) (cb := fun c => Nat.beq c 0) rfl (fun _ => rfl) g0 rfl rfl kv (by first | decide | omega) rfl ?_
    refine gx_ap rfl (fun _ => rfl) g0 rfl rfl rfl (show k < 320 from by omega) hpv hrv rfl (fun t101 g101 k101 e101 => ?_)
    have k2 : ai_hv t101 389 (160 + k) = some (.inl mv) := (e101 389 (160 + k) (by first | decide | omega)).trans kv
    refine gx_iinc (i := 1) (k := 1) rfl (fun _ => rfl) (by first | decide | omega) rfl ?_
    show en_ex _ _ _ _ (144, [(1, .inl (k + 1)), (0, gx_r 383)], [], t101, n, 0) _
    refine ex_go (S := (118, [(1, .inl (k + 1)), (0, gx_r 383)], [], t101, n, 0)) rfl (fun _ => rfl) rfl ?_
    refine ih (k + 1) t101 (by first | decide | omega) (by first | decide | omega) g101 (fun i hi => ?_) (fun c i h => (e101 c i (by first | decide | omega)).trans (e0 c i (by first | decide | omega)))
    by_cases e : i = k
    · rw [e, ← e0 389 (160 + k) (by first | decide | omega), kv]
      exact k101
    · exact (e101 389 i (by first | decide | omega)).trans (i0 i (by first | decide | omega))
theorem pa_2 {fn : en_F} {n cc : Nat} {tb : en_H} {Q : en_O → Prop} (hcc : cc ≤ 1000) (kb : ai_hv tb 383 13 = some (.inl cc)) (hQ : ∀ t1, ai_HG ah_G t1 → (∀ i, i < cc → ai_hv t1 390 i = ai_hv tb 390 (1100 + i) ∧ ai_hv t1 391 i = ai_hv tb 391 (1100 + i)) → (∀ c i, ¬ ((c = 390 ∨ c = 391) ∧ i < cc) → ai_hv t1 c i = ai_hv tb c i) → en_ex none fn (en_code 33) (fun _ => false) (195, [(1, .inl cc), (0, gx_r 383)], [], t1, n, 0) Q) : ∀ j k t0, k + j = cc → ai_HG ah_G t0 → (∀ i, i < k → ai_hv t0 390 i = ai_hv tb 390 (1100 + i) ∧ ai_hv t0 391 i = ai_hv tb 391 (1100 + i)) → (∀ c i, ¬ ((c = 390 ∨ c = 391) ∧ i < k) → ai_hv t0 c i = ai_hv tb c i) → en_ex none fn (en_code 33) (fun _ => false) (149, [(1, .inl k), (0, gx_r 383)], [], t0, n, 0) Q := by
  intro j
  induction j with
  | zero =>
    intro k t0 hk g0 i0 e0
    have hk : k = cc := by omega
    subst hk
    have kc := (e0 383 13 (by first | decide | omega)).trans kb
    refine ex_go (S := (150, [(1, .inl k), (0, gx_r 383)], [.inl k], t0, n, 0)) rfl (fun _ => rfl) rfl ?_
    refine ex_go (S := (151, [(1, .inl k), (0, gx_r 383)], [gx_r 383, .inl k], t0, n, 0)) rfl (fun _ => rfl) rfl ?_
    refine gx_get rfl g0 rfl kc rfl ?_
    refine gx_2t (c := .ge) rfl (by first | decide | omega) (by first | decide | omega) (show k ≤ k from by omega) rfl ?_
    exact hQ t0 g0 i0 e0
  | succ j ih =>
    intro k t0 hk g0 i0 e0
    have kc := (e0 383 13 (by first | decide | omega)).trans kb
    refine ex_go (S := (150, [(1, .inl k), (0, gx_r 383)], [.inl k], t0, n, 0)) rfl (fun _ => rfl) rfl ?_
    refine ex_go (S := (151, [(1, .inl k), (0, gx_r 383)], [gx_r 383, .inl k], t0, n, 0)) rfl (fun _ => rfl) rfl ?_
    refine gx_get rfl g0 rfl kc rfl ?_
    refine gx_2f (c := .ge) rfl (by first | decide | omega) (by first | decide | omega) (show ¬ (cc ≤ k) from by omega) rfl ?_
    refine ex_go (S := (158, [(1, .inl k), (0, gx_r 383)], [gx_r 383], t0, n, 0)) rfl (fun _ => rfl) rfl ?_
    refine gx_ref (c := 390) rfl g0 rfl rfl rfl rfl ?_
    refine ex_go (S := (162, [(1, .inl k), (0, gx_r 383)], [.inl k, gx_r 390], t0, n, 0)) rfl (fun _ => rfl) rfl ?_
    refine ex_go (S := (163, [(1, .inl k), (0, gx_r 383)], [gx_r 383, .inl k, gx_r 390], t0, n, 0)) rfl (fun _ => rfl) rfl ?_
    refine gx_ref (c := 390) rfl g0 rfl rfl rfl rfl ?_
    refine ex_go (S := (169, [(1, .inl k), (0, gx_r 383)], [.inl 1100, gx_r 390, .inl k, gx_r 390], t0, n, 0)) rfl (fun _ => rfl) rfl ?_
    refine ex_go (S := (170, [(1, .inl k), (0, gx_r 383)], [.inl k, .inl 1100, gx_r 390, .inl k, gx_r 390], t0, n, 0)) rfl (fun _ => rfl) rfl ?_
    refine ex_iadd rfl (by first | decide | omega) rfl ?_
    obtain ⟨m1, k2, m1b⟩ := gx_opany (i := 1100 + k) g0 (by first | decide | omega)
    refine gx_ag (v := .inl m1) (cb := fun c => Nat.beq c 0) rfl (fun _ => rfl) g0 rfl rfl k2 (by first | decide | omega) rfl ?_
    refine gx_ap rfl (fun _ => rfl) g0 rfl rfl rfl (show k < 2200 from by omega) (gx_run1 (show k < 2200 from by omega)) (gx_full (by first | decide | omega)) rfl (fun t103 g103 k103 e103 => ?_)
    have k4 : ai_hv t103 383 13 = some (.inl cc) := (e103 383 13 (by first | decide | omega)).trans kc
    have k5 : ai_hv t103 390 (1100 + k) = some (.inl m1) := (e103 390 (1100 + k) (by first | decide | omega)).trans k2
    refine ex_go (S := (174, [(1, .inl k), (0, gx_r 383)], [gx_r 383], t103, n, 0)) rfl (fun _ => rfl) rfl ?_
    refine gx_ref (c := 391) rfl g103 rfl rfl rfl rfl ?_
    refine ex_go (S := (178, [(1, .inl k), (0, gx_r 383)], [.inl k, gx_r 391], t103, n, 0)) rfl (fun _ => rfl) rfl ?_
    refine ex_go (S := (179, [(1, .inl k), (0, gx_r 383)], [gx_r 383, .inl k, gx_r 391], t103, n, 0)) rfl (fun _ => rfl) rfl ?_
    refine gx_ref (c := 391) rfl g103 rfl rfl rfl rfl ?_
    refine ex_go (S := (185, [(1, .inl k), (0, gx_r 383)], [.inl 1100, gx_r 391, .inl k, gx_r 391], t103, n, 0)) rfl (fun _ => rfl) rfl ?_
    refine ex_go (S := (186, [(1, .inl k), (0, gx_r 383)], [.inl k, .inl 1100, gx_r 391, .inl k, gx_r 391], t103, n, 0)) rfl (fun _ => rfl) rfl ?_
    refine ex_iadd rfl (by first | decide | omega) rfl ?_
    obtain ⟨m6, k7, m6b⟩ := gx_argany (i := 1100 + k) g103 (by first | decide | omega)
    refine gx_ag (v := .inl m6) (cb := fun c => Nat.beq c 0) rfl (fun _ => rfl) g103 rfl rfl k7 (by first | decide | omega) rfl ?_
    refine gx_ap rfl (fun _ => rfl) g103 rfl rfl rfl (show k < 2200 from by omega) (gx_run1 (show k < 2200 from by omega)) (gx_full (by first | decide | omega)) rfl (fun t108 g108 k108 e108 => ?_)
    have k9 : ai_hv t108 383 13 = some (.inl cc) := (e108 383 13 (by first | decide | omega)).trans k4
    have k10 : ai_hv t108 390 (1100 + k) = some (.inl m1) := (e108 390 (1100 + k) (by first | decide | omega)).trans k5
    have k11 : ai_hv t108 390 k = some (.inl m1) := (e108 390 k (by first | decide | omega)).trans k103
    have k12 : ai_hv t108 391 (1100 + k) = some (.inl m6) := (e108 391 (1100 + k) (by first | decide | omega)).trans k7
    refine gx_iinc (i := 1) (k := 1) rfl (fun _ => rfl) (by first | decide | omega) rfl ?_
    show en_ex _ _ _ _ (192, [(1, .inl (k + 1)), (0, gx_r 383)], [], t108, n, 0) _
    refine ex_go (S := (149, [(1, .inl (k + 1)), (0, gx_r 383)], [], t108, n, 0)) rfl (fun _ => rfl) rfl ?_
    refine ih (k + 1) t108 (by first | decide | omega) g108 (fun i hi => ?_) (fun c i h => (e108 c i (by first | decide | omega)).trans ((e103 c i (by first | decide | omega)).trans (e0 c i (by first | decide | omega))))
    by_cases e : i = k
    · rw [e, ← e0 390 (1100 + k) (by first | decide | omega), ← e0 391 (1100 + k) (by first | decide | omega), k2, ← e103 391 (1100 + k) (by first | decide | omega), k7]
      exact ⟨k11, k108⟩
    · obtain ⟨j1, j2⟩ := i0 i (by first | decide | omega)
      exact ⟨(e108 390 i (by first | decide | omega)).trans ((e103 390 i (by first | decide | omega)).trans j1), (e108 391 i (by first | decide | omega)).trans ((e103 391 i (by first | decide | omega)).trans j2)⟩
theorem pa_3 {fn : en_F} {n rm : Nat} {tb : en_H} {Q : en_O → Prop} (hrm : rm ≤ 24) (kb : ai_hv tb 383 19 = some (.inl rm)) (hQ : ∀ t1, ai_HG ah_G t1 → (∀ c i, ¬ (c = 392 ∨ c = 394) → ai_hv t1 c i = ai_hv tb c i) → en_ex none fn (en_code 33) (fun _ => false) (235, [(1, .inl rm), (0, gx_r 383)], [], t1, n, 0) Q) : ∀ j k t0, k + j = rm → ai_HG ah_G t0 → (∀ c i, ¬ (c = 392 ∨ c = 394) → ai_hv t0 c i = ai_hv tb c i) → en_ex none fn (en_code 33) (fun _ => false) (197, [(1, .inl k), (0, gx_r 383)], [], t0, n, 0) Q := by
  intro j
  induction j with
  | zero =>
    intro k t0 hk g0 e0
    have hk : k = rm := by omega
    subst hk
    have kc := (e0 383 19 (by first | decide | omega)).trans kb
    refine ex_go (S := (198, [(1, .inl k), (0, gx_r 383)], [.inl k], t0, n, 0)) rfl (fun _ => rfl) rfl ?_
    refine ex_go (S := (199, [(1, .inl k), (0, gx_r 383)], [gx_r 383, .inl k], t0, n, 0)) rfl (fun _ => rfl) rfl ?_
    refine gx_get rfl g0 rfl kc rfl ?_
    refine gx_2t (c := .ge) rfl (by first | decide | omega) (by first | decide | omega) (show k ≤ k from by omega) rfl ?_
    exact hQ t0 g0 e0
  | succ j ih =>
    intro k t0 hk g0 e0
    have kc := (e0 383 19 (by first | decide | omega)).trans kb
    refine ex_go (S := (198, [(1, .inl k), (0, gx_r 383)], [.inl k], t0, n, 0)) rfl (fun _ => rfl) rfl ?_
    refine ex_go (S := (199, [(1, .inl k), (0, gx_r 383)], [gx_r 383, .inl k], t0, n, 0)) rfl (fun _ => rfl) rfl ?_
    refine gx_get rfl g0 rfl kc rfl ?_
    refine gx_2f (c := .ge) rfl (by first | decide | omega) (by first | decide | omega) (show ¬ (rm ≤ k) from by omega) rfl ?_
    refine ex_go (S := (206, [(1, .inl k), (0, gx_r 383)], [gx_r 383], t0, n, 0)) rfl (fun _ => rfl) rfl ?_
    refine gx_ref (c := 392) rfl g0 rfl rfl rfl rfl ?_
    refine ex_go (S := (210, [(1, .inl k), (0, gx_r 383)], [.inl k, gx_r 392], t0, n, 0)) rfl (fun _ => rfl) rfl ?_
    refine ex_go (S := (211, [(1, .inl k), (0, gx_r 383)], [gx_r 383, .inl k, gx_r 392], t0, n, 0)) rfl (fun _ => rfl) rfl ?_
    refine gx_ref (c := 393) rfl g0 rfl rfl rfl rfl ?_
    refine ex_go (S := (215, [(1, .inl k), (0, gx_r 383)], [.inl k, gx_r 393, .inl k, gx_r 392], t0, n, 0)) rfl (fun _ => rfl) rfl ?_
    obtain ⟨m1, k2⟩ := gx_long_393 g0 (i := k) (by first | decide | omega)
    refine gx_ag (v := .inr (.inl m1)) (cb := fun c => Nat.beq c 3) rfl (fun _ => rfl) g0 rfl rfl k2 (by first | decide | omega) rfl ?_
    refine gx_apv (d := 1) rfl (fun _ => rfl) g0 rfl rfl rfl (show k < 24 from by omega) (gx_lrun_392 k (by first | decide | omega)) ⟨_, rfl⟩ rfl (fun t103 g103 k103 e103 => ?_)
    have k4 : ai_hv t103 383 19 = some (.inl rm) := (e103 383 19 (by first | decide | omega)).trans kc
    have k5 : ai_hv t103 393 k = some (.inr (.inl m1)) := (e103 393 k (by first | decide | omega)).trans k2
    refine ex_go (S := (218, [(1, .inl k), (0, gx_r 383)], [gx_r 383], t103, n, 0)) rfl (fun _ => rfl) rfl ?_
    refine gx_ref (c := 394) rfl g103 rfl rfl rfl rfl ?_
    refine ex_go (S := (222, [(1, .inl k), (0, gx_r 383)], [.inl k, gx_r 394], t103, n, 0)) rfl (fun _ => rfl) rfl ?_
    refine ex_go (S := (223, [(1, .inl k), (0, gx_r 383)], [gx_r 383, .inl k, gx_r 394], t103, n, 0)) rfl (fun _ => rfl) rfl ?_
    refine gx_ref (c := 395) rfl g103 rfl rfl rfl rfl ?_
    refine ex_go (S := (227, [(1, .inl k), (0, gx_r 383)], [.inl k, gx_r 395, .inl k, gx_r 394], t103, n, 0)) rfl (fun _ => rfl) rfl ?_
    obtain ⟨m6, k7, m6b⟩ := gx_nof_395 g103 (i := k) (by first | decide | omega)
    refine gx_ag (v := .inl m6) (cb := fun c => Nat.beq c 0) rfl (fun _ => rfl) g103 rfl rfl k7 (by first | decide | omega) rfl ?_
    refine gx_ap rfl (fun _ => rfl) g103 rfl rfl rfl (show k < 24 from by omega) (gx_run1 (show k < 24 from by omega)) (ai_in_h (by first | decide | omega) (by first | decide | omega) (by first | decide | omega)) rfl (fun t108 g108 k108 e108 => ?_)
    have k9 : ai_hv t108 383 19 = some (.inl rm) := (e108 383 19 (by first | decide | omega)).trans k4
    have k10 : ai_hv t108 393 k = some (.inr (.inl m1)) := (e108 393 k (by first | decide | omega)).trans k5
    have k11 : ai_hv t108 392 k = some (.inr (.inl m1)) := (e108 392 k (by first | decide | omega)).trans k103
    have k12 : ai_hv t108 395 k = some (.inl m6) := (e108 395 k (by first | decide | omega)).trans k7
    refine gx_iinc (i := 1) (k := 1) rfl (fun _ => rfl) (by first | decide | omega) rfl ?_
    show en_ex _ _ _ _ (232, [(1, .inl (k + 1)), (0, gx_r 383)], [], t108, n, 0) _
    refine ex_go (S := (197, [(1, .inl (k + 1)), (0, gx_r 383)], [], t108, n, 0)) rfl (fun _ => rfl) rfl ?_
    exact ih (k + 1) t108 (by first | decide | omega) g108 (fun c i h => (e108 c i (by first | decide | omega)).trans ((e103 c i (by first | decide | omega)).trans (e0 c i h)))
theorem pa_E {t0 t1 t6 : en_H} {c : Nat} (hE : ai_E t0) (hW : px_W t0 t1) (hO : px_O t1 c) (hc : c ≤ 1000)
    (h1 : ∀ i, i < 160 → ai_hv t6 389 i = ai_hv t1 389 (160 + i)) (h2 : ∀ i, i < c → ai_hv t6 390 i = ai_hv t1 390 (1100 + i) ∧ ai_hv t6 391 i = ai_hv t1 391 (1100 + i)) (h3 : ∀ c i, ¬ (c = 383 ∨ c = 389 ∨ c = 390 ∨ c = 391 ∨ c = 392 ∨ c = 394 ∨ (c = 399 ∧ i < 18) ∨ (c = 396 ∧ i = 0) ∨ c = 400) → ai_hv t6 c i = ai_hv t1 c i)
    (h7 : ai_En t6 399 7 0 9999) (h8 : ai_En t6 399 8 0 9999) : ai_E t6 := by
  have hE1 := px_E_W hE hW
  obtain ⟨r, nt, ng, ns, nl, ov, dn, pa, -, -, -, -, -, -, -, -, -, hA, o1, o4⟩ := hO
  refine ⟨⟨ai_El_kept hE1.1.1 (fun i => h3 _ i (by first | decide | omega)) (fun i => h3 _ i (by first | decide | omega)) (fun i => h3 _ i (by first | decide | omega)), ai_El_kept hE1.1.2 (fun i => h3 _ i (by first | decide | omega)) (fun i => h3 _ i (by first | decide | omega)) (fun i => h3 _ i (by first | decide | omega))⟩, fun k hk => ?_, fun k hk => ?_, fun b hb => ?_, fun l hl => ?_⟩
  · rcases o1 k hk with ⟨m, z1, z2, z3⟩ | ⟨m, z1, z2, z3⟩
    · exact Or.inl ⟨m, (h1 3 (by first | decide | omega)).trans z1, z2, z3⟩
    · exact Or.inr ⟨m, (h1 (95 + 4 * k) (by first | decide | omega)).trans (by rw [show 160 + (95 + 4 * k) = 255 + 4 * k by omega]; exact z1), z2, z3⟩
  · have := hE1.2.2.1 k hk
    simp only [ai_En, h3 396 (1 + 4 * k) (by first | decide | omega), h3 396 (2 + 4 * k) (by first | decide | omega), h3 396 (3 + 4 * k) (by first | decide | omega), h3 396 (4 + 4 * k) (by first | decide | omega)] at this ⊢
    exact this
  · by_cases e : b = 0
    · subst e
      obtain ⟨x, x1, x2, x3⟩ := h7
      obtain ⟨y, y1, y2, y3⟩ := h8
      exact ⟨x, y, x1, y1, by omega⟩
    · rw [h3 399 _ (by first | decide | omega), h3 399 _ (by first | decide | omega)]
      exact hE1.2.2.2.1 b hb
  · rcases o4 l hl with h | ⟨s, e, F, k1, k2, k3, k4, k5, k6⟩
    · exact Or.inl ((h1 (9 + l) (by first | decide | omega)).trans (by rw [show 160 + (9 + l) = 169 + l by omega]; exact h))
    · refine Or.inr ⟨s, e, F, (h1 (9 + l) (by first | decide | omega)).trans (by rw [show 160 + (9 + l) = 169 + l by omega]; exact k1), k2, by omega, k4, (h2 e k3).1.trans k5, fun i z1 z2 => ?_⟩
      obtain ⟨o, z, j1, j2, j3⟩ := k6 i z1 z2
      exact ⟨o, z, (h2 i (by first | decide | omega)).1.trans j1, (h2 i (by first | decide | omega)).2.trans j2, j3⟩
theorem pa_104 (d n : Nat) {t0 t1 : en_H} {a f : Nat} (hE : ai_E t0) (hW : px_W t0 t1) (s1 : px_S t1 a f) (hO : f = 0 → ∃ c, px_O t1 c ∧ c ≤ a) (k2 : ai_hv t1 383 2 = some (.inl 0)) : en_ex none (en_u (d + 34)) (en_code 33) (fun _ => false) (104, [(0, gx_r 383)], [], t1, n, 0) (fun o => ∃ r, o = .inl r ∧ ∃ v t', r = (some (.inl v), t', n, 0) ∧ v < 4294967296 ∧ ai_HG ah_G t' ∧ ai_E t' ∧ ai_hv t' 383 2 = some (.inl 0) ∧ (∀ c i, c < 383 ∨ c = 388 → ai_hv t' c i = ai_hv t0 c i) ∧ (v ≠ 0 → px_W t0 t')) := by
  have b0 := s1.2.2.2
  refine ex_go (S := (105, [(0, gx_r 383)], [gx_r 383], t1, n, 0)) rfl (fun _ => rfl) rfl ?_
  refine gx_get rfl s1.1 rfl s1.2.2.1 rfl ?_
  by_cases hc1 : f ≤ 0
  · refine gx_1t (c := .le) rfl (by first | decide | omega) hc1 rfl ?_
    obtain ⟨cO, hOO, hcO⟩ := hO (by first | decide | omega)
    obtain ⟨r, nt, ng, ns, nl, ov, dn, pa, kr, knt, kng, kns, knl, kov, kdn, kpa, kc, hA, -, -⟩ := id hOO
    obtain ⟨nL, kL, -, hL⟩ := gx_in (c := 389) (i := 163) (lo := 0) (hi := 6) s1.1 rfl rfl rfl rfl
    obtain ⟨nC, kC, -, hC⟩ := gx_in (c := 389) (i := 164) (lo := 0) (hi := 2) s1.1 rfl rfl rfl rfl
    refine ex_go (S := (117, [(0, gx_r 383)], [.inl 0], t1, n, 0)) rfl (fun _ => rfl) rfl ?_
    refine ex_go (S := (118, [(1, .inl 0), (0, gx_r 383)], [], t1, n, 0)) rfl (fun _ => rfl) rfl ?_
    refine ex_go (S := (119, [(1, .inl 0), (0, gx_r 383)], [.inl 0], t1, n, 0)) rfl (fun _ => rfl) rfl ?_
    refine ex_go (S := (122, [(1, .inl 0), (0, gx_r 383)], [.inl 160, .inl 0], t1, n, 0)) rfl (fun _ => rfl) rfl ?_
    refine ex_go (S := (125, [(1, .inl 0), (0, gx_r 383)], [], t1, n, 0)) rfl (fun _ => rfl) rfl ?_
    refine ex_go (S := (126, [(1, .inl 0), (0, gx_r 383)], [gx_r 383], t1, n, 0)) rfl (fun _ => rfl) rfl ?_
    refine gx_ref (c := 389) rfl s1.1 rfl rfl rfl rfl ?_
    refine ex_go (S := (130, [(1, .inl 0), (0, gx_r 383)], [.inl 0, gx_r 389], t1, n, 0)) rfl (fun _ => rfl) rfl ?_
    refine ex_go (S := (131, [(1, .inl 0), (0, gx_r 383)], [gx_r 383, .inl 0, gx_r 389], t1, n, 0)) rfl (fun _ => rfl) rfl ?_
    refine gx_ref (c := 389) rfl s1.1 rfl rfl rfl rfl ?_
    refine ex_go (S := (137, [(1, .inl 0), (0, gx_r 383)], [.inl 160, gx_r 389, .inl 0, gx_r 389], t1, n, 0)) rfl (fun _ => rfl) rfl ?_
    refine ex_go (S := (138, [(1, .inl 0), (0, gx_r 383)], [.inl 0, .inl 160, gx_r 389, .inl 0, gx_r 389], t1, n, 0)) rfl (fun _ => rfl) rfl ?_
    refine ex_go (S := (139, [(1, .inl 0), (0, gx_r 383)], [.inl 160, gx_r 389, .inl 0, gx_r 389], t1, n, 0)) rfl (fun _ => rfl) rfl ?_
    refine gx_ag (v := .inl ov) (cb := fun c => Nat.beq c 0) rfl (fun _ => rfl) s1.1 rfl rfl kov (by first | decide | omega) rfl ?_
    refine gx_ap rfl (fun _ => rfl) s1.1 rfl rfl rfl (show 0 < 320 from by omega) rfl (ai_in_h (by first | decide | omega) (by first | decide | omega) (by first | decide | omega)) rfl (fun t102 g102 k102 e102 => ?_)
    have k3 : ai_hv t102 383 2 = some (.inl 0) := (e102 383 2 (by first | decide | omega)).trans k2
    have k4 : ai_hv t102 383 19 = some (.inl r) := (e102 383 19 (by first | decide | omega)).trans kr
    have k5 : ai_hv t102 383 13 = some (.inl cO) := (e102 383 13 (by first | decide | omega)).trans kc
    have k6 : ai_hv t102 389 160 = some (.inl ov) := (e102 389 160 (by first | decide | omega)).trans kov
    have k7 : ai_hv t102 389 161 = some (.inl dn) := (e102 389 161 (by first | decide | omega)).trans kdn
    have k8 : ai_hv t102 389 162 = some (.inl nt) := (e102 389 162 (by first | decide | omega)).trans knt
    have k9 : ai_hv t102 389 165 = some (.inl pa) := (e102 389 165 (by first | decide | omega)).trans kpa
    have k10 : ai_hv t102 389 163 = some (.inl nL) := (e102 389 163 (by first | decide | omega)).trans kL
    have k11 : ai_hv t102 389 164 = some (.inl nC) := (e102 389 164 (by first | decide | omega)).trans kC
    have s102 : px_S t102 a f := ⟨g102, (e102 383 7 (by first | decide | omega)).trans s1.2.1, (e102 383 8 (by first | decide | omega)).trans s1.2.2.1, s1.2.2.2⟩
    refine ex_go (S := (144, [(1, .inl 1), (0, gx_r 383)], [], t102, n, 0)) rfl (fun _ => rfl) rfl ?_
    refine ex_go (S := (118, [(1, .inl 1), (0, gx_r 383)], [], t102, n, 0)) rfl (fun _ => rfl) rfl ?_
    refine ex_go (S := (119, [(1, .inl 1), (0, gx_r 383)], [.inl 1], t102, n, 0)) rfl (fun _ => rfl) rfl ?_
    refine ex_go (S := (122, [(1, .inl 1), (0, gx_r 383)], [.inl 160, .inl 1], t102, n, 0)) rfl (fun _ => rfl) rfl ?_
    refine ex_go (S := (125, [(1, .inl 1), (0, gx_r 383)], [], t102, n, 0)) rfl (fun _ => rfl) rfl ?_
    refine ex_go (S := (126, [(1, .inl 1), (0, gx_r 383)], [gx_r 383], t102, n, 0)) rfl (fun _ => rfl) rfl ?_
    refine gx_ref (c := 389) rfl s102.1 rfl rfl rfl rfl ?_
    refine ex_go (S := (130, [(1, .inl 1), (0, gx_r 383)], [.inl 1, gx_r 389], t102, n, 0)) rfl (fun _ => rfl) rfl ?_
    refine ex_go (S := (131, [(1, .inl 1), (0, gx_r 383)], [gx_r 383, .inl 1, gx_r 389], t102, n, 0)) rfl (fun _ => rfl) rfl ?_
    refine gx_ref (c := 389) rfl s102.1 rfl rfl rfl rfl ?_
    refine ex_go (S := (137, [(1, .inl 1), (0, gx_r 383)], [.inl 160, gx_r 389, .inl 1, gx_r 389], t102, n, 0)) rfl (fun _ => rfl) rfl ?_
    refine ex_go (S := (138, [(1, .inl 1), (0, gx_r 383)], [.inl 1, .inl 160, gx_r 389, .inl 1, gx_r 389], t102, n, 0)) rfl (fun _ => rfl) rfl ?_
    refine ex_go (S := (139, [(1, .inl 1), (0, gx_r 383)], [.inl 161, gx_r 389, .inl 1, gx_r 389], t102, n, 0)) rfl (fun _ => rfl) rfl ?_
    refine gx_ag (v := .inl dn) (cb := fun c => Nat.beq c 0) rfl (fun _ => rfl) s102.1 rfl rfl k7 (by first | decide | omega) rfl ?_
    refine gx_ap rfl (fun _ => rfl) s102.1 rfl rfl rfl (show 1 < 320 from by omega) rfl (ai_in_h (by first | decide | omega) (by first | decide | omega) (by first | decide | omega)) rfl (fun t112 g112 k112 e112 => ?_)
    have k13 : ai_hv t112 383 2 = some (.inl 0) := (e112 383 2 (by first | decide | omega)).trans k3
    have k14 : ai_hv t112 383 19 = some (.inl r) := (e112 383 19 (by first | decide | omega)).trans k4
    have k15 : ai_hv t112 383 13 = some (.inl cO) := (e112 383 13 (by first | decide | omega)).trans k5
    have k16 : ai_hv t112 389 160 = some (.inl ov) := (e112 389 160 (by first | decide | omega)).trans k6
    have k17 : ai_hv t112 389 161 = some (.inl dn) := (e112 389 161 (by first | decide | omega)).trans k7
    have k18 : ai_hv t112 389 162 = some (.inl nt) := (e112 389 162 (by first | decide | omega)).trans k8
    have k19 : ai_hv t112 389 165 = some (.inl pa) := (e112 389 165 (by first | decide | omega)).trans k9
    have k20 : ai_hv t112 389 163 = some (.inl nL) := (e112 389 163 (by first | decide | omega)).trans k10
    have k21 : ai_hv t112 389 164 = some (.inl nC) := (e112 389 164 (by first | decide | omega)).trans k11
    have k22 : ai_hv t112 389 0 = some (.inl ov) := (e112 389 0 (by first | decide | omega)).trans k102
    have s112 : px_S t112 a f := ⟨g112, (e112 383 7 (by first | decide | omega)).trans s102.2.1, (e112 383 8 (by first | decide | omega)).trans s102.2.2.1, s102.2.2.2⟩
    refine ex_go (S := (144, [(1, .inl 2), (0, gx_r 383)], [], t112, n, 0)) rfl (fun _ => rfl) rfl ?_
    refine ex_go (S := (118, [(1, .inl 2), (0, gx_r 383)], [], t112, n, 0)) rfl (fun _ => rfl) rfl ?_
    refine ex_go (S := (119, [(1, .inl 2), (0, gx_r 383)], [.inl 2], t112, n, 0)) rfl (fun _ => rfl) rfl ?_
    refine ex_go (S := (122, [(1, .inl 2), (0, gx_r 383)], [.inl 160, .inl 2], t112, n, 0)) rfl (fun _ => rfl) rfl ?_
    refine ex_go (S := (125, [(1, .inl 2), (0, gx_r 383)], [], t112, n, 0)) rfl (fun _ => rfl) rfl ?_
    refine ex_go (S := (126, [(1, .inl 2), (0, gx_r 383)], [gx_r 383], t112, n, 0)) rfl (fun _ => rfl) rfl ?_
    refine gx_ref (c := 389) rfl s112.1 rfl rfl rfl rfl ?_
    refine ex_go (S := (130, [(1, .inl 2), (0, gx_r 383)], [.inl 2, gx_r 389], t112, n, 0)) rfl (fun _ => rfl) rfl ?_
    refine ex_go (S := (131, [(1, .inl 2), (0, gx_r 383)], [gx_r 383, .inl 2, gx_r 389], t112, n, 0)) rfl (fun _ => rfl) rfl ?_
    refine gx_ref (c := 389) rfl s112.1 rfl rfl rfl rfl ?_
    refine ex_go (S := (137, [(1, .inl 2), (0, gx_r 383)], [.inl 160, gx_r 389, .inl 2, gx_r 389], t112, n, 0)) rfl (fun _ => rfl) rfl ?_
    refine ex_go (S := (138, [(1, .inl 2), (0, gx_r 383)], [.inl 2, .inl 160, gx_r 389, .inl 2, gx_r 389], t112, n, 0)) rfl (fun _ => rfl) rfl ?_
    refine ex_go (S := (139, [(1, .inl 2), (0, gx_r 383)], [.inl 162, gx_r 389, .inl 2, gx_r 389], t112, n, 0)) rfl (fun _ => rfl) rfl ?_
    refine gx_ag (v := .inl nt) (cb := fun c => Nat.beq c 0) rfl (fun _ => rfl) s112.1 rfl rfl k18 (by first | decide | omega) rfl ?_
    refine gx_ap rfl (fun _ => rfl) s112.1 rfl rfl rfl (show 2 < 320 from by omega) rfl (ai_in_h (by first | decide | omega) (by first | decide | omega) (by first | decide | omega)) rfl (fun t123 g123 k123 e123 => ?_)
    have k24 : ai_hv t123 383 2 = some (.inl 0) := (e123 383 2 (by first | decide | omega)).trans k13
    have k25 : ai_hv t123 383 19 = some (.inl r) := (e123 383 19 (by first | decide | omega)).trans k14
    have k26 : ai_hv t123 383 13 = some (.inl cO) := (e123 383 13 (by first | decide | omega)).trans k15
    have k27 : ai_hv t123 389 160 = some (.inl ov) := (e123 389 160 (by first | decide | omega)).trans k16
    have k28 : ai_hv t123 389 161 = some (.inl dn) := (e123 389 161 (by first | decide | omega)).trans k17
    have k29 : ai_hv t123 389 162 = some (.inl nt) := (e123 389 162 (by first | decide | omega)).trans k18
    have k30 : ai_hv t123 389 165 = some (.inl pa) := (e123 389 165 (by first | decide | omega)).trans k19
    have k31 : ai_hv t123 389 163 = some (.inl nL) := (e123 389 163 (by first | decide | omega)).trans k20
    have k32 : ai_hv t123 389 164 = some (.inl nC) := (e123 389 164 (by first | decide | omega)).trans k21
    have k33 : ai_hv t123 389 0 = some (.inl ov) := (e123 389 0 (by first | decide | omega)).trans k22
    have k34 : ai_hv t123 389 1 = some (.inl dn) := (e123 389 1 (by first | decide | omega)).trans k112
    have s123 : px_S t123 a f := ⟨g123, (e123 383 7 (by first | decide | omega)).trans s112.2.1, (e123 383 8 (by first | decide | omega)).trans s112.2.2.1, s112.2.2.2⟩
    refine ex_go (S := (144, [(1, .inl 3), (0, gx_r 383)], [], t123, n, 0)) rfl (fun _ => rfl) rfl ?_
    refine ex_go (S := (118, [(1, .inl 3), (0, gx_r 383)], [], t123, n, 0)) rfl (fun _ => rfl) rfl ?_
    refine ex_go (S := (119, [(1, .inl 3), (0, gx_r 383)], [.inl 3], t123, n, 0)) rfl (fun _ => rfl) rfl ?_
    refine ex_go (S := (122, [(1, .inl 3), (0, gx_r 383)], [.inl 160, .inl 3], t123, n, 0)) rfl (fun _ => rfl) rfl ?_
    refine ex_go (S := (125, [(1, .inl 3), (0, gx_r 383)], [], t123, n, 0)) rfl (fun _ => rfl) rfl ?_
    refine ex_go (S := (126, [(1, .inl 3), (0, gx_r 383)], [gx_r 383], t123, n, 0)) rfl (fun _ => rfl) rfl ?_
    refine gx_ref (c := 389) rfl s123.1 rfl rfl rfl rfl ?_
    refine ex_go (S := (130, [(1, .inl 3), (0, gx_r 383)], [.inl 3, gx_r 389], t123, n, 0)) rfl (fun _ => rfl) rfl ?_
    refine ex_go (S := (131, [(1, .inl 3), (0, gx_r 383)], [gx_r 383, .inl 3, gx_r 389], t123, n, 0)) rfl (fun _ => rfl) rfl ?_
    refine gx_ref (c := 389) rfl s123.1 rfl rfl rfl rfl ?_
    refine ex_go (S := (137, [(1, .inl 3), (0, gx_r 383)], [.inl 160, gx_r 389, .inl 3, gx_r 389], t123, n, 0)) rfl (fun _ => rfl) rfl ?_
    refine ex_go (S := (138, [(1, .inl 3), (0, gx_r 383)], [.inl 3, .inl 160, gx_r 389, .inl 3, gx_r 389], t123, n, 0)) rfl (fun _ => rfl) rfl ?_
    refine ex_go (S := (139, [(1, .inl 3), (0, gx_r 383)], [.inl 163, gx_r 389, .inl 3, gx_r 389], t123, n, 0)) rfl (fun _ => rfl) rfl ?_
    refine gx_ag (v := .inl nL) (cb := fun c => Nat.beq c 0) rfl (fun _ => rfl) s123.1 rfl rfl k31 (by first | decide | omega) rfl ?_
    refine gx_ap rfl (fun _ => rfl) s123.1 rfl rfl rfl (show 3 < 320 from by omega) rfl (ai_in_h (by first | decide | omega) (by first | decide | omega) (by first | decide | omega)) rfl (fun t135 g135 k135 e135 => ?_)
    have k36 : ai_hv t135 383 2 = some (.inl 0) := (e135 383 2 (by first | decide | omega)).trans k24
    have k37 : ai_hv t135 383 19 = some (.inl r) := (e135 383 19 (by first | decide | omega)).trans k25
    have k38 : ai_hv t135 383 13 = some (.inl cO) := (e135 383 13 (by first | decide | omega)).trans k26
    have k39 : ai_hv t135 389 160 = some (.inl ov) := (e135 389 160 (by first | decide | omega)).trans k27
    have k40 : ai_hv t135 389 161 = some (.inl dn) := (e135 389 161 (by first | decide | omega)).trans k28
    have k41 : ai_hv t135 389 162 = some (.inl nt) := (e135 389 162 (by first | decide | omega)).trans k29
    have k42 : ai_hv t135 389 165 = some (.inl pa) := (e135 389 165 (by first | decide | omega)).trans k30
    have k43 : ai_hv t135 389 163 = some (.inl nL) := (e135 389 163 (by first | decide | omega)).trans k31
    have k44 : ai_hv t135 389 164 = some (.inl nC) := (e135 389 164 (by first | decide | omega)).trans k32
    have k45 : ai_hv t135 389 0 = some (.inl ov) := (e135 389 0 (by first | decide | omega)).trans k33
    have k46 : ai_hv t135 389 1 = some (.inl dn) := (e135 389 1 (by first | decide | omega)).trans k34
    have k47 : ai_hv t135 389 2 = some (.inl nt) := (e135 389 2 (by first | decide | omega)).trans k123
    have s135 : px_S t135 a f := ⟨g135, (e135 383 7 (by first | decide | omega)).trans s123.2.1, (e135 383 8 (by first | decide | omega)).trans s123.2.2.1, s123.2.2.2⟩
    refine ex_go (S := (144, [(1, .inl 4), (0, gx_r 383)], [], t135, n, 0)) rfl (fun _ => rfl) rfl ?_
    refine ex_go (S := (118, [(1, .inl 4), (0, gx_r 383)], [], t135, n, 0)) rfl (fun _ => rfl) rfl ?_
    refine ex_go (S := (119, [(1, .inl 4), (0, gx_r 383)], [.inl 4], t135, n, 0)) rfl (fun _ => rfl) rfl ?_
    refine ex_go (S := (122, [(1, .inl 4), (0, gx_r 383)], [.inl 160, .inl 4], t135, n, 0)) rfl (fun _ => rfl) rfl ?_
    refine ex_go (S := (125, [(1, .inl 4), (0, gx_r 383)], [], t135, n, 0)) rfl (fun _ => rfl) rfl ?_
    refine ex_go (S := (126, [(1, .inl 4), (0, gx_r 383)], [gx_r 383], t135, n, 0)) rfl (fun _ => rfl) rfl ?_
    refine gx_ref (c := 389) rfl s135.1 rfl rfl rfl rfl ?_
    refine ex_go (S := (130, [(1, .inl 4), (0, gx_r 383)], [.inl 4, gx_r 389], t135, n, 0)) rfl (fun _ => rfl) rfl ?_
    refine ex_go (S := (131, [(1, .inl 4), (0, gx_r 383)], [gx_r 383, .inl 4, gx_r 389], t135, n, 0)) rfl (fun _ => rfl) rfl ?_
    refine gx_ref (c := 389) rfl s135.1 rfl rfl rfl rfl ?_
    refine ex_go (S := (137, [(1, .inl 4), (0, gx_r 383)], [.inl 160, gx_r 389, .inl 4, gx_r 389], t135, n, 0)) rfl (fun _ => rfl) rfl ?_
    refine ex_go (S := (138, [(1, .inl 4), (0, gx_r 383)], [.inl 4, .inl 160, gx_r 389, .inl 4, gx_r 389], t135, n, 0)) rfl (fun _ => rfl) rfl ?_
    refine ex_go (S := (139, [(1, .inl 4), (0, gx_r 383)], [.inl 164, gx_r 389, .inl 4, gx_r 389], t135, n, 0)) rfl (fun _ => rfl) rfl ?_
    refine gx_ag (v := .inl nC) (cb := fun c => Nat.beq c 0) rfl (fun _ => rfl) s135.1 rfl rfl k44 (by first | decide | omega) rfl ?_
    refine gx_ap rfl (fun _ => rfl) s135.1 rfl rfl rfl (show 4 < 320 from by omega) rfl (ai_in_h (by first | decide | omega) (by first | decide | omega) (by first | decide | omega)) rfl (fun t148 g148 k148 e148 => ?_)
    have k49 : ai_hv t148 383 2 = some (.inl 0) := (e148 383 2 (by first | decide | omega)).trans k36
    have k50 : ai_hv t148 383 19 = some (.inl r) := (e148 383 19 (by first | decide | omega)).trans k37
    have k51 : ai_hv t148 383 13 = some (.inl cO) := (e148 383 13 (by first | decide | omega)).trans k38
    have k52 : ai_hv t148 389 160 = some (.inl ov) := (e148 389 160 (by first | decide | omega)).trans k39
    have k53 : ai_hv t148 389 161 = some (.inl dn) := (e148 389 161 (by first | decide | omega)).trans k40
    have k54 : ai_hv t148 389 162 = some (.inl nt) := (e148 389 162 (by first | decide | omega)).trans k41
    have k55 : ai_hv t148 389 165 = some (.inl pa) := (e148 389 165 (by first | decide | omega)).trans k42
    have k56 : ai_hv t148 389 163 = some (.inl nL) := (e148 389 163 (by first | decide | omega)).trans k43
    have k57 : ai_hv t148 389 164 = some (.inl nC) := (e148 389 164 (by first | decide | omega)).trans k44
    have k58 : ai_hv t148 389 0 = some (.inl ov) := (e148 389 0 (by first | decide | omega)).trans k45
    have k59 : ai_hv t148 389 1 = some (.inl dn) := (e148 389 1 (by first | decide | omega)).trans k46
    have k60 : ai_hv t148 389 2 = some (.inl nt) := (e148 389 2 (by first | decide | omega)).trans k47
    have k61 : ai_hv t148 389 3 = some (.inl nL) := (e148 389 3 (by first | decide | omega)).trans k135
    have s148 : px_S t148 a f := ⟨g148, (e148 383 7 (by first | decide | omega)).trans s135.2.1, (e148 383 8 (by first | decide | omega)).trans s135.2.2.1, s135.2.2.2⟩
    refine ex_go (S := (144, [(1, .inl 5), (0, gx_r 383)], [], t148, n, 0)) rfl (fun _ => rfl) rfl ?_
    refine ex_go (S := (118, [(1, .inl 5), (0, gx_r 383)], [], t148, n, 0)) rfl (fun _ => rfl) rfl ?_
    refine ex_go (S := (119, [(1, .inl 5), (0, gx_r 383)], [.inl 5], t148, n, 0)) rfl (fun _ => rfl) rfl ?_
    refine ex_go (S := (122, [(1, .inl 5), (0, gx_r 383)], [.inl 160, .inl 5], t148, n, 0)) rfl (fun _ => rfl) rfl ?_
    refine ex_go (S := (125, [(1, .inl 5), (0, gx_r 383)], [], t148, n, 0)) rfl (fun _ => rfl) rfl ?_
    refine ex_go (S := (126, [(1, .inl 5), (0, gx_r 383)], [gx_r 383], t148, n, 0)) rfl (fun _ => rfl) rfl ?_
    refine gx_ref (c := 389) rfl s148.1 rfl rfl rfl rfl ?_
    refine ex_go (S := (130, [(1, .inl 5), (0, gx_r 383)], [.inl 5, gx_r 389], t148, n, 0)) rfl (fun _ => rfl) rfl ?_
    refine ex_go (S := (131, [(1, .inl 5), (0, gx_r 383)], [gx_r 383, .inl 5, gx_r 389], t148, n, 0)) rfl (fun _ => rfl) rfl ?_
    refine gx_ref (c := 389) rfl s148.1 rfl rfl rfl rfl ?_
    refine ex_go (S := (137, [(1, .inl 5), (0, gx_r 383)], [.inl 160, gx_r 389, .inl 5, gx_r 389], t148, n, 0)) rfl (fun _ => rfl) rfl ?_
    refine ex_go (S := (138, [(1, .inl 5), (0, gx_r 383)], [.inl 5, .inl 160, gx_r 389, .inl 5, gx_r 389], t148, n, 0)) rfl (fun _ => rfl) rfl ?_
    refine ex_go (S := (139, [(1, .inl 5), (0, gx_r 383)], [.inl 165, gx_r 389, .inl 5, gx_r 389], t148, n, 0)) rfl (fun _ => rfl) rfl ?_
    refine gx_ag (v := .inl pa) (cb := fun c => Nat.beq c 0) rfl (fun _ => rfl) s148.1 rfl rfl k55 (by first | decide | omega) rfl ?_
    refine gx_ap rfl (fun _ => rfl) s148.1 rfl rfl rfl (show 5 < 320 from by omega) rfl (ai_in_h (by first | decide | omega) (by first | decide | omega) (by first | decide | omega)) rfl (fun t162 g162 k162 e162 => ?_)
    have k63 : ai_hv t162 383 2 = some (.inl 0) := (e162 383 2 (by first | decide | omega)).trans k49
    have k64 : ai_hv t162 383 19 = some (.inl r) := (e162 383 19 (by first | decide | omega)).trans k50
    have k65 : ai_hv t162 383 13 = some (.inl cO) := (e162 383 13 (by first | decide | omega)).trans k51
    have k66 : ai_hv t162 389 160 = some (.inl ov) := (e162 389 160 (by first | decide | omega)).trans k52
    have k67 : ai_hv t162 389 161 = some (.inl dn) := (e162 389 161 (by first | decide | omega)).trans k53
    have k68 : ai_hv t162 389 162 = some (.inl nt) := (e162 389 162 (by first | decide | omega)).trans k54
    have k69 : ai_hv t162 389 165 = some (.inl pa) := (e162 389 165 (by first | decide | omega)).trans k55
    have k70 : ai_hv t162 389 163 = some (.inl nL) := (e162 389 163 (by first | decide | omega)).trans k56
    have k71 : ai_hv t162 389 164 = some (.inl nC) := (e162 389 164 (by first | decide | omega)).trans k57
    have k72 : ai_hv t162 389 0 = some (.inl ov) := (e162 389 0 (by first | decide | omega)).trans k58
    have k73 : ai_hv t162 389 1 = some (.inl dn) := (e162 389 1 (by first | decide | omega)).trans k59
    have k74 : ai_hv t162 389 2 = some (.inl nt) := (e162 389 2 (by first | decide | omega)).trans k60
    have k75 : ai_hv t162 389 3 = some (.inl nL) := (e162 389 3 (by first | decide | omega)).trans k61
    have k76 : ai_hv t162 389 4 = some (.inl nC) := (e162 389 4 (by first | decide | omega)).trans k148
    have s162 : px_S t162 a f := ⟨g162, (e162 383 7 (by first | decide | omega)).trans s148.2.1, (e162 383 8 (by first | decide | omega)).trans s148.2.2.1, s148.2.2.2⟩
    refine ex_go (S := (144, [(1, .inl 6), (0, gx_r 383)], [], t162, n, 0)) rfl (fun _ => rfl) rfl ?_
    refine ex_go (S := (118, [(1, .inl 6), (0, gx_r 383)], [], t162, n, 0)) rfl (fun _ => rfl) rfl ?_
    have i6 : ∀ i, i < 6 → ai_hv t162 389 i = ai_hv t1 389 (160 + i) := fun i hi => by
      rcases (show i = 0 ∨ i = 1 ∨ i = 2 ∨ i = 3 ∨ i = 4 ∨ i = 5 by omega) with rfl | rfl | rfl | rfl | rfl | rfl
      · exact k72.trans kov.symm
      · exact k73.trans kdn.symm
      · exact k74.trans knt.symm
      · exact k75.trans kL.symm
      · exact k76.trans kC.symm
      · exact k162.trans kpa.symm
    refine pa_1 (tb := t1) (fun t177 g177 j1 e177 => ?_) 154 6 _ rfl (by first | decide | omega) s162.1 i6 (fun c i h => (e162 c i (by first | decide | omega)).trans ((e148 c i (by first | decide | omega)).trans ((e135 c i (by first | decide | omega)).trans ((e123 c i (by first | decide | omega)).trans ((e112 c i (by first | decide | omega)).trans (e102 c i (by first | decide | omega)))))))
    have k78 : ai_hv t177 383 2 = some (.inl 0) := (e177 383 2 (by first | decide | omega)).trans k2
    have k79 : ai_hv t177 383 19 = some (.inl r) := (e177 383 19 (by first | decide | omega)).trans kr
    have k80 : ai_hv t177 383 13 = some (.inl cO) := (e177 383 13 (by first | decide | omega)).trans kc
    refine ex_go (S := (148, [(1, .inl 160), (0, gx_r 383)], [.inl 0], t177, n, 0)) rfl (fun _ => rfl) rfl ?_
    refine ex_go (S := (149, [(1, .inl 0), (0, gx_r 383)], [], t177, n, 0)) rfl (fun _ => rfl) rfl ?_
    refine pa_2 (tb := t177) (cc := cO) (by first | decide | omega) k80 (fun t181 g181 j2 e181 => ?_) cO 0 _ (by first | decide | omega) g177 (fun i hi => by omega) (fun c i h => rfl)
    have k82 : ai_hv t181 383 2 = some (.inl 0) := (e181 383 2 (by first | decide | omega)).trans k78
    have k83 : ai_hv t181 383 19 = some (.inl r) := (e181 383 19 (by first | decide | omega)).trans k79
    have k84 : ai_hv t181 383 13 = some (.inl cO) := (e181 383 13 (by first | decide | omega)).trans k80
    refine ex_go (S := (196, [(1, .inl cO), (0, gx_r 383)], [.inl 0], t181, n, 0)) rfl (fun _ => rfl) rfl ?_
    refine ex_go (S := (197, [(1, .inl 0), (0, gx_r 383)], [], t181, n, 0)) rfl (fun _ => rfl) rfl ?_
    refine pa_3 (tb := t181) (rm := r) (by first | decide | omega) k83 (fun t185 g185 e185 => ?_) r 0 _ (by first | decide | omega) g181 (fun c i h => rfl)
    have k86 : ai_hv t185 383 2 = some (.inl 0) := (e185 383 2 (by first | decide | omega)).trans k82
    have k87 : ai_hv t185 383 19 = some (.inl r) := (e185 383 19 (by first | decide | omega)).trans k83
    have k88 : ai_hv t185 383 13 = some (.inl cO) := (e185 383 13 (by first | decide | omega)).trans k84
    refine ex_go (S := (236, [(1, .inl r), (0, gx_r 383)], [gx_r 383], t185, n, 0)) rfl (fun _ => rfl) rfl ?_
    refine ex_go (S := (237, [(1, .inl r), (0, gx_r 383)], [gx_r 383, gx_r 383], t185, n, 0)) rfl (fun _ => rfl) rfl ?_
    refine gx_get rfl g185 rfl k87 rfl ?_
    refine gx_put rfl g185 rfl rfl (ai_in_h (by first | decide | omega) (by first | decide | omega) (by first | decide | omega)) rfl (fun t189 g189 k189 e189 => ?_)
    have k90 : ai_hv t189 383 2 = some (.inl 0) := (e189 383 2 (by first | decide | omega)).trans k86
    have k91 : ai_hv t189 383 19 = some (.inl r) := (e189 383 19 (by first | decide | omega)).trans k87
    have k92 : ai_hv t189 383 13 = some (.inl cO) := (e189 383 13 (by first | decide | omega)).trans k88
    refine ex_go (S := (244, [(1, .inl r), (0, gx_r 383)], [gx_r 383], t189, n, 0)) rfl (fun _ => rfl) rfl ?_
    obtain ⟨_, r193, t193, rfl, g193, e193, h7, h8⟩ := pk_begins (d + 31) n g189
    refine gx_call0 rfl rfl g189 rfl rfl r193 rfl ?_
    have k94 : ai_hv t193 383 2 = some (.inl 0) := (e193 383 2 (by first | decide | omega)).trans k90
    have k95 : ai_hv t193 383 19 = some (.inl r) := (e193 383 19 (by first | decide | omega)).trans k91
    have k96 : ai_hv t193 383 13 = some (.inl cO) := (e193 383 13 (by first | decide | omega)).trans k92
    have k97 : ai_hv t193 383 18 = some (.inl r) := (e193 383 18 (by first | decide | omega)).trans k189
    refine ex_go (S := (248, [(1, .inl r), (0, gx_r 383)], [.inl 0], t193, n, 0)) rfl (fun _ => rfl) rfl ?_
    refine ex_ret (r := (some (.inl 0), t193, n, 0)) rfl (fun _ => rfl) ?_
    have z1 : ∀ i, i < 160 → ai_hv t193 389 i = ai_hv t1 389 (160 + i) := fun i hi => (e193 389 i (by first | decide | omega)).trans ((e189 389 i (by first | decide | omega)).trans ((e185 389 i (by first | decide | omega)).trans ((e181 389 i (by first | decide | omega)).trans (j1 i hi))))
    have z2 : ∀ i, i < cO → ai_hv t193 390 i = ai_hv t1 390 (1100 + i) ∧ ai_hv t193 391 i = ai_hv t1 391 (1100 + i) := fun i hi => ⟨(e193 390 i (by first | decide | omega)).trans ((e189 390 i (by first | decide | omega)).trans ((e185 390 i (by first | decide | omega)).trans (((j2 i hi).1).trans ((e177 390 (1100 + i) (by first | decide | omega)))))), (e193 391 i (by first | decide | omega)).trans ((e189 391 i (by first | decide | omega)).trans ((e185 391 i (by first | decide | omega)).trans (((j2 i hi).2).trans ((e177 391 (1100 + i) (by first | decide | omega))))))⟩
    exact ⟨_, rfl, 0, t193, rfl, by omega, g193, pa_E hE hW hOO (by first | decide | omega) z1 z2 (fun c i h => (e193 c i (by first | decide | omega)).trans ((e189 c i (by first | decide | omega)).trans ((e185 c i (by first | decide | omega)).trans ((e181 c i (by first | decide | omega)).trans ((e177 c i (by first | decide | omega))))))) h7 h8, k94, (fun c i h => ((e193 c i (by first | decide | omega)).trans ((e189 c i (by first | decide | omega)).trans ((e185 c i (by first | decide | omega)).trans ((e181 c i (by first | decide | omega)).trans ((e177 c i (by first | decide | omega))))))).trans (hW c i (by first | decide | omega))), fun z => absurd rfl z⟩
  · refine gx_1f (c := .le) rfl (by first | decide | omega) hc1 rfl ?_
    refine ex_go (S := (112, [(0, gx_r 383)], [gx_r 383], t1, n, 0)) rfl (fun _ => rfl) rfl ?_
    refine gx_get rfl s1.1 rfl s1.2.2.1 rfl ?_
    refine ex_ret (r := (some (.inl f), t1, n, 0)) rfl (fun _ => rfl) ?_
    exact ⟨_, rfl, f, t1, rfl, by omega, s1.1, px_E_W hE hW, k2, (fun c i h => hW c i (by first | decide | omega)), fun _ => hW⟩
theorem pk_pack (d n : Nat) {t0 : en_H} (g0 : ai_HG ah_G t0) (hE : ai_E t0) : ∃ r, en_u (d + 35) 33 [gx_r 383] t0 n = some r ∧ ∃ v t', r = (some (.inl v), t', n, 0) ∧ v < 4294967296 ∧ ai_HG ah_G t' ∧ ai_E t' ∧ ai_hv t' 383 2 = some (.inl 0) ∧ (∀ c i, c < 383 ∨ c = 388 → ai_hv t' c i = ai_hv t0 c i) ∧ (v ≠ 0 → px_W t0 t') := by
  obtain ⟨a, ka, -, ha⟩ := gx_in (c := 383) (i := 7) (lo := 0) (hi := 1000) g0 rfl rfl rfl rfl
  obtain ⟨f, kf, -, hf⟩ := gx_in (c := 383) (i := 8) (lo := 0) (hi := 20000) g0 rfl rfl rfl rfl
  have s0 : px_S t0 a f := ⟨g0, ka, kf, ha, hf⟩
  refine en_u_ex (d := d + 34) rfl ?_
  show en_ex _ _ _ _ (0, [(0, gx_r 383)], [], t0, n, 0) _
  refine ex_go (S := (1, [(0, gx_r 383)], [gx_r 383], t0, n, 0)) rfl (fun _ => rfl) rfl ?_
  refine ex_go (S := (2, [(0, gx_r 383)], [.inl 0, gx_r 383], t0, n, 0)) rfl (fun _ => rfl) rfl ?_
  refine gx_put rfl s0.1 rfl rfl (ai_in_h (by first | decide | omega) (by first | decide | omega) (by first | decide | omega)) rfl (fun t101 g101 k101 e101 => ?_)
  have s101 : px_S t101 a f := ⟨g101, (e101 383 7 (by first | decide | omega)).trans s0.2.1, (e101 383 8 (by first | decide | omega)).trans s0.2.2.1, s0.2.2.2⟩
  refine ex_go (S := (6, [(0, gx_r 383)], [gx_r 383], t101, n, 0)) rfl (fun _ => rfl) rfl ?_
  obtain ⟨_, r102, t102, rfl, s102, k102, e102⟩ := pk_cutAll (d + 31) n s101.1
  refine gx_call0 rfl rfl s101.1 rfl rfl r102 rfl ?_
  refine ex_go (S := (10, [(0, gx_r 383)], [gx_r 383], t102, n, 0)) rfl (fun _ => rfl) rfl ?_
  refine ex_go (S := (11, [(0, gx_r 383)], [.inl 0, gx_r 383], t102, n, 0)) rfl (fun _ => rfl) rfl ?_
  refine gx_put rfl s102.1 rfl rfl (ai_in_h (by first | decide | omega) (by first | decide | omega) (by first | decide | omega)) rfl (fun t103 g103 k103 e103 => ?_)
  have k4 : ai_hv t103 383 2 = some (.inl 0) := (e103 383 2 (by first | decide | omega)).trans k102
  have s103 : px_S t103 0 0 := ⟨g103, (e103 383 7 (by first | decide | omega)).trans s102.2.1, (e103 383 8 (by first | decide | omega)).trans s102.2.2.1, s102.2.2.2⟩
  refine ex_go (S := (15, [(0, gx_r 383)], [gx_r 383], t103, n, 0)) rfl (fun _ => rfl) rfl ?_
  refine ex_go (S := (16, [(0, gx_r 383)], [.inl 0, gx_r 383], t103, n, 0)) rfl (fun _ => rfl) rfl ?_
  refine gx_put rfl s103.1 rfl rfl (ai_in_h (by first | decide | omega) (by first | decide | omega) (by first | decide | omega)) rfl (fun t105 g105 k105 e105 => ?_)
  have k6 : ai_hv t105 383 2 = some (.inl 0) := (e105 383 2 (by first | decide | omega)).trans k4
  have k7 : ai_hv t105 383 13 = some (.inl 0) := (e105 383 13 (by first | decide | omega)).trans k103
  have s105 : px_S t105 0 0 := ⟨g105, (e105 383 7 (by first | decide | omega)).trans s103.2.1, (e105 383 8 (by first | decide | omega)).trans s103.2.2.1, s103.2.2.2⟩
  refine ex_go (S := (20, [(0, gx_r 383)], [gx_r 383], t105, n, 0)) rfl (fun _ => rfl) rfl ?_
  refine ex_go (S := (21, [(0, gx_r 383)], [.inl 0, gx_r 383], t105, n, 0)) rfl (fun _ => rfl) rfl ?_
  refine gx_put rfl s105.1 rfl rfl (ai_in_h (by first | decide | omega) (by first | decide | omega) (by first | decide | omega)) rfl (fun t108 g108 k108 e108 => ?_)
  have k9 : ai_hv t108 383 2 = some (.inl 0) := (e108 383 2 (by first | decide | omega)).trans k6
  have k10 : ai_hv t108 383 13 = some (.inl 0) := (e108 383 13 (by first | decide | omega)).trans k7
  have k11 : ai_hv t108 383 19 = some (.inl 0) := (e108 383 19 (by first | decide | omega)).trans k105
  have s108 : px_S t108 0 0 := ⟨g108, (e108 383 7 (by first | decide | omega)).trans s105.2.1, (e108 383 8 (by first | decide | omega)).trans s105.2.2.1, s105.2.2.2⟩
  refine ex_go (S := (25, [(0, gx_r 383)], [gx_r 383], t108, n, 0)) rfl (fun _ => rfl) rfl ?_
  refine ex_go (S := (28, [(0, gx_r 383)], [.inl 160, gx_r 383], t108, n, 0)) rfl (fun _ => rfl) rfl ?_
  obtain ⟨_, r112, t112, rfl, g112, e112, z112, k112, zl112⟩ := pk_stands (d + 33) n s108.1
  refine gx_call0 rfl rfl s108.1 rfl rfl r112 rfl ?_
  have k13 : ai_hv t112 383 2 = some (.inl 0) := (e112 383 2 (by first | decide | omega)).trans k9
  have k14 : ai_hv t112 383 13 = some (.inl 0) := (e112 383 13 (by first | decide | omega)).trans k10
  have k15 : ai_hv t112 383 19 = some (.inl 0) := (e112 383 19 (by first | decide | omega)).trans k11
  have k16 : ai_hv t112 383 20 = some (.inl 0) := (e112 383 20 (by first | decide | omega)).trans k108
  have s112 : px_S t112 0 0 := ⟨g112, (e112 383 7 (by first | decide | omega)).trans s108.2.1, (e112 383 8 (by first | decide | omega)).trans s108.2.2.1, s108.2.2.2⟩
  have hE1 : px_E1 t112 := fun k hk => Or.inl ⟨0, z112 163 (by first | decide | omega) (by first | decide | omega) (by first | decide | omega), Nat.le_refl _, Nat.zero_le _⟩
  have hE4 : px_E4 t112 0 := fun l hl => Or.inl (zl112 l hl)
  refine ex_go (S := (32, [(0, gx_r 383)], [gx_r 383], t112, n, 0)) rfl (fun _ => rfl) rfl ?_
  refine ex_go (S := (33, [(0, gx_r 383)], [.inl 0, gx_r 383], t112, n, 0)) rfl (fun _ => rfl) rfl ?_
  obtain ⟨_, r117, t117, a117, f117, rfl, s117, e117, q117⟩ := pk_takeWord (d + 31) n (s112) (w := 0) (by first | decide | omega)
  have b117 := s117.2.2.2
  refine gx_call0 rfl rfl s112.1 rfl rfl r117 rfl ?_
  have k18 : ai_hv t117 383 2 = some (.inl 0) := (e117 383 2 (by first | decide | omega)).trans k13
  have k19 : ai_hv t117 383 13 = some (.inl 0) := (e117 383 13 (by first | decide | omega)).trans k14
  have k20 : ai_hv t117 383 19 = some (.inl 0) := (e117 383 19 (by first | decide | omega)).trans k15
  have k21 : ai_hv t117 383 20 = some (.inl 0) := (e117 383 20 (by first | decide | omega)).trans k16
  have k22 : ai_hv t117 389 162 = some (.inl 0) := (e117 389 162 (by first | decide | omega)).trans (z112 162 (by first | decide | omega) (by first | decide | omega) (by first | decide | omega))
  have k23 : ai_hv t117 389 163 = some (.inl 0) := (e117 389 163 (by first | decide | omega)).trans (z112 163 (by first | decide | omega) (by first | decide | omega) (by first | decide | omega))
  have k24 : ai_hv t117 389 166 = some (.inl 0) := (e117 389 166 (by first | decide | omega)).trans (z112 166 (by first | decide | omega) (by first | decide | omega) (by first | decide | omega))
  have k25 : ai_hv t117 389 167 = some (.inl 0) := (e117 389 167 (by first | decide | omega)).trans (z112 167 (by first | decide | omega) (by first | decide | omega) (by first | decide | omega))
  have k26 : ai_hv t117 389 168 = some (.inl 0) := (e117 389 168 (by first | decide | omega)).trans (z112 168 (by first | decide | omega) (by first | decide | omega) (by first | decide | omega))
  have k27 : ai_hv t117 389 165 = some (.inl 2) := (e117 389 165 (by first | decide | omega)).trans k112
  refine ex_go (S := (37, [(0, gx_r 383)], [gx_r 383], t117, n, 0)) rfl (fun _ => rfl) rfl ?_
  refine gx_ref (c := 389) rfl s117.1 rfl rfl rfl rfl ?_
  refine ex_go (S := (43, [(0, gx_r 383)], [.inl 160, gx_r 389], t117, n, 0)) rfl (fun _ => rfl) rfl ?_
  refine ex_go (S := (44, [(0, gx_r 383)], [gx_r 383, .inl 160, gx_r 389], t117, n, 0)) rfl (fun _ => rfl) rfl ?_
  refine ex_go (S := (45, [(0, gx_r 383)], [.inl 2, gx_r 383, .inl 160, gx_r 389], t117, n, 0)) rfl (fun _ => rfl) rfl ?_
  refine ex_go (S := (47, [(0, gx_r 383)], [.inl 8, .inl 2, gx_r 383, .inl 160, gx_r 389], t117, n, 0)) rfl (fun _ => rfl) rfl ?_
  obtain ⟨_, r128, v128, t128, a128, f128, rfl, s128, e128, q128⟩ := pk_takeNumber (d + 32) n (s117) (lo := 2) (hi := 8) (by first | decide | omega) (by first | decide | omega)
  have b128 := s128.2.2.2
  refine gx_call1 rfl rfl s117.1 rfl rfl r128 rfl ?_
  have k29 : ai_hv t128 383 2 = some (.inl 0) := (e128 383 2 (by first | decide | omega)).trans k18
  have k30 : ai_hv t128 383 13 = some (.inl 0) := (e128 383 13 (by first | decide | omega)).trans k19
  have k31 : ai_hv t128 383 19 = some (.inl 0) := (e128 383 19 (by first | decide | omega)).trans k20
  have k32 : ai_hv t128 383 20 = some (.inl 0) := (e128 383 20 (by first | decide | omega)).trans k21
  have k33 : ai_hv t128 389 162 = some (.inl 0) := (e128 389 162 (by first | decide | omega)).trans k22
  have k34 : ai_hv t128 389 163 = some (.inl 0) := (e128 389 163 (by first | decide | omega)).trans k23
  have k35 : ai_hv t128 389 166 = some (.inl 0) := (e128 389 166 (by first | decide | omega)).trans k24
  have k36 : ai_hv t128 389 167 = some (.inl 0) := (e128 389 167 (by first | decide | omega)).trans k25
  have k37 : ai_hv t128 389 168 = some (.inl 0) := (e128 389 168 (by first | decide | omega)).trans k26
  have k38 : ai_hv t128 389 165 = some (.inl 2) := (e128 389 165 (by first | decide | omega)).trans k27
  refine gx_ap rfl (fun _ => rfl) s128.1 rfl rfl rfl (show 160 < 320 from by omega) rfl (ai_in_h (by first | decide | omega) (by first | decide | omega) (by first | decide | omega)) rfl (fun t139 g139 k139 e139 => ?_)
  have k40 : ai_hv t139 383 2 = some (.inl 0) := (e139 383 2 (by first | decide | omega)).trans k29
  have k41 : ai_hv t139 383 13 = some (.inl 0) := (e139 383 13 (by first | decide | omega)).trans k30
  have k42 : ai_hv t139 383 19 = some (.inl 0) := (e139 383 19 (by first | decide | omega)).trans k31
  have k43 : ai_hv t139 383 20 = some (.inl 0) := (e139 383 20 (by first | decide | omega)).trans k32
  have k44 : ai_hv t139 389 162 = some (.inl 0) := (e139 389 162 (by first | decide | omega)).trans k33
  have k45 : ai_hv t139 389 163 = some (.inl 0) := (e139 389 163 (by first | decide | omega)).trans k34
  have k46 : ai_hv t139 389 166 = some (.inl 0) := (e139 389 166 (by first | decide | omega)).trans k35
  have k47 : ai_hv t139 389 167 = some (.inl 0) := (e139 389 167 (by first | decide | omega)).trans k36
  have k48 : ai_hv t139 389 168 = some (.inl 0) := (e139 389 168 (by first | decide | omega)).trans k37
  have k49 : ai_hv t139 389 165 = some (.inl 2) := (e139 389 165 (by first | decide | omega)).trans k38
  have s139 : px_S t139 a128 f128 := ⟨g139, (e139 383 7 (by first | decide | omega)).trans s128.2.1, (e139 383 8 (by first | decide | omega)).trans s128.2.2.1, s128.2.2.2⟩
  refine ex_go (S := (52, [(0, gx_r 383)], [gx_r 383], t139, n, 0)) rfl (fun _ => rfl) rfl ?_
  refine gx_ref (c := 389) rfl s139.1 rfl rfl rfl rfl ?_
  refine ex_go (S := (58, [(0, gx_r 383)], [.inl 161, gx_r 389], t139, n, 0)) rfl (fun _ => rfl) rfl ?_
  refine ex_go (S := (59, [(0, gx_r 383)], [gx_r 383, .inl 161, gx_r 389], t139, n, 0)) rfl (fun _ => rfl) rfl ?_
  refine ex_go (S := (60, [(0, gx_r 383)], [.inl 2, gx_r 383, .inl 161, gx_r 389], t139, n, 0)) rfl (fun _ => rfl) rfl ?_
  refine ex_go (S := (62, [(0, gx_r 383)], [.inl 8, .inl 2, gx_r 383, .inl 161, gx_r 389], t139, n, 0)) rfl (fun _ => rfl) rfl ?_
  obtain ⟨_, r150, v150, t150, a150, f150, rfl, s150, e150, q150⟩ := pk_takeNumber (d + 32) n (s139) (lo := 2) (hi := 8) (by first | decide | omega) (by first | decide | omega)
  have b150 := s150.2.2.2
  refine gx_call1 rfl rfl s139.1 rfl rfl r150 rfl ?_
  have k51 : ai_hv t150 383 2 = some (.inl 0) := (e150 383 2 (by first | decide | omega)).trans k40
  have k52 : ai_hv t150 383 13 = some (.inl 0) := (e150 383 13 (by first | decide | omega)).trans k41
  have k53 : ai_hv t150 383 19 = some (.inl 0) := (e150 383 19 (by first | decide | omega)).trans k42
  have k54 : ai_hv t150 383 20 = some (.inl 0) := (e150 383 20 (by first | decide | omega)).trans k43
  have k55 : ai_hv t150 389 162 = some (.inl 0) := (e150 389 162 (by first | decide | omega)).trans k44
  have k56 : ai_hv t150 389 163 = some (.inl 0) := (e150 389 163 (by first | decide | omega)).trans k45
  have k57 : ai_hv t150 389 166 = some (.inl 0) := (e150 389 166 (by first | decide | omega)).trans k46
  have k58 : ai_hv t150 389 167 = some (.inl 0) := (e150 389 167 (by first | decide | omega)).trans k47
  have k59 : ai_hv t150 389 168 = some (.inl 0) := (e150 389 168 (by first | decide | omega)).trans k48
  have k60 : ai_hv t150 389 165 = some (.inl 2) := (e150 389 165 (by first | decide | omega)).trans k49
  have k61 : ai_hv t150 389 160 = some (.inl v128) := (e150 389 160 (by first | decide | omega)).trans k139
  refine gx_ap rfl (fun _ => rfl) s150.1 rfl rfl rfl (show 161 < 320 from by omega) rfl (ai_in_h (by first | decide | omega) (by first | decide | omega) (by first | decide | omega)) rfl (fun t162 g162 k162 e162 => ?_)
  have k63 : ai_hv t162 383 2 = some (.inl 0) := (e162 383 2 (by first | decide | omega)).trans k51
  have k64 : ai_hv t162 383 13 = some (.inl 0) := (e162 383 13 (by first | decide | omega)).trans k52
  have k65 : ai_hv t162 383 19 = some (.inl 0) := (e162 383 19 (by first | decide | omega)).trans k53
  have k66 : ai_hv t162 383 20 = some (.inl 0) := (e162 383 20 (by first | decide | omega)).trans k54
  have k67 : ai_hv t162 389 162 = some (.inl 0) := (e162 389 162 (by first | decide | omega)).trans k55
  have k68 : ai_hv t162 389 163 = some (.inl 0) := (e162 389 163 (by first | decide | omega)).trans k56
  have k69 : ai_hv t162 389 166 = some (.inl 0) := (e162 389 166 (by first | decide | omega)).trans k57
  have k70 : ai_hv t162 389 167 = some (.inl 0) := (e162 389 167 (by first | decide | omega)).trans k58
  have k71 : ai_hv t162 389 168 = some (.inl 0) := (e162 389 168 (by first | decide | omega)).trans k59
  have k72 : ai_hv t162 389 165 = some (.inl 2) := (e162 389 165 (by first | decide | omega)).trans k60
  have k73 : ai_hv t162 389 160 = some (.inl v128) := (e162 389 160 (by first | decide | omega)).trans k61
  have s162 : px_S t162 a150 f150 := ⟨g162, (e162 383 7 (by first | decide | omega)).trans s150.2.1, (e162 383 8 (by first | decide | omega)).trans s150.2.2.1, s150.2.2.2⟩
  refine ex_go (S := (67, [(0, gx_r 383)], [gx_r 383], t162, n, 0)) rfl (fun _ => rfl) rfl ?_
  refine ex_go (S := (69, [(0, gx_r 383)], [.inl 59, gx_r 383], t162, n, 0)) rfl (fun _ => rfl) rfl ?_
  obtain ⟨_, r174, t174, a174, f174, rfl, s174, e174, q174⟩ := pk_takeSign (d + 32) n (s162) (w := 59)
  have b174 := s174.2.2.2
  refine gx_call0 rfl rfl s162.1 rfl rfl r174 rfl ?_
  have k75 : ai_hv t174 383 2 = some (.inl 0) := (e174 383 2 (by first | decide | omega)).trans k63
  have k76 : ai_hv t174 383 13 = some (.inl 0) := (e174 383 13 (by first | decide | omega)).trans k64
  have k77 : ai_hv t174 383 19 = some (.inl 0) := (e174 383 19 (by first | decide | omega)).trans k65
  have k78 : ai_hv t174 383 20 = some (.inl 0) := (e174 383 20 (by first | decide | omega)).trans k66
  have k79 : ai_hv t174 389 162 = some (.inl 0) := (e174 389 162 (by first | decide | omega)).trans k67
  have k80 : ai_hv t174 389 163 = some (.inl 0) := (e174 389 163 (by first | decide | omega)).trans k68
  have k81 : ai_hv t174 389 166 = some (.inl 0) := (e174 389 166 (by first | decide | omega)).trans k69
  have k82 : ai_hv t174 389 167 = some (.inl 0) := (e174 389 167 (by first | decide | omega)).trans k70
  have k83 : ai_hv t174 389 168 = some (.inl 0) := (e174 389 168 (by first | decide | omega)).trans k71
  have k84 : ai_hv t174 389 165 = some (.inl 2) := (e174 389 165 (by first | decide | omega)).trans k72
  have k85 : ai_hv t174 389 160 = some (.inl v128) := (e174 389 160 (by first | decide | omega)).trans k73
  have k86 : ai_hv t174 389 161 = some (.inl v150) := (e174 389 161 (by first | decide | omega)).trans k162
  refine pa_l d n (tb := t0) (fun t1 a1 f1 s1 hO k1 hW => pa_104 d n hE hW s1 hO k1) 1000 t174 a174 f174 (by first | decide | omega) s174 (fun h0 => ?_) k75 (fun c i h => (e174 c i (by first | decide | omega)).trans ((e162 c i (by first | decide | omega)).trans ((e150 c i (by first | decide | omega)).trans ((e139 c i (by first | decide | omega)).trans ((e128 c i (by first | decide | omega)).trans ((e117 c i (by first | decide | omega)).trans ((e112 c i (by first | decide | omega)).trans ((e108 c i (by first | decide | omega)).trans ((e105 c i (by first | decide | omega)).trans ((e103 c i (by first | decide | omega)).trans ((e102 c i (by first | decide | omega)).trans (e101 c i (by first | decide | omega)))))))))))))
  refine ⟨0, ⟨0, 0, 0, 0, 0, v128, v150, 2, k77, k79, k81, k82, k83, k85, k86, k84, k76, by omega, ?_, ?_⟩, by omega⟩
  · exact px_E1_kept hE1 ((e174 389 163 (by first | decide | omega)).trans ((e162 389 163 (by first | decide | omega)).trans ((e150 389 163 (by first | decide | omega)).trans ((e139 389 163 (by first | decide | omega)).trans ((e128 389 163 (by first | decide | omega)).trans (e117 389 163 (by first | decide | omega))))))) (fun k hk => (e174 389 (255 + 4 * k) (by first | decide | omega)).trans ((e162 389 (255 + 4 * k) (by first | decide | omega)).trans ((e150 389 (255 + 4 * k) (by first | decide | omega)).trans ((e139 389 (255 + 4 * k) (by first | decide | omega)).trans ((e128 389 (255 + 4 * k) (by first | decide | omega)).trans (e117 389 (255 + 4 * k) (by first | decide | omega)))))))
  · exact px_E4_kept hE4 (Nat.le_refl _) (fun l hl => (e174 389 (169 + l) (by first | decide | omega)).trans ((e162 389 (169 + l) (by first | decide | omega)).trans ((e150 389 (169 + l) (by first | decide | omega)).trans ((e139 389 (169 + l) (by first | decide | omega)).trans ((e128 389 (169 + l) (by first | decide | omega)).trans (e117 389 (169 + l) (by first | decide | omega))))))) (fun i hi => (e174 390 (1100 + i) (by first | decide | omega)).trans ((e162 390 (1100 + i) (by first | decide | omega)).trans ((e150 390 (1100 + i) (by first | decide | omega)).trans ((e139 390 (1100 + i) (by first | decide | omega)).trans ((e128 390 (1100 + i) (by first | decide | omega)).trans (e117 390 (1100 + i) (by first | decide | omega))))))) (fun i hi => (e174 391 (1100 + i) (by first | decide | omega)).trans ((e162 391 (1100 + i) (by first | decide | omega)).trans ((e150 391 (1100 + i) (by first | decide | omega)).trans ((e139 391 (1100 + i) (by first | decide | omega)).trans ((e128 391 (1100 + i) (by first | decide | omega)).trans (e117 391 (1100 + i) (by first | decide | omega)))))))
end PK9
