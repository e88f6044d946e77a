section SZI
theorem pz_pclear (d n : Nat) {t0 : en_H} (g0 : ai_HG ah_G t0) : ∃ r, en_u (d + 1) 24 [gx_r 22] t0 n = some r ∧ ∃ t', r = (none, t', n, 0) ∧ ai_HG ah_G t' ∧ (∀ c i, ¬ (c = 22 ∧ (i = 1 ∨ i = 2)) → ai_hv t' c i = ai_hv t0 c i) ∧ ai_hv t' 22 1 = some (.inl 0) ∧ ai_hv t' 22 2 = some (.inl 0) := by
  refine en_u_ex rfl ?_
  show en_ex _ _ _ _ (0, [(0, gx_r 22)], [], t0, n, 0) _
  refine ex_go (S := (1, [(0, gx_r 22)], [gx_r 22], t0, n, 0)) rfl (fun _ => rfl) rfl ?_
  refine ex_go (S := (2, [(0, gx_r 22)], [.inl 0, gx_r 22], t0, n, 0)) rfl (fun _ => rfl) rfl ?_
  refine gxo_put (a := 22) rfl g0 rfl rfl rfl (ai_in_h (by first | decide | omega) (by first | decide | omega) (by first | decide | omega)) rfl (fun t101 g101 k101 e101 => ?_)
  refine ex_go (S := (6, [(0, gx_r 22)], [gx_r 22], t101, n, 0)) rfl (fun _ => rfl) rfl ?_
  refine ex_go (S := (7, [(0, gx_r 22)], [.inl 0, gx_r 22], t101, n, 0)) rfl (fun _ => rfl) rfl ?_
  refine gxo_put (a := 22) rfl g101 rfl rfl rfl (ai_in_h (by first | decide | omega) (by first | decide | omega) (by first | decide | omega)) rfl (fun t102 g102 k102 e102 => ?_)
  have k3 : ai_hv t102 22 2 = some (.inl 0) := (e102 22 2 (by first | decide | omega)).trans k101
  refine ex_ret (r := (none, t102, n, 0)) rfl (fun _ => rfl) ?_
  exact ⟨_, rfl, t102, rfl, g102, (fun c i h => (e102 c i (by first | decide | omega)).trans (e101 c i (by first | decide | omega))), k102, k3⟩
theorem pz_rclear323 (d n : Nat) {t0 : en_H} (g0 : ai_HG ah_G t0) : ∃ r, en_u (d + 1) 11 [gx_r 323] t0 n = some r ∧ ∃ t', r = (none, t', n, 0) ∧ ai_HG ah_G t' ∧ (∀ c i, ¬ (c = 323 ∧ i = 5) → ai_hv t' c i = ai_hv t0 c i) ∧ ai_hv t' 323 5 = some (.inl 0) := by
  refine en_u_ex rfl ?_
  show en_ex _ _ _ _ (0, [(0, gx_r 323)], [], t0, n, 0) _
  refine ex_go (S := (1, [(0, gx_r 323)], [gx_r 323], t0, n, 0)) rfl (fun _ => rfl) rfl ?_
  refine ex_go (S := (2, [(0, gx_r 323)], [.inl 0, gx_r 323], t0, n, 0)) rfl (fun _ => rfl) rfl ?_
  refine gxo_put (a := 323) rfl g0 rfl rfl rfl (ai_in_h (by first | decide | omega) (by first | decide | omega) (by first | decide | omega)) rfl (fun t101 g101 k101 e101 => ?_)
  refine ex_ret (r := (none, t101, n, 0)) rfl (fun _ => rfl) ?_
  exact ⟨_, rfl, t101, rfl, g101, (fun c i h => e101 c i (by first | decide | omega)), k101⟩
theorem pz_rclear329 (d n : Nat) {t0 : en_H} (g0 : ai_HG ah_G t0) : ∃ r, en_u (d + 1) 11 [gx_r 329] t0 n = some r ∧ ∃ t', r = (none, t', n, 0) ∧ ai_HG ah_G t' ∧ (∀ c i, ¬ (c = 329 ∧ i = 5) → ai_hv t' c i = ai_hv t0 c i) ∧ ai_hv t' 329 5 = some (.inl 0) := by
  refine en_u_ex rfl ?_
  show en_ex _ _ _ _ (0, [(0, gx_r 329)], [], t0, n, 0) _
  refine ex_go (S := (1, [(0, gx_r 329)], [gx_r 329], t0, n, 0)) rfl (fun _ => rfl) rfl ?_
  refine ex_go (S := (2, [(0, gx_r 329)], [.inl 0, gx_r 329], t0, n, 0)) rfl (fun _ => rfl) rfl ?_
  refine gxo_put (a := 329) rfl g0 rfl rfl rfl (ai_in_h (by first | decide | omega) (by first | decide | omega) (by first | decide | omega)) rfl (fun t101 g101 k101 e101 => ?_)
  refine ex_ret (r := (none, t101, n, 0)) rfl (fun _ => rfl) ?_
  exact ⟨_, rfl, t101, rfl, g101, (fun c i h => e101 c i (by first | decide | omega)), k101⟩
theorem pz_holds206 (d n : Nat) {t0 : en_H} {x K : Nat} (g0 : ai_HG ah_G t0) (hx : x < 4294967296) (kK : ai_hv t0 206 5 = some (.inl K)) (hK : K ≤ 1000) : ∃ r, en_u (d + 1) 23 [gx_r 206, .inl x] t0 n = some r ∧ ∃ b, r = (some (.inl b), t0, n, 0) ∧ b ≤ 1 ∧ (b = 1 ↔ x < K) := by
  refine en_u_ex rfl ?_
  show en_ex _ _ _ _ (0, [(0, gx_r 206), (1, .inl x)], [], t0, n, 0) _
  by_cases hn : 2147483648 ≤ x
  · refine ex_go (S := (1, [(0, gx_r 206), (1, .inl x)], [.inl x], t0, n, 0)) rfl (fun _ => rfl) rfl ?_
    refine gx_negt (c := .lt) rfl (by first | decide | omega) (by first | decide | omega) rfl rfl ?_
    refine ex_go (S := (17, [(0, gx_r 206), (1, .inl x)], [.inl 0], t0, n, 0)) rfl (fun _ => rfl) rfl ?_
    refine ex_ret (r := (some (.inl 0), t0, n, 0)) rfl (fun _ => rfl) ?_
    exact ⟨_, rfl, 0, rfl, by omega, by omega⟩
  · refine ex_go (S := (1, [(0, gx_r 206), (1, .inl x)], [.inl x], t0, n, 0)) rfl (fun _ => rfl) rfl ?_
    by_cases hc1 : x < 0
    · refine gx_1t (c := .lt) rfl (by first | decide | omega) hc1 rfl ?_
      refine ex_go (S := (17, [(0, gx_r 206), (1, .inl x)], [.inl 0], t0, n, 0)) rfl (fun _ => rfl) rfl ?_
      refine ex_ret (r := (some (.inl 0), t0, n, 0)) rfl (fun _ => rfl) ?_
      exact ⟨_, rfl, 0, rfl, by omega, by omega⟩
    · refine gx_1f (c := .lt) rfl (by first | decide | omega) hc1 rfl ?_
      refine ex_go (S := (5, [(0, gx_r 206), (1, .inl x)], [.inl x], t0, n, 0)) rfl (fun _ => rfl) rfl ?_
      refine ex_go (S := (6, [(0, gx_r 206), (1, .inl x)], [gx_r 206, .inl x], t0, n, 0)) rfl (fun _ => rfl) rfl ?_
      refine gxo_get (a := 206) rfl g0 rfl rfl kK rfl ?_
      by_cases hc2 : K ≤ x
      · refine gx_2t (c := .ge) rfl (by first | decide | omega) (by first | decide | omega) hc2 rfl ?_
        refine ex_go (S := (17, [(0, gx_r 206), (1, .inl x)], [.inl 0], t0, n, 0)) rfl (fun _ => rfl) rfl ?_
        refine ex_ret (r := (some (.inl 0), t0, n, 0)) rfl (fun _ => rfl) ?_
        exact ⟨_, rfl, 0, rfl, by omega, by omega⟩
      · refine gx_2f (c := .ge) rfl (by first | decide | omega) (by first | decide | omega) hc2 rfl ?_
        refine ex_go (S := (13, [(0, gx_r 206), (1, .inl x)], [.inl 1], t0, n, 0)) rfl (fun _ => rfl) rfl ?_
        refine ex_go (S := (17, [(0, gx_r 206), (1, .inl x)], [.inl 1], t0, n, 0)) rfl (fun _ => rfl) rfl ?_
        refine ex_ret (r := (some (.inl 1), t0, n, 0)) rfl (fun _ => rfl) ?_
        exact ⟨_, rfl, 1, rfl, by omega, by omega⟩
theorem pz_holds272 (d n : Nat) {t0 : en_H} {x K : Nat} (g0 : ai_HG ah_G t0) (hx : x < 4294967296) (kK : ai_hv t0 272 5 = some (.inl K)) (hK : K ≤ 1000) : ∃ r, en_u (d + 1) 23 [gx_r 272, .inl x] t0 n = some r ∧ ∃ b, r = (some (.inl b), t0, n, 0) ∧ b ≤ 1 ∧ (b = 1 ↔ x < K) := by
  refine en_u_ex rfl ?_
  show en_ex _ _ _ _ (0, [(0, gx_r 272), (1, .inl x)], [], t0, n, 0) _
  by_cases hn : 2147483648 ≤ x
  · refine ex_go (S := (1, [(0, gx_r 272), (1, .inl x)], [.inl x], t0, n, 0)) rfl (fun _ => rfl) rfl ?_
    refine gx_negt (c := .lt) rfl (by first | decide | omega) (by first | decide | omega) rfl rfl ?_
    refine ex_go (S := (17, [(0, gx_r 272), (1, .inl x)], [.inl 0], t0, n, 0)) rfl (fun _ => rfl) rfl ?_
    refine ex_ret (r := (some (.inl 0), t0, n, 0)) rfl (fun _ => rfl) ?_
    exact ⟨_, rfl, 0, rfl, by omega, by omega⟩
  · refine ex_go (S := (1, [(0, gx_r 272), (1, .inl x)], [.inl x], t0, n, 0)) rfl (fun _ => rfl) rfl ?_
    by_cases hc1 : x < 0
    · refine gx_1t (c := .lt) rfl (by first | decide | omega) hc1 rfl ?_
      refine ex_go (S := (17, [(0, gx_r 272), (1, .inl x)], [.inl 0], t0, n, 0)) rfl (fun _ => rfl) rfl ?_
      refine ex_ret (r := (some (.inl 0), t0, n, 0)) rfl (fun _ => rfl) ?_
      exact ⟨_, rfl, 0, rfl, by omega, by omega⟩
    · refine gx_1f (c := .lt) rfl (by first | decide | omega) hc1 rfl ?_
      refine ex_go (S := (5, [(0, gx_r 272), (1, .inl x)], [.inl x], t0, n, 0)) rfl (fun _ => rfl) rfl ?_
      refine ex_go (S := (6, [(0, gx_r 272), (1, .inl x)], [gx_r 272, .inl x], t0, n, 0)) rfl (fun _ => rfl) rfl ?_
      refine gxo_get (a := 272) rfl g0 rfl rfl kK rfl ?_
      by_cases hc2 : K ≤ x
      · refine gx_2t (c := .ge) rfl (by first | decide | omega) (by first | decide | omega) hc2 rfl ?_
        refine ex_go (S := (17, [(0, gx_r 272), (1, .inl x)], [.inl 0], t0, n, 0)) rfl (fun _ => rfl) rfl ?_
        refine ex_ret (r := (some (.inl 0), t0, n, 0)) rfl (fun _ => rfl) ?_
        exact ⟨_, rfl, 0, rfl, by omega, by omega⟩
      · refine gx_2f (c := .ge) rfl (by first | decide | omega) (by first | decide | omega) hc2 rfl ?_
        refine ex_go (S := (13, [(0, gx_r 272), (1, .inl x)], [.inl 1], t0, n, 0)) rfl (fun _ => rfl) rfl ?_
        refine ex_go (S := (17, [(0, gx_r 272), (1, .inl x)], [.inl 1], t0, n, 0)) rfl (fun _ => rfl) rfl ?_
        refine ex_ret (r := (some (.inl 1), t0, n, 0)) rfl (fun _ => rfl) ?_
        exact ⟨_, rfl, 1, rfl, by omega, by omega⟩
theorem cb_l8_191 (d n : Nat) {tb : en_H} {Q : en_O → Prop} {T : Nat} {P : Nat → Nat} (hT : T ≤ 6) (kT : ai_hv tb 194 5 = some (.inl T)) (kP : ∀ i, i < T → ai_hv tb 197 i = some (.inl (P i))) (hP : ∀ i, i < T → P i ≤ 63) (hQ : ∀ t1, ai_HG ah_G t1 → (∀ i, i < T → ai_hv t1 9 i = some (.inl (P i))) ∧ (∀ c i, ¬ c = 9 → ai_hv t1 c i = ai_hv tb c i) → en_ex none (en_u (d + 1)) (en_code 22) (fun _ => false) (39, [(2, .inl T), (0, gx_r 8), (1, gx_r 191)], [], t1, n, 0) Q) : ∀ j k t0, k + j = T → ai_HG ah_G t0 → (∀ i, i < k → ai_hv t0 9 i = some (.inl (P i))) ∧ (∀ c i, ¬ c = 9 → ai_hv t0 c i = ai_hv tb c i) → en_ex none (en_u (d + 1)) (en_code 22) (fun _ => false) (7, [(2, .inl k), (0, gx_r 8), (1, gx_r 191)], [], t0, n, 0) Q := by
  intro j
  induction j with
  | zero =>
    intro k t0 hk g0 i0
    have hk : k = T := by omega
    subst hk
    have kc := (i0.2 194 5 (by first | decide | omega)).trans kT
    refine ex_go (S := (8, [(2, .inl k), (0, gx_r 8), (1, gx_r 191)], [.inl k], t0, n, 0)) rfl (fun _ => rfl) rfl ?_
    refine ex_go (S := (9, [(2, .inl k), (0, gx_r 8), (1, gx_r 191)], [gx_r 191, .inl k], t0, n, 0)) rfl (fun _ => rfl) rfl ?_
    refine gxo_ref (a := 191) (c := 194) rfl g0 rfl rfl rfl rfl rfl ?_
    refine gxo_get (a := 194) rfl g0 rfl rfl kc rfl ?_
    refine gx_2t (c := .ge) rfl (by first | decide | omega) (by first | decide | omega) (show k ≤ k from by omega) rfl ?_
    exact hQ t0 g0 i0
  | succ j ih =>
    intro k t0 hk g0 i0
    have kc := (i0.2 194 5 (by first | decide | omega)).trans kT
    have kq := (i0.2 197 k (by first | decide | omega)).trans (kP k (by first | decide | omega))
    have hq := hP k (by first | decide | omega)
    refine ex_go (S := (8, [(2, .inl k), (0, gx_r 8), (1, gx_r 191)], [.inl k], t0, n, 0)) rfl (fun _ => rfl) rfl ?_
    refine ex_go (S := (9, [(2, .inl k), (0, gx_r 8), (1, gx_r 191)], [gx_r 191, .inl k], t0, n, 0)) rfl (fun _ => rfl) rfl ?_
    refine gxo_ref (a := 191) (c := 194) rfl g0 rfl rfl rfl rfl rfl ?_
    refine gxo_get (a := 194) rfl g0 rfl rfl kc rfl ?_
    refine gx_2f (c := .ge) rfl (by first | decide | omega) (by first | decide | omega) (show ¬ (T ≤ k) from by omega) rfl ?_
    refine ex_go (S := (19, [(2, .inl k), (0, gx_r 8), (1, gx_r 191)], [gx_r 8], t0, n, 0)) rfl (fun _ => rfl) rfl ?_
    refine gxo_ref (a := 8) (c := 9) rfl g0 rfl rfl rfl rfl rfl ?_
    refine ex_go (S := (23, [(2, .inl k), (0, gx_r 8), (1, gx_r 191)], [.inl k, gx_r 9], t0, n, 0)) rfl (fun _ => rfl) rfl ?_
    refine ex_go (S := (24, [(2, .inl k), (0, gx_r 8), (1, gx_r 191)], [gx_r 191, .inl k, gx_r 9], t0, n, 0)) rfl (fun _ => rfl) rfl ?_
    refine gxo_ref (a := 191) (c := 194) rfl g0 rfl rfl rfl rfl rfl ?_
    refine gxo_ref (a := 194) (c := 197) rfl g0 rfl rfl rfl rfl rfl ?_
    refine ex_go (S := (31, [(2, .inl k), (0, gx_r 8), (1, gx_r 191)], [.inl k, gx_r 197, .inl k, gx_r 9], t0, n, 0)) rfl (fun _ => rfl) rfl ?_
    refine gx_ag (v := .inl (P k)) (cb := fun c => Nat.beq c 0) rfl (fun _ => rfl) g0 rfl rfl kq (by first | decide | omega) rfl ?_
    refine gx_ap rfl (fun _ => rfl) g0 rfl rfl rfl (show k < 6 from by omega) (gx_run1 (show k < 6 from by omega)) (ai_in_h (by first | decide | omega) (by first | decide | omega) (by first | decide | omega)) rfl (fun t101 g101 k101 e101 => ?_)
    have k2 : ai_hv t101 194 5 = some (.inl T) := (e101 194 5 (by first | decide | omega)).trans kc
    have k3 : ai_hv t101 197 k = some (.inl (P k)) := (e101 197 k (by first | decide | omega)).trans kq
    refine gx_iinc (i := 2) (k := 1) rfl (fun _ => rfl) (by first | decide | omega) rfl ?_
    show en_ex _ _ _ _ (36, [(2, .inl (k + 1)), (0, gx_r 8), (1, gx_r 191)], [], t101, n, 0) _
    refine ex_go (S := (7, [(2, .inl (k + 1)), (0, gx_r 8), (1, gx_r 191)], [], t101, n, 0)) rfl (fun _ => rfl) rfl ?_
    refine ih (k + 1) t101 (by first | decide | omega) g101 ⟨fun i hi => ?_, fun c i h => (e101 c i (by first | decide | omega)).trans (i0.2 c i h)⟩
    by_cases e9 : i = k
    · rw [e9]; exact k101
    · exact (e101 9 i (by first | decide | omega)).trans (i0.1 i (by first | decide | omega))
theorem pc_begin8_191 (d n : Nat) {t0 : en_H} (g0 : ai_HG ah_G t0) {T : Nat} {P : Nat → Nat} (hT : T ≤ 6) (kT : ai_hv t0 194 5 = some (.inl T)) (kP : ∀ i, i < T → ai_hv t0 197 i = some (.inl (P i))) (hP : ∀ i, i < T → P i ≤ 63) {K : Nat} {B : Nat → Nat} (hK : K ≤ 2) (kK : ai_hv t0 206 5 = some (.inl K)) (kB : ∀ c, c < K → ai_hv t0 210 c = some (.inl (B c))) (hB : ∀ c, c < K → B c ≤ 9999) : ∃ r, en_u (d + 2) 22 [gx_r 8, gx_r 191] t0 n = some r ∧ ∃ t', r = (none, t', n, 0) ∧ ai_HG ah_G t' ∧ (∀ c i, ¬ (8 ≤ c ∧ c ≤ 14) → ai_hv t' c i = ai_hv t0 c i) ∧ ai_hv t' 8 0 = some (.inl 0) ∧ (∀ i, i < T → ai_hv t' 9 i = some (.inl (P i))) ∧ ∀ c, c < K → ai_hv t' 10 c = some (.inl (B c)) ∧ ai_hv t' 11 c = some (.inl 0) ∧ ai_hv t' 12 c = some (.inl 0) ∧ ai_hv t' 13 c = some (.inl 0) ∧ ai_hv t' 14 c = some (.inl 0) := by
  refine en_u_ex (d := d + 1) rfl ?_
  show en_ex _ _ _ _ (0, [(0, gx_r 8), (1, gx_r 191)], [], t0, n, 0) _
  refine ex_go (S := (1, [(0, gx_r 8), (1, gx_r 191)], [gx_r 8], t0, n, 0)) rfl (fun _ => rfl) rfl ?_
  refine ex_go (S := (2, [(0, gx_r 8), (1, gx_r 191)], [.inl 0, gx_r 8], t0, n, 0)) rfl (fun _ => rfl) rfl ?_
  refine gxo_put (a := 8) rfl g0 rfl rfl rfl (gx_full (by first | decide | omega)) rfl (fun t101 g101 k101 e101 => ?_)
  refine ex_go (S := (6, [(0, gx_r 8), (1, gx_r 191)], [.inl 0], t101, n, 0)) rfl (fun _ => rfl) rfl ?_
  refine ex_go (S := (7, [(2, .inl 0), (0, gx_r 8), (1, gx_r 191)], [], t101, n, 0)) rfl (fun _ => rfl) rfl ?_
  refine cb_l8_191 d n (tb := t101) hT ((e101 194 5 (by first | decide | omega)).trans (kT)) (fun i hi => (e101 197 i (by first | decide | omega)).trans (kP i hi)) hP (fun t102 g102 i102 => ?_) T 0 _ (by first | decide | omega) g101 ⟨fun i hi => absurd hi (Nat.not_lt_zero i), fun _ _ _ => rfl⟩
  have k3 : ai_hv t102 8 0 = some (.inl 0) := (i102.2 8 0 (by first | decide | omega)).trans k101
  refine ex_go (S := (40, [(2, .inl T), (0, gx_r 8), (1, gx_r 191)], [.inl 0], t102, n, 0)) rfl (fun _ => rfl) rfl ?_
  refine ex_go (S := (41, [(2, .inl 0), (0, gx_r 8), (1, gx_r 191)], [], t102, n, 0)) rfl (fun _ => rfl) rfl ?_
  refine ex_go (S := (42, [(2, .inl 0), (0, gx_r 8), (1, gx_r 191)], [.inl 0], t102, n, 0)) rfl (fun _ => rfl) rfl ?_
  refine ex_go (S := (43, [(2, .inl 0), (0, gx_r 8), (1, gx_r 191)], [.inl 2, .inl 0], t102, n, 0)) rfl (fun _ => rfl) rfl ?_
  refine ex_go (S := (46, [(2, .inl 0), (0, gx_r 8), (1, gx_r 191)], [], t102, n, 0)) rfl (fun _ => rfl) rfl ?_
  refine ex_go (S := (47, [(2, .inl 0), (0, gx_r 8), (1, gx_r 191)], [gx_r 8], t102, n, 0)) rfl (fun _ => rfl) rfl ?_
  refine gxo_ref (a := 8) (c := 10) rfl g102 rfl rfl rfl rfl rfl ?_
  refine ex_go (S := (51, [(2, .inl 0), (0, gx_r 8), (1, gx_r 191)], [.inl 0, gx_r 10], t102, n, 0)) rfl (fun _ => rfl) rfl ?_
  refine ex_go (S := (52, [(2, .inl 0), (0, gx_r 8), (1, gx_r 191)], [gx_r 191, .inl 0, gx_r 10], t102, n, 0)) rfl (fun _ => rfl) rfl ?_
  refine gxo_ref (a := 191) (c := 206) rfl g102 rfl rfl rfl rfl rfl ?_
  refine ex_go (S := (56, [(2, .inl 0), (0, gx_r 8), (1, gx_r 191)], [.inl 0, gx_r 206, .inl 0, gx_r 10], t102, n, 0)) rfl (fun _ => rfl) rfl ?_
  obtain ⟨_, r4, b5, rfl, b5b, q6⟩ := pz_holds206 (d) n (x := 0) g102 (by first | decide | omega) ((i102.2 206 5 (by first | decide | omega)).trans ((e101 206 5 (by first | decide | omega)).trans (kK))) (by first | decide | omega)
  refine gx_callo (a := 206) rfl rfl g102 rfl rfl rfl r4 rfl ?_
  show en_ex _ _ _ _ (59, [(2, .inl 0), (0, gx_r 8), (1, gx_r 191)], [.inl b5, .inl 0, gx_r 10], t102, n, 0) _
  by_cases hc7 : b5 = 0
  · refine gx_1t (c := .eq) rfl (by first | decide | omega) hc7 rfl ?_
    refine ex_go (S := (75, [(2, .inl 0), (0, gx_r 8), (1, gx_r 191)], [.inl 0, .inl 0, gx_r 10], t102, n, 0)) rfl (fun _ => rfl) rfl ?_
    refine gx_ap rfl (fun _ => rfl) g102 rfl rfl rfl (show 0 < 2 from by omega) rfl (gx_full (by first | decide | omega)) rfl (fun t108 g108 k108 e108 => ?_)
    have k9 : ai_hv t108 8 0 = some (.inl 0) := (e108 8 0 (by first | decide | omega)).trans k3
    have k10 : ai_hv t108 206 5 = some (.inl K) := (e108 206 5 (by first | decide | omega)).trans ((i102.2 206 5 (by first | decide | omega)).trans ((e101 206 5 (by first | decide | omega)).trans (kK)))
    refine ex_go (S := (77, [(2, .inl 0), (0, gx_r 8), (1, gx_r 191)], [gx_r 8], t108, n, 0)) rfl (fun _ => rfl) rfl ?_
    refine gxo_ref (a := 8) (c := 11) rfl g108 rfl rfl rfl rfl rfl ?_
    refine ex_go (S := (81, [(2, .inl 0), (0, gx_r 8), (1, gx_r 191)], [.inl 0, gx_r 11], t108, n, 0)) rfl (fun _ => rfl) rfl ?_
    refine ex_go (S := (82, [(2, .inl 0), (0, gx_r 8), (1, gx_r 191)], [.inl 0, .inl 0, gx_r 11], t108, n, 0)) rfl (fun _ => rfl) rfl ?_
    refine gx_ap rfl (fun _ => rfl) g108 rfl rfl rfl (show 0 < 2 from by omega) rfl (gx_full (by first | decide | omega)) rfl (fun t111 g111 k111 e111 => ?_)
    have k12 : ai_hv t111 8 0 = some (.inl 0) := (e111 8 0 (by first | decide | omega)).trans k9
    have k13 : ai_hv t111 206 5 = some (.inl K) := (e111 206 5 (by first | decide | omega)).trans k10
    have k14 : ai_hv t111 10 0 = some (.inl 0) := (e111 10 0 (by first | decide | omega)).trans k108
    refine ex_go (S := (84, [(2, .inl 0), (0, gx_r 8), (1, gx_r 191)], [gx_r 8], t111, n, 0)) rfl (fun _ => rfl) rfl ?_
    refine gxo_ref (a := 8) (c := 12) rfl g111 rfl rfl rfl rfl rfl ?_
    refine ex_go (S := (88, [(2, .inl 0), (0, gx_r 8), (1, gx_r 191)], [.inl 0, gx_r 12], t111, n, 0)) rfl (fun _ => rfl) rfl ?_
    refine ex_go (S := (89, [(2, .inl 0), (0, gx_r 8), (1, gx_r 191)], [.inl 0, .inl 0, gx_r 12], t111, n, 0)) rfl (fun _ => rfl) rfl ?_
    refine gx_apv (d := 2) rfl (fun _ => rfl) g111 rfl rfl rfl (show 0 < 2 from by omega) rfl (ai_in_h (by first | decide | omega) (by first | decide | omega) (by first | decide | omega)) rfl (fun t115 g115 k115 e115 => ?_)
    have k16 : ai_hv t115 8 0 = some (.inl 0) := (e115 8 0 (by first | decide | omega)).trans k12
    have k17 : ai_hv t115 206 5 = some (.inl K) := (e115 206 5 (by first | decide | omega)).trans k13
    have k18 : ai_hv t115 10 0 = some (.inl 0) := (e115 10 0 (by first | decide | omega)).trans k14
    have k19 : ai_hv t115 11 0 = some (.inl 0) := (e115 11 0 (by first | decide | omega)).trans k111
    refine ex_go (S := (91, [(2, .inl 0), (0, gx_r 8), (1, gx_r 191)], [gx_r 8], t115, n, 0)) rfl (fun _ => rfl) rfl ?_
    refine gxo_ref (a := 8) (c := 13) rfl g115 rfl rfl rfl rfl rfl ?_
    refine ex_go (S := (95, [(2, .inl 0), (0, gx_r 8), (1, gx_r 191)], [.inl 0, gx_r 13], t115, n, 0)) rfl (fun _ => rfl) rfl ?_
    refine ex_go (S := (96, [(2, .inl 0), (0, gx_r 8), (1, gx_r 191)], [.inl 0, .inl 0, gx_r 13], t115, n, 0)) rfl (fun _ => rfl) rfl ?_
    refine gx_apv (d := 2) rfl (fun _ => rfl) g115 rfl rfl rfl (show 0 < 2 from by omega) rfl (ai_in_h (by first | decide | omega) (by first | decide | omega) (by first | decide | omega)) rfl (fun t120 g120 k120 e120 => ?_)
    have k21 : ai_hv t120 8 0 = some (.inl 0) := (e120 8 0 (by first | decide | omega)).trans k16
    have k22 : ai_hv t120 206 5 = some (.inl K) := (e120 206 5 (by first | decide | omega)).trans k17
    have k23 : ai_hv t120 10 0 = some (.inl 0) := (e120 10 0 (by first | decide | omega)).trans k18
    have k24 : ai_hv t120 11 0 = some (.inl 0) := (e120 11 0 (by first | decide | omega)).trans k19
    have k25 : ai_hv t120 12 0 = some (.inl 0) := (e120 12 0 (by first | decide | omega)).trans k115
    refine ex_go (S := (98, [(2, .inl 0), (0, gx_r 8), (1, gx_r 191)], [gx_r 8], t120, n, 0)) rfl (fun _ => rfl) rfl ?_
    refine gxo_ref (a := 8) (c := 14) rfl g120 rfl rfl rfl rfl rfl ?_
    refine ex_go (S := (102, [(2, .inl 0), (0, gx_r 8), (1, gx_r 191)], [.inl 0, gx_r 14], t120, n, 0)) rfl (fun _ => rfl) rfl ?_
    refine ex_go (S := (103, [(2, .inl 0), (0, gx_r 8), (1, gx_r 191)], [.inl 0, .inl 0, gx_r 14], t120, n, 0)) rfl (fun _ => rfl) rfl ?_
    refine gx_ap rfl (fun _ => rfl) g120 rfl rfl rfl (show 0 < 2 from by omega) rfl (ai_in_h (by first | decide | omega) (by first | decide | omega) (by first | decide | omega)) rfl (fun t126 g126 k126 e126 => ?_)
    have k27 : ai_hv t126 8 0 = some (.inl 0) := (e126 8 0 (by first | decide | omega)).trans k21
    have k28 : ai_hv t126 206 5 = some (.inl K) := (e126 206 5 (by first | decide | omega)).trans k22
    have k29 : ai_hv t126 10 0 = some (.inl 0) := (e126 10 0 (by first | decide | omega)).trans k23
    have k30 : ai_hv t126 11 0 = some (.inl 0) := (e126 11 0 (by first | decide | omega)).trans k24
    have k31 : ai_hv t126 12 0 = some (.inl 0) := (e126 12 0 (by first | decide | omega)).trans k25
    have k32 : ai_hv t126 13 0 = some (.inl 0) := (e126 13 0 (by first | decide | omega)).trans k120
    refine ex_go (S := (107, [(2, .inl 1), (0, gx_r 8), (1, gx_r 191)], [], t126, n, 0)) rfl (fun _ => rfl) rfl ?_
    refine ex_go (S := (41, [(2, .inl 1), (0, gx_r 8), (1, gx_r 191)], [], t126, n, 0)) rfl (fun _ => rfl) rfl ?_
    refine ex_go (S := (42, [(2, .inl 1), (0, gx_r 8), (1, gx_r 191)], [.inl 1], t126, n, 0)) rfl (fun _ => rfl) rfl ?_
    refine ex_go (S := (43, [(2, .inl 1), (0, gx_r 8), (1, gx_r 191)], [.inl 2, .inl 1], t126, n, 0)) rfl (fun _ => rfl) rfl ?_
    refine ex_go (S := (46, [(2, .inl 1), (0, gx_r 8), (1, gx_r 191)], [], t126, n, 0)) rfl (fun _ => rfl) rfl ?_
    refine ex_go (S := (47, [(2, .inl 1), (0, gx_r 8), (1, gx_r 191)], [gx_r 8], t126, n, 0)) rfl (fun _ => rfl) rfl ?_
    refine gxo_ref (a := 8) (c := 10) rfl g126 rfl rfl rfl rfl rfl ?_
    refine ex_go (S := (51, [(2, .inl 1), (0, gx_r 8), (1, gx_r 191)], [.inl 1, gx_r 10], t126, n, 0)) rfl (fun _ => rfl) rfl ?_
    refine ex_go (S := (52, [(2, .inl 1), (0, gx_r 8), (1, gx_r 191)], [gx_r 191, .inl 1, gx_r 10], t126, n, 0)) rfl (fun _ => rfl) rfl ?_
    refine gxo_ref (a := 191) (c := 206) rfl g126 rfl rfl rfl rfl rfl ?_
    refine ex_go (S := (56, [(2, .inl 1), (0, gx_r 8), (1, gx_r 191)], [.inl 1, gx_r 206, .inl 1, gx_r 10], t126, n, 0)) rfl (fun _ => rfl) rfl ?_
    obtain ⟨_, r33, b34, rfl, b34b, q35⟩ := pz_holds206 (d) n (x := 1) g126 (by first | decide | omega) ((e126 206 5 (by first | decide | omega)).trans ((e120 206 5 (by first | decide | omega)).trans ((e115 206 5 (by first | decide | omega)).trans ((e111 206 5 (by first | decide | omega)).trans ((e108 206 5 (by first | decide | omega)).trans ((i102.2 206 5 (by first | decide | omega)).trans ((e101 206 5 (by first | decide | omega)).trans (kK)))))))) (by first | decide | omega)
    refine gx_callo (a := 206) rfl rfl g126 rfl rfl rfl r33 rfl ?_
    show en_ex _ _ _ _ (59, [(2, .inl 1), (0, gx_r 8), (1, gx_r 191)], [.inl b34, .inl 1, gx_r 10], t126, n, 0) _
    by_cases hc36 : b34 = 0
    · refine gx_1t (c := .eq) rfl (by first | decide | omega) hc36 rfl ?_
      refine ex_go (S := (75, [(2, .inl 1), (0, gx_r 8), (1, gx_r 191)], [.inl 0, .inl 1, gx_r 10], t126, n, 0)) rfl (fun _ => rfl) rfl ?_
      refine gx_ap rfl (fun _ => rfl) g126 rfl rfl rfl (show 1 < 2 from by omega) rfl (gx_full (by first | decide | omega)) rfl (fun t137 g137 k137 e137 => ?_)
      have k38 : ai_hv t137 8 0 = some (.inl 0) := (e137 8 0 (by first | decide | omega)).trans k27
      have k39 : ai_hv t137 206 5 = some (.inl K) := (e137 206 5 (by first | decide | omega)).trans ((e126 206 5 (by first | decide | omega)).trans ((e120 206 5 (by first | decide | omega)).trans ((e115 206 5 (by first | decide | omega)).trans ((e111 206 5 (by first | decide | omega)).trans ((e108 206 5 (by first | decide | omega)).trans ((i102.2 206 5 (by first | decide | omega)).trans ((e101 206 5 (by first | decide | omega)).trans (kK))))))))
      have k40 : ai_hv t137 10 0 = some (.inl 0) := (e137 10 0 (by first | decide | omega)).trans k29
      have k41 : ai_hv t137 11 0 = some (.inl 0) := (e137 11 0 (by first | decide | omega)).trans k30
      have k42 : ai_hv t137 12 0 = some (.inl 0) := (e137 12 0 (by first | decide | omega)).trans k31
      have k43 : ai_hv t137 13 0 = some (.inl 0) := (e137 13 0 (by first | decide | omega)).trans k32
      have k44 : ai_hv t137 14 0 = some (.inl 0) := (e137 14 0 (by first | decide | omega)).trans k126
      refine ex_go (S := (77, [(2, .inl 1), (0, gx_r 8), (1, gx_r 191)], [gx_r 8], t137, n, 0)) rfl (fun _ => rfl) rfl ?_
      refine gxo_ref (a := 8) (c := 11) rfl g137 rfl rfl rfl rfl rfl ?_
      refine ex_go (S := (81, [(2, .inl 1), (0, gx_r 8), (1, gx_r 191)], [.inl 1, gx_r 11], t137, n, 0)) rfl (fun _ => rfl) rfl ?_
      refine ex_go (S := (82, [(2, .inl 1), (0, gx_r 8), (1, gx_r 191)], [.inl 0, .inl 1, gx_r 11], t137, n, 0)) rfl (fun _ => rfl) rfl ?_
      refine gx_ap rfl (fun _ => rfl) g137 rfl rfl rfl (show 1 < 2 from by omega) rfl (gx_full (by first | decide | omega)) rfl (fun t145 g145 k145 e145 => ?_)
      have k46 : ai_hv t145 8 0 = some (.inl 0) := (e145 8 0 (by first | decide | omega)).trans k38
      have k47 : ai_hv t145 206 5 = some (.inl K) := (e145 206 5 (by first | decide | omega)).trans k39
      have k48 : ai_hv t145 10 0 = some (.inl 0) := (e145 10 0 (by first | decide | omega)).trans k40
      have k49 : ai_hv t145 11 0 = some (.inl 0) := (e145 11 0 (by first | decide | omega)).trans k41
      have k50 : ai_hv t145 12 0 = some (.inl 0) := (e145 12 0 (by first | decide | omega)).trans k42
      have k51 : ai_hv t145 13 0 = some (.inl 0) := (e145 13 0 (by first | decide | omega)).trans k43
      have k52 : ai_hv t145 14 0 = some (.inl 0) := (e145 14 0 (by first | decide | omega)).trans k44
      have k53 : ai_hv t145 10 1 = some (.inl 0) := (e145 10 1 (by first | decide | omega)).trans k137
      refine ex_go (S := (84, [(2, .inl 1), (0, gx_r 8), (1, gx_r 191)], [gx_r 8], t145, n, 0)) rfl (fun _ => rfl) rfl ?_
      refine gxo_ref (a := 8) (c := 12) rfl g145 rfl rfl rfl rfl rfl ?_
      refine ex_go (S := (88, [(2, .inl 1), (0, gx_r 8), (1, gx_r 191)], [.inl 1, gx_r 12], t145, n, 0)) rfl (fun _ => rfl) rfl ?_
      refine ex_go (S := (89, [(2, .inl 1), (0, gx_r 8), (1, gx_r 191)], [.inl 0, .inl 1, gx_r 12], t145, n, 0)) rfl (fun _ => rfl) rfl ?_
      refine gx_apv (d := 2) rfl (fun _ => rfl) g145 rfl rfl rfl (show 1 < 2 from by omega) rfl (ai_in_h (by first | decide | omega) (by first | decide | omega) (by first | decide | omega)) rfl (fun t154 g154 k154 e154 => ?_)
      have k55 : ai_hv t154 8 0 = some (.inl 0) := (e154 8 0 (by first | decide | omega)).trans k46
      have k56 : ai_hv t154 206 5 = some (.inl K) := (e154 206 5 (by first | decide | omega)).trans k47
      have k57 : ai_hv t154 10 0 = some (.inl 0) := (e154 10 0 (by first | decide | omega)).trans k48
      have k58 : ai_hv t154 11 0 = some (.inl 0) := (e154 11 0 (by first | decide | omega)).trans k49
      have k59 : ai_hv t154 12 0 = some (.inl 0) := (e154 12 0 (by first | decide | omega)).trans k50
      have k60 : ai_hv t154 13 0 = some (.inl 0) := (e154 13 0 (by first | decide | omega)).trans k51
      have k61 : ai_hv t154 14 0 = some (.inl 0) := (e154 14 0 (by first | decide | omega)).trans k52
      have k62 : ai_hv t154 10 1 = some (.inl 0) := (e154 10 1 (by first | decide | omega)).trans k53
      have k63 : ai_hv t154 11 1 = some (.inl 0) := (e154 11 1 (by first | decide | omega)).trans k145
      refine ex_go (S := (91, [(2, .inl 1), (0, gx_r 8), (1, gx_r 191)], [gx_r 8], t154, n, 0)) rfl (fun _ => rfl) rfl ?_
      refine gxo_ref (a := 8) (c := 13) rfl g154 rfl rfl rfl rfl rfl ?_
      refine ex_go (S := (95, [(2, .inl 1), (0, gx_r 8), (1, gx_r 191)], [.inl 1, gx_r 13], t154, n, 0)) rfl (fun _ => rfl) rfl ?_
      refine ex_go (S := (96, [(2, .inl 1), (0, gx_r 8), (1, gx_r 191)], [.inl 0, .inl 1, gx_r 13], t154, n, 0)) rfl (fun _ => rfl) rfl ?_
      refine gx_apv (d := 2) rfl (fun _ => rfl) g154 rfl rfl rfl (show 1 < 2 from by omega) rfl (ai_in_h (by first | decide | omega) (by first | decide | omega) (by first | decide | omega)) rfl (fun t164 g164 k164 e164 => ?_)
      have k65 : ai_hv t164 8 0 = some (.inl 0) := (e164 8 0 (by first | decide | omega)).trans k55
      have k66 : ai_hv t164 206 5 = some (.inl K) := (e164 206 5 (by first | decide | omega)).trans k56
      have k67 : ai_hv t164 10 0 = some (.inl 0) := (e164 10 0 (by first | decide | omega)).trans k57
      have k68 : ai_hv t164 11 0 = some (.inl 0) := (e164 11 0 (by first | decide | omega)).trans k58
      have k69 : ai_hv t164 12 0 = some (.inl 0) := (e164 12 0 (by first | decide | omega)).trans k59
      have k70 : ai_hv t164 13 0 = some (.inl 0) := (e164 13 0 (by first | decide | omega)).trans k60
      have k71 : ai_hv t164 14 0 = some (.inl 0) := (e164 14 0 (by first | decide | omega)).trans k61
      have k72 : ai_hv t164 10 1 = some (.inl 0) := (e164 10 1 (by first | decide | omega)).trans k62
      have k73 : ai_hv t164 11 1 = some (.inl 0) := (e164 11 1 (by first | decide | omega)).trans k63
      have k74 : ai_hv t164 12 1 = some (.inl 0) := (e164 12 1 (by first | decide | omega)).trans k154
      refine ex_go (S := (98, [(2, .inl 1), (0, gx_r 8), (1, gx_r 191)], [gx_r 8], t164, n, 0)) rfl (fun _ => rfl) rfl ?_
      refine gxo_ref (a := 8) (c := 14) rfl g164 rfl rfl rfl rfl rfl ?_
      refine ex_go (S := (102, [(2, .inl 1), (0, gx_r 8), (1, gx_r 191)], [.inl 1, gx_r 14], t164, n, 0)) rfl (fun _ => rfl) rfl ?_
      refine ex_go (S := (103, [(2, .inl 1), (0, gx_r 8), (1, gx_r 191)], [.inl 0, .inl 1, gx_r 14], t164, n, 0)) rfl (fun _ => rfl) rfl ?_
      refine gx_ap rfl (fun _ => rfl) g164 rfl rfl rfl (show 1 < 2 from by omega) rfl (ai_in_h (by first | decide | omega) (by first | decide | omega) (by first | decide | omega)) rfl (fun t175 g175 k175 e175 => ?_)
      have k76 : ai_hv t175 8 0 = some (.inl 0) := (e175 8 0 (by first | decide | omega)).trans k65
      have k77 : ai_hv t175 206 5 = some (.inl K) := (e175 206 5 (by first | decide | omega)).trans k66
      have k78 : ai_hv t175 10 0 = some (.inl 0) := (e175 10 0 (by first | decide | omega)).trans k67
      have k79 : ai_hv t175 11 0 = some (.inl 0) := (e175 11 0 (by first | decide | omega)).trans k68
      have k80 : ai_hv t175 12 0 = some (.inl 0) := (e175 12 0 (by first | decide | omega)).trans k69
      have k81 : ai_hv t175 13 0 = some (.inl 0) := (e175 13 0 (by first | decide | omega)).trans k70
      have k82 : ai_hv t175 14 0 = some (.inl 0) := (e175 14 0 (by first | decide | omega)).trans k71
      have k83 : ai_hv t175 10 1 = some (.inl 0) := (e175 10 1 (by first | decide | omega)).trans k72
      have k84 : ai_hv t175 11 1 = some (.inl 0) := (e175 11 1 (by first | decide | omega)).trans k73
      have k85 : ai_hv t175 12 1 = some (.inl 0) := (e175 12 1 (by first | decide | omega)).trans k74
      have k86 : ai_hv t175 13 1 = some (.inl 0) := (e175 13 1 (by first | decide | omega)).trans k164
      refine ex_go (S := (107, [(2, .inl 2), (0, gx_r 8), (1, gx_r 191)], [], t175, n, 0)) rfl (fun _ => rfl) rfl ?_
      refine ex_go (S := (41, [(2, .inl 2), (0, gx_r 8), (1, gx_r 191)], [], t175, n, 0)) rfl (fun _ => rfl) rfl ?_
      refine ex_go (S := (42, [(2, .inl 2), (0, gx_r 8), (1, gx_r 191)], [.inl 2], t175, n, 0)) rfl (fun _ => rfl) rfl ?_
      refine ex_go (S := (43, [(2, .inl 2), (0, gx_r 8), (1, gx_r 191)], [.inl 2, .inl 2], t175, n, 0)) rfl (fun _ => rfl) rfl ?_
      refine ex_go (S := (110, [(2, .inl 2), (0, gx_r 8), (1, gx_r 191)], [], t175, n, 0)) rfl (fun _ => rfl) rfl ?_
      refine ex_ret (r := (none, t175, n, 0)) rfl (fun _ => rfl) ?_
      refine ⟨_, rfl, t175, rfl, g175, (fun c i h => (e175 c i (by first | decide | omega)).trans ((e164 c i (by first | decide | omega)).trans ((e154 c i (by first | decide | omega)).trans ((e145 c i (by first | decide | omega)).trans ((e137 c i (by first | decide | omega)).trans ((e126 c i (by first | decide | omega)).trans ((e120 c i (by first | decide | omega)).trans ((e115 c i (by first | decide | omega)).trans ((e111 c i (by first | decide | omega)).trans ((e108 c i (by first | decide | omega)).trans ((i102.2 c i (by first | decide | omega)).trans (e101 c i (by first | decide | omega))))))))))))), k76, (fun i hi => (e175 9 i (by first | decide | omega)).trans ((e164 9 i (by first | decide | omega)).trans ((e154 9 i (by first | decide | omega)).trans ((e145 9 i (by first | decide | omega)).trans ((e137 9 i (by first | decide | omega)).trans ((e126 9 i (by first | decide | omega)).trans ((e120 9 i (by first | decide | omega)).trans ((e115 9 i (by first | decide | omega)).trans ((e111 9 i (by first | decide | omega)).trans ((e108 9 i (by first | decide | omega)).trans (i102.1 i hi))))))))))), fun c hc => ?_⟩
      rcases (show c = 0 ∨ c = 1 by omega) with rfl | rfl
      · omega
      · omega
    · refine gx_1f (c := .eq) rfl (by first | decide | omega) hc36 rfl ?_
      refine ex_go (S := (63, [(2, .inl 1), (0, gx_r 8), (1, gx_r 191)], [gx_r 191, .inl 1, gx_r 10], t126, n, 0)) rfl (fun _ => rfl) rfl ?_
      refine gxo_ref (a := 191) (c := 206) rfl g126 rfl rfl rfl rfl rfl ?_
      refine gxo_ref (a := 206) (c := 210) rfl g126 rfl rfl rfl rfl rfl ?_
      refine ex_go (S := (70, [(2, .inl 1), (0, gx_r 8), (1, gx_r 191)], [.inl 1, gx_r 210, .inl 1, gx_r 10], t126, n, 0)) rfl (fun _ => rfl) rfl ?_
      have := hB 1 (by first | decide | omega)
      refine gx_ag (v := .inl (B 1)) (cb := fun c => Nat.beq c 0) rfl (fun _ => rfl) g126 rfl rfl ((e126 210 1 (by first | decide | omega)).trans ((e120 210 1 (by first | decide | omega)).trans ((e115 210 1 (by first | decide | omega)).trans ((e111 210 1 (by first | decide | omega)).trans ((e108 210 1 (by first | decide | omega)).trans ((i102.2 210 1 (by first | decide | omega)).trans ((e101 210 1 (by first | decide | omega)).trans (kB 1 (by first | decide | omega))))))))) (by first | decide | omega) rfl ?_
      refine ex_go (S := (75, [(2, .inl 1), (0, gx_r 8), (1, gx_r 191)], [.inl (B 1), .inl 1, gx_r 10], t126, n, 0)) rfl (fun _ => rfl) rfl ?_
      refine gx_ap rfl (fun _ => rfl) g126 rfl rfl rfl (show 1 < 2 from by omega) rfl (gx_full (by first | decide | omega)) rfl (fun t187 g187 k187 e187 => ?_)
      have k88 : ai_hv t187 8 0 = some (.inl 0) := (e187 8 0 (by first | decide | omega)).trans k27
      have k89 : ai_hv t187 206 5 = some (.inl K) := (e187 206 5 (by first | decide | omega)).trans ((e126 206 5 (by first | decide | omega)).trans ((e120 206 5 (by first | decide | omega)).trans ((e115 206 5 (by first | decide | omega)).trans ((e111 206 5 (by first | decide | omega)).trans ((e108 206 5 (by first | decide | omega)).trans ((i102.2 206 5 (by first | decide | omega)).trans ((e101 206 5 (by first | decide | omega)).trans (kK))))))))
      have k90 : ai_hv t187 10 0 = some (.inl 0) := (e187 10 0 (by first | decide | omega)).trans k29
      have k91 : ai_hv t187 11 0 = some (.inl 0) := (e187 11 0 (by first | decide | omega)).trans k30
      have k92 : ai_hv t187 12 0 = some (.inl 0) := (e187 12 0 (by first | decide | omega)).trans k31
      have k93 : ai_hv t187 13 0 = some (.inl 0) := (e187 13 0 (by first | decide | omega)).trans k32
      have k94 : ai_hv t187 14 0 = some (.inl 0) := (e187 14 0 (by first | decide | omega)).trans k126
      have k95 : ai_hv t187 210 1 = some (.inl (B 1)) := (e187 210 1 (by first | decide | omega)).trans ((e126 210 1 (by first | decide | omega)).trans ((e120 210 1 (by first | decide | omega)).trans ((e115 210 1 (by first | decide | omega)).trans ((e111 210 1 (by first | decide | omega)).trans ((e108 210 1 (by first | decide | omega)).trans ((i102.2 210 1 (by first | decide | omega)).trans ((e101 210 1 (by first | decide | omega)).trans (kB 1 (by first | decide | omega)))))))))
      refine ex_go (S := (77, [(2, .inl 1), (0, gx_r 8), (1, gx_r 191)], [gx_r 8], t187, n, 0)) rfl (fun _ => rfl) rfl ?_
      refine gxo_ref (a := 8) (c := 11) rfl g187 rfl rfl rfl rfl rfl ?_
      refine ex_go (S := (81, [(2, .inl 1), (0, gx_r 8), (1, gx_r 191)], [.inl 1, gx_r 11], t187, n, 0)) rfl (fun _ => rfl) rfl ?_
      refine ex_go (S := (82, [(2, .inl 1), (0, gx_r 8), (1, gx_r 191)], [.inl 0, .inl 1, gx_r 11], t187, n, 0)) rfl (fun _ => rfl) rfl ?_
      refine gx_ap rfl (fun _ => rfl) g187 rfl rfl rfl (show 1 < 2 from by omega) rfl (gx_full (by first | decide | omega)) rfl (fun t196 g196 k196 e196 => ?_)
      have k97 : ai_hv t196 8 0 = some (.inl 0) := (e196 8 0 (by first | decide | omega)).trans k88
      have k98 : ai_hv t196 206 5 = some (.inl K) := (e196 206 5 (by first | decide | omega)).trans k89
      have k99 : ai_hv t196 10 0 = some (.inl 0) := (e196 10 0 (by first | decide | omega)).trans k90
      have k100 : ai_hv t196 11 0 = some (.inl 0) := (e196 11 0 (by first | decide | omega)).trans k91
      have k101 : ai_hv t196 12 0 = some (.inl 0) := (e196 12 0 (by first | decide | omega)).trans k92
      have k102 : ai_hv t196 13 0 = some (.inl 0) := (e196 13 0 (by first | decide | omega)).trans k93
      have k103 : ai_hv t196 14 0 = some (.inl 0) := (e196 14 0 (by first | decide | omega)).trans k94
      have k104 : ai_hv t196 210 1 = some (.inl (B 1)) := (e196 210 1 (by first | decide | omega)).trans k95
      have k105 : ai_hv t196 10 1 = some (.inl (B 1)) := (e196 10 1 (by first | decide | omega)).trans k187
      refine ex_go (S := (84, [(2, .inl 1), (0, gx_r 8), (1, gx_r 191)], [gx_r 8], t196, n, 0)) rfl (fun _ => rfl) rfl ?_
      refine gxo_ref (a := 8) (c := 12) rfl g196 rfl rfl rfl rfl rfl ?_
      refine ex_go (S := (88, [(2, .inl 1), (0, gx_r 8), (1, gx_r 191)], [.inl 1, gx_r 12], t196, n, 0)) rfl (fun _ => rfl) rfl ?_
      refine ex_go (S := (89, [(2, .inl 1), (0, gx_r 8), (1, gx_r 191)], [.inl 0, .inl 1, gx_r 12], t196, n, 0)) rfl (fun _ => rfl) rfl ?_
      refine gx_apv (d := 2) rfl (fun _ => rfl) g196 rfl rfl rfl (show 1 < 2 from by omega) rfl (ai_in_h (by first | decide | omega) (by first | decide | omega) (by first | decide | omega)) rfl (fun t206 g206 k206 e206 => ?_)
      have k107 : ai_hv t206 8 0 = some (.inl 0) := (e206 8 0 (by first | decide | omega)).trans k97
      have k108 : ai_hv t206 206 5 = some (.inl K) := (e206 206 5 (by first | decide | omega)).trans k98
      have k109 : ai_hv t206 10 0 = some (.inl 0) := (e206 10 0 (by first | decide | omega)).trans k99
      have k110 : ai_hv t206 11 0 = some (.inl 0) := (e206 11 0 (by first | decide | omega)).trans k100
      have k111 : ai_hv t206 12 0 = some (.inl 0) := (e206 12 0 (by first | decide | omega)).trans k101
      have k112 : ai_hv t206 13 0 = some (.inl 0) := (e206 13 0 (by first | decide | omega)).trans k102
      have k113 : ai_hv t206 14 0 = some (.inl 0) := (e206 14 0 (by first | decide | omega)).trans k103
      have k114 : ai_hv t206 210 1 = some (.inl (B 1)) := (e206 210 1 (by first | decide | omega)).trans k104
      have k115 : ai_hv t206 10 1 = some (.inl (B 1)) := (e206 10 1 (by first | decide | omega)).trans k105
      have k116 : ai_hv t206 11 1 = some (.inl 0) := (e206 11 1 (by first | decide | omega)).trans k196
      refine ex_go (S := (91, [(2, .inl 1), (0, gx_r 8), (1, gx_r 191)], [gx_r 8], t206, n, 0)) rfl (fun _ => rfl) rfl ?_
      refine gxo_ref (a := 8) (c := 13) rfl g206 rfl rfl rfl rfl rfl ?_
      refine ex_go (S := (95, [(2, .inl 1), (0, gx_r 8), (1, gx_r 191)], [.inl 1, gx_r 13], t206, n, 0)) rfl (fun _ => rfl) rfl ?_
      refine ex_go (S := (96, [(2, .inl 1), (0, gx_r 8), (1, gx_r 191)], [.inl 0, .inl 1, gx_r 13], t206, n, 0)) rfl (fun _ => rfl) rfl ?_
      refine gx_apv (d := 2) rfl (fun _ => rfl) g206 rfl rfl rfl (show 1 < 2 from by omega) rfl (ai_in_h (by first | decide | omega) (by first | decide | omega) (by first | decide | omega)) rfl (fun t217 g217 k217 e217 => ?_)
      have k118 : ai_hv t217 8 0 = some (.inl 0) := (e217 8 0 (by first | decide | omega)).trans k107
      have k119 : ai_hv t217 206 5 = some (.inl K) := (e217 206 5 (by first | decide | omega)).trans k108
      have k120 : ai_hv t217 10 0 = some (.inl 0) := (e217 10 0 (by first | decide | omega)).trans k109
      have k121 : ai_hv t217 11 0 = some (.inl 0) := (e217 11 0 (by first | decide | omega)).trans k110
      have k122 : ai_hv t217 12 0 = some (.inl 0) := (e217 12 0 (by first | decide | omega)).trans k111
      have k123 : ai_hv t217 13 0 = some (.inl 0) := (e217 13 0 (by first | decide | omega)).trans k112
      have k124 : ai_hv t217 14 0 = some (.inl 0) := (e217 14 0 (by first | decide | omega)).trans k113
      have k125 : ai_hv t217 210 1 = some (.inl (B 1)) := (e217 210 1 (by first | decide | omega)).trans k114
      have k126 : ai_hv t217 10 1 = some (.inl (B 1)) := (e217 10 1 (by first | decide | omega)).trans k115
      have k127 : ai_hv t217 11 1 = some (.inl 0) := (e217 11 1 (by first | decide | omega)).trans k116
      have k128 : ai_hv t217 12 1 = some (.inl 0) := (e217 12 1 (by first | decide | omega)).trans k206
      refine ex_go (S := (98, [(2, .inl 1), (0, gx_r 8), (1, gx_r 191)], [gx_r 8], t217, n, 0)) rfl (fun _ => rfl) rfl ?_
      refine gxo_ref (a := 8) (c := 14) rfl g217 rfl rfl rfl rfl rfl ?_
      refine ex_go (S := (102, [(2, .inl 1), (0, gx_r 8), (1, gx_r 191)], [.inl 1, gx_r 14], t217, n, 0)) rfl (fun _ => rfl) rfl ?_
      refine ex_go (S := (103, [(2, .inl 1), (0, gx_r 8), (1, gx_r 191)], [.inl 0, .inl 1, gx_r 14], t217, n, 0)) rfl (fun _ => rfl) rfl ?_
      refine gx_ap rfl (fun _ => rfl) g217 rfl rfl rfl (show 1 < 2 from by omega) rfl (ai_in_h (by first | decide | omega) (by first | decide | omega) (by first | decide | omega)) rfl (fun t229 g229 k229 e229 => ?_)
      have k130 : ai_hv t229 8 0 = some (.inl 0) := (e229 8 0 (by first | decide | omega)).trans k118
      have k131 : ai_hv t229 206 5 = some (.inl K) := (e229 206 5 (by first | decide | omega)).trans k119
      have k132 : ai_hv t229 10 0 = some (.inl 0) := (e229 10 0 (by first | decide | omega)).trans k120
      have k133 : ai_hv t229 11 0 = some (.inl 0) := (e229 11 0 (by first | decide | omega)).trans k121
      have k134 : ai_hv t229 12 0 = some (.inl 0) := (e229 12 0 (by first | decide | omega)).trans k122
      have k135 : ai_hv t229 13 0 = some (.inl 0) := (e229 13 0 (by first | decide | omega)).trans k123
      have k136 : ai_hv t229 14 0 = some (.inl 0) := (e229 14 0 (by first | decide | omega)).trans k124
      have k137 : ai_hv t229 210 1 = some (.inl (B 1)) := (e229 210 1 (by first | decide | omega)).trans k125
      have k138 : ai_hv t229 10 1 = some (.inl (B 1)) := (e229 10 1 (by first | decide | omega)).trans k126
      have k139 : ai_hv t229 11 1 = some (.inl 0) := (e229 11 1 (by first | decide | omega)).trans k127
      have k140 : ai_hv t229 12 1 = some (.inl 0) := (e229 12 1 (by first | decide | omega)).trans k128
      have k141 : ai_hv t229 13 1 = some (.inl 0) := (e229 13 1 (by first | decide | omega)).trans k217
      refine ex_go (S := (107, [(2, .inl 2), (0, gx_r 8), (1, gx_r 191)], [], t229, n, 0)) rfl (fun _ => rfl) rfl ?_
      refine ex_go (S := (41, [(2, .inl 2), (0, gx_r 8), (1, gx_r 191)], [], t229, n, 0)) rfl (fun _ => rfl) rfl ?_
      refine ex_go (S := (42, [(2, .inl 2), (0, gx_r 8), (1, gx_r 191)], [.inl 2], t229, n, 0)) rfl (fun _ => rfl) rfl ?_
      refine ex_go (S := (43, [(2, .inl 2), (0, gx_r 8), (1, gx_r 191)], [.inl 2, .inl 2], t229, n, 0)) rfl (fun _ => rfl) rfl ?_
      refine ex_go (S := (110, [(2, .inl 2), (0, gx_r 8), (1, gx_r 191)], [], t229, n, 0)) rfl (fun _ => rfl) rfl ?_
      refine ex_ret (r := (none, t229, n, 0)) rfl (fun _ => rfl) ?_
      refine ⟨_, rfl, t229, rfl, g229, (fun c i h => (e229 c i (by first | decide | omega)).trans ((e217 c i (by first | decide | omega)).trans ((e206 c i (by first | decide | omega)).trans ((e196 c i (by first | decide | omega)).trans ((e187 c i (by first | decide | omega)).trans ((e126 c i (by first | decide | omega)).trans ((e120 c i (by first | decide | omega)).trans ((e115 c i (by first | decide | omega)).trans ((e111 c i (by first | decide | omega)).trans ((e108 c i (by first | decide | omega)).trans ((i102.2 c i (by first | decide | omega)).trans (e101 c i (by first | decide | omega))))))))))))), k130, (fun i hi => (e229 9 i (by first | decide | omega)).trans ((e217 9 i (by first | decide | omega)).trans ((e206 9 i (by first | decide | omega)).trans ((e196 9 i (by first | decide | omega)).trans ((e187 9 i (by first | decide | omega)).trans ((e126 9 i (by first | decide | omega)).trans ((e120 9 i (by first | decide | omega)).trans ((e115 9 i (by first | decide | omega)).trans ((e111 9 i (by first | decide | omega)).trans ((e108 9 i (by first | decide | omega)).trans (i102.1 i hi))))))))))), fun c hc => ?_⟩
      rcases (show c = 0 ∨ c = 1 by omega) with rfl | rfl
      · omega
      · exact ⟨k138, k139, k140, k141, k229⟩
  · refine gx_1f (c := .eq) rfl (by first | decide | omega) hc7 rfl ?_
    refine ex_go (S := (63, [(2, .inl 0), (0, gx_r 8), (1, gx_r 191)], [gx_r 191, .inl 0, gx_r 10], t102, n, 0)) rfl (fun _ => rfl) rfl ?_
    refine gxo_ref (a := 191) (c := 206) rfl g102 rfl rfl rfl rfl rfl ?_
    refine gxo_ref (a := 206) (c := 210) rfl g102 rfl rfl rfl rfl rfl ?_
    refine ex_go (S := (70, [(2, .inl 0), (0, gx_r 8), (1, gx_r 191)], [.inl 0, gx_r 210, .inl 0, gx_r 10], t102, n, 0)) rfl (fun _ => rfl) rfl ?_
    have := hB 0 (by first | decide | omega)
    refine gx_ag (v := .inl (B 0)) (cb := fun c => Nat.beq c 0) rfl (fun _ => rfl) g102 rfl rfl ((i102.2 210 0 (by first | decide | omega)).trans ((e101 210 0 (by first | decide | omega)).trans (kB 0 (by first | decide | omega)))) (by first | decide | omega) rfl ?_
    refine ex_go (S := (75, [(2, .inl 0), (0, gx_r 8), (1, gx_r 191)], [.inl (B 0), .inl 0, gx_r 10], t102, n, 0)) rfl (fun _ => rfl) rfl ?_
    refine gx_ap rfl (fun _ => rfl) g102 rfl rfl rfl (show 0 < 2 from by omega) rfl (gx_full (by first | decide | omega)) rfl (fun t242 g242 k242 e242 => ?_)
    have k143 : ai_hv t242 8 0 = some (.inl 0) := (e242 8 0 (by first | decide | omega)).trans k3
    have k144 : ai_hv t242 206 5 = some (.inl K) := (e242 206 5 (by first | decide | omega)).trans ((i102.2 206 5 (by first | decide | omega)).trans ((e101 206 5 (by first | decide | omega)).trans (kK)))
    have k145 : ai_hv t242 210 0 = some (.inl (B 0)) := (e242 210 0 (by first | decide | omega)).trans ((i102.2 210 0 (by first | decide | omega)).trans ((e101 210 0 (by first | decide | omega)).trans (kB 0 (by first | decide | omega))))
    refine ex_go (S := (77, [(2, .inl 0), (0, gx_r 8), (1, gx_r 191)], [gx_r 8], t242, n, 0)) rfl (fun _ => rfl) rfl ?_
    refine gxo_ref (a := 8) (c := 11) rfl g242 rfl rfl rfl rfl rfl ?_
    refine ex_go (S := (81, [(2, .inl 0), (0, gx_r 8), (1, gx_r 191)], [.inl 0, gx_r 11], t242, n, 0)) rfl (fun _ => rfl) rfl ?_
    refine ex_go (S := (82, [(2, .inl 0), (0, gx_r 8), (1, gx_r 191)], [.inl 0, .inl 0, gx_r 11], t242, n, 0)) rfl (fun _ => rfl) rfl ?_
    refine gx_ap rfl (fun _ => rfl) g242 rfl rfl rfl (show 0 < 2 from by omega) rfl (gx_full (by first | decide | omega)) rfl (fun t246 g246 k246 e246 => ?_)
    have k147 : ai_hv t246 8 0 = some (.inl 0) := (e246 8 0 (by first | decide | omega)).trans k143
    have k148 : ai_hv t246 206 5 = some (.inl K) := (e246 206 5 (by first | decide | omega)).trans k144
    have k149 : ai_hv t246 210 0 = some (.inl (B 0)) := (e246 210 0 (by first | decide | omega)).trans k145
    have k150 : ai_hv t246 10 0 = some (.inl (B 0)) := (e246 10 0 (by first | decide | omega)).trans k242
    refine ex_go (S := (84, [(2, .inl 0), (0, gx_r 8), (1, gx_r 191)], [gx_r 8], t246, n, 0)) rfl (fun _ => rfl) rfl ?_
    refine gxo_ref (a := 8) (c := 12) rfl g246 rfl rfl rfl rfl rfl ?_
    refine ex_go (S := (88, [(2, .inl 0), (0, gx_r 8), (1, gx_r 191)], [.inl 0, gx_r 12], t246, n, 0)) rfl (fun _ => rfl) rfl ?_
    refine ex_go (S := (89, [(2, .inl 0), (0, gx_r 8), (1, gx_r 191)], [.inl 0, .inl 0, gx_r 12], t246, n, 0)) rfl (fun _ => rfl) rfl ?_
    refine gx_apv (d := 2) rfl (fun _ => rfl) g246 rfl rfl rfl (show 0 < 2 from by omega) rfl (ai_in_h (by first | decide | omega) (by first | decide | omega) (by first | decide | omega)) rfl (fun t251 g251 k251 e251 => ?_)
    have k152 : ai_hv t251 8 0 = some (.inl 0) := (e251 8 0 (by first | decide | omega)).trans k147
    have k153 : ai_hv t251 206 5 = some (.inl K) := (e251 206 5 (by first | decide | omega)).trans k148
    have k154 : ai_hv t251 210 0 = some (.inl (B 0)) := (e251 210 0 (by first | decide | omega)).trans k149
    have k155 : ai_hv t251 10 0 = some (.inl (B 0)) := (e251 10 0 (by first | decide | omega)).trans k150
    have k156 : ai_hv t251 11 0 = some (.inl 0) := (e251 11 0 (by first | decide | omega)).trans k246
    refine ex_go (S := (91, [(2, .inl 0), (0, gx_r 8), (1, gx_r 191)], [gx_r 8], t251, n, 0)) rfl (fun _ => rfl) rfl ?_
    refine gxo_ref (a := 8) (c := 13) rfl g251 rfl rfl rfl rfl rfl ?_
    refine ex_go (S := (95, [(2, .inl 0), (0, gx_r 8), (1, gx_r 191)], [.inl 0, gx_r 13], t251, n, 0)) rfl (fun _ => rfl) rfl ?_
    refine ex_go (S := (96, [(2, .inl 0), (0, gx_r 8), (1, gx_r 191)], [.inl 0, .inl 0, gx_r 13], t251, n, 0)) rfl (fun _ => rfl) rfl ?_
    refine gx_apv (d := 2) rfl (fun _ => rfl) g251 rfl rfl rfl (show 0 < 2 from by omega) rfl (ai_in_h (by first | decide | omega) (by first | decide | omega) (by first | decide | omega)) rfl (fun t257 g257 k257 e257 => ?_)
    have k158 : ai_hv t257 8 0 = some (.inl 0) := (e257 8 0 (by first | decide | omega)).trans k152
    have k159 : ai_hv t257 206 5 = some (.inl K) := (e257 206 5 (by first | decide | omega)).trans k153
    have k160 : ai_hv t257 210 0 = some (.inl (B 0)) := (e257 210 0 (by first | decide | omega)).trans k154
    have k161 : ai_hv t257 10 0 = some (.inl (B 0)) := (e257 10 0 (by first | decide | omega)).trans k155
    have k162 : ai_hv t257 11 0 = some (.inl 0) := (e257 11 0 (by first | decide | omega)).trans k156
    have k163 : ai_hv t257 12 0 = some (.inl 0) := (e257 12 0 (by first | decide | omega)).trans k251
    refine ex_go (S := (98, [(2, .inl 0), (0, gx_r 8), (1, gx_r 191)], [gx_r 8], t257, n, 0)) rfl (fun _ => rfl) rfl ?_
    refine gxo_ref (a := 8) (c := 14) rfl g257 rfl rfl rfl rfl rfl ?_
    refine ex_go (S := (102, [(2, .inl 0), (0, gx_r 8), (1, gx_r 191)], [.inl 0, gx_r 14], t257, n, 0)) rfl (fun _ => rfl) rfl ?_
    refine ex_go (S := (103, [(2, .inl 0), (0, gx_r 8), (1, gx_r 191)], [.inl 0, .inl 0, gx_r 14], t257, n, 0)) rfl (fun _ => rfl) rfl ?_
    refine gx_ap rfl (fun _ => rfl) g257 rfl rfl rfl (show 0 < 2 from by omega) rfl (ai_in_h (by first | decide | omega) (by first | decide | omega) (by first | decide | omega)) rfl (fun t264 g264 k264 e264 => ?_)
    have k165 : ai_hv t264 8 0 = some (.inl 0) := (e264 8 0 (by first | decide | omega)).trans k158
    have k166 : ai_hv t264 206 5 = some (.inl K) := (e264 206 5 (by first | decide | omega)).trans k159
    have k167 : ai_hv t264 210 0 = some (.inl (B 0)) := (e264 210 0 (by first | decide | omega)).trans k160
    have k168 : ai_hv t264 10 0 = some (.inl (B 0)) := (e264 10 0 (by first | decide | omega)).trans k161
    have k169 : ai_hv t264 11 0 = some (.inl 0) := (e264 11 0 (by first | decide | omega)).trans k162
    have k170 : ai_hv t264 12 0 = some (.inl 0) := (e264 12 0 (by first | decide | omega)).trans k163
    have k171 : ai_hv t264 13 0 = some (.inl 0) := (e264 13 0 (by first | decide | omega)).trans k257
    refine ex_go (S := (107, [(2, .inl 1), (0, gx_r 8), (1, gx_r 191)], [], t264, n, 0)) rfl (fun _ => rfl) rfl ?_
    refine ex_go (S := (41, [(2, .inl 1), (0, gx_r 8), (1, gx_r 191)], [], t264, n, 0)) rfl (fun _ => rfl) rfl ?_
    refine ex_go (S := (42, [(2, .inl 1), (0, gx_r 8), (1, gx_r 191)], [.inl 1], t264, n, 0)) rfl (fun _ => rfl) rfl ?_
    refine ex_go (S := (43, [(2, .inl 1), (0, gx_r 8), (1, gx_r 191)], [.inl 2, .inl 1], t264, n, 0)) rfl (fun _ => rfl) rfl ?_
    refine ex_go (S := (46, [(2, .inl 1), (0, gx_r 8), (1, gx_r 191)], [], t264, n, 0)) rfl (fun _ => rfl) rfl ?_
    refine ex_go (S := (47, [(2, .inl 1), (0, gx_r 8), (1, gx_r 191)], [gx_r 8], t264, n, 0)) rfl (fun _ => rfl) rfl ?_
    refine gxo_ref (a := 8) (c := 10) rfl g264 rfl rfl rfl rfl rfl ?_
    refine ex_go (S := (51, [(2, .inl 1), (0, gx_r 8), (1, gx_r 191)], [.inl 1, gx_r 10], t264, n, 0)) rfl (fun _ => rfl) rfl ?_
    refine ex_go (S := (52, [(2, .inl 1), (0, gx_r 8), (1, gx_r 191)], [gx_r 191, .inl 1, gx_r 10], t264, n, 0)) rfl (fun _ => rfl) rfl ?_
    refine gxo_ref (a := 191) (c := 206) rfl g264 rfl rfl rfl rfl rfl ?_
    refine ex_go (S := (56, [(2, .inl 1), (0, gx_r 8), (1, gx_r 191)], [.inl 1, gx_r 206, .inl 1, gx_r 10], t264, n, 0)) rfl (fun _ => rfl) rfl ?_
    obtain ⟨_, r172, b173, rfl, b173b, q174⟩ := pz_holds206 (d) n (x := 1) g264 (by first | decide | omega) ((e264 206 5 (by first | decide | omega)).trans ((e257 206 5 (by first | decide | omega)).trans ((e251 206 5 (by first | decide | omega)).trans ((e246 206 5 (by first | decide | omega)).trans ((e242 206 5 (by first | decide | omega)).trans ((i102.2 206 5 (by first | decide | omega)).trans ((e101 206 5 (by first | decide | omega)).trans (kK)))))))) (by first | decide | omega)
    refine gx_callo (a := 206) rfl rfl g264 rfl rfl rfl r172 rfl ?_
    show en_ex _ _ _ _ (59, [(2, .inl 1), (0, gx_r 8), (1, gx_r 191)], [.inl b173, .inl 1, gx_r 10], t264, n, 0) _
    by_cases hc175 : b173 = 0
    · refine gx_1t (c := .eq) rfl (by first | decide | omega) hc175 rfl ?_
      refine ex_go (S := (75, [(2, .inl 1), (0, gx_r 8), (1, gx_r 191)], [.inl 0, .inl 1, gx_r 10], t264, n, 0)) rfl (fun _ => rfl) rfl ?_
      refine gx_ap rfl (fun _ => rfl) g264 rfl rfl rfl (show 1 < 2 from by omega) rfl (gx_full (by first | decide | omega)) rfl (fun t276 g276 k276 e276 => ?_)
      have k177 : ai_hv t276 8 0 = some (.inl 0) := (e276 8 0 (by first | decide | omega)).trans k165
      have k178 : ai_hv t276 206 5 = some (.inl K) := (e276 206 5 (by first | decide | omega)).trans ((e264 206 5 (by first | decide | omega)).trans ((e257 206 5 (by first | decide | omega)).trans ((e251 206 5 (by first | decide | omega)).trans ((e246 206 5 (by first | decide | omega)).trans ((e242 206 5 (by first | decide | omega)).trans ((i102.2 206 5 (by first | decide | omega)).trans ((e101 206 5 (by first | decide | omega)).trans (kK))))))))
      have k179 : ai_hv t276 210 0 = some (.inl (B 0)) := (e276 210 0 (by first | decide | omega)).trans k167
      have k180 : ai_hv t276 10 0 = some (.inl (B 0)) := (e276 10 0 (by first | decide | omega)).trans k168
      have k181 : ai_hv t276 11 0 = some (.inl 0) := (e276 11 0 (by first | decide | omega)).trans k169
      have k182 : ai_hv t276 12 0 = some (.inl 0) := (e276 12 0 (by first | decide | omega)).trans k170
      have k183 : ai_hv t276 13 0 = some (.inl 0) := (e276 13 0 (by first | decide | omega)).trans k171
      have k184 : ai_hv t276 14 0 = some (.inl 0) := (e276 14 0 (by first | decide | omega)).trans k264
      refine ex_go (S := (77, [(2, .inl 1), (0, gx_r 8), (1, gx_r 191)], [gx_r 8], t276, n, 0)) rfl (fun _ => rfl) rfl ?_
      refine gxo_ref (a := 8) (c := 11) rfl g276 rfl rfl rfl rfl rfl ?_
      refine ex_go (S := (81, [(2, .inl 1), (0, gx_r 8), (1, gx_r 191)], [.inl 1, gx_r 11], t276, n, 0)) rfl (fun _ => rfl) rfl ?_
      refine ex_go (S := (82, [(2, .inl 1), (0, gx_r 8), (1, gx_r 191)], [.inl 0, .inl 1, gx_r 11], t276, n, 0)) rfl (fun _ => rfl) rfl ?_
      refine gx_ap rfl (fun _ => rfl) g276 rfl rfl rfl (show 1 < 2 from by omega) rfl (gx_full (by first | decide | omega)) rfl (fun t285 g285 k285 e285 => ?_)
      have k186 : ai_hv t285 8 0 = some (.inl 0) := (e285 8 0 (by first | decide | omega)).trans k177
      have k187 : ai_hv t285 206 5 = some (.inl K) := (e285 206 5 (by first | decide | omega)).trans k178
      have k188 : ai_hv t285 210 0 = some (.inl (B 0)) := (e285 210 0 (by first | decide | omega)).trans k179
      have k189 : ai_hv t285 10 0 = some (.inl (B 0)) := (e285 10 0 (by first | decide | omega)).trans k180
      have k190 : ai_hv t285 11 0 = some (.inl 0) := (e285 11 0 (by first | decide | omega)).trans k181
      have k191 : ai_hv t285 12 0 = some (.inl 0) := (e285 12 0 (by first | decide | omega)).trans k182
      have k192 : ai_hv t285 13 0 = some (.inl 0) := (e285 13 0 (by first | decide | omega)).trans k183
      have k193 : ai_hv t285 14 0 = some (.inl 0) := (e285 14 0 (by first | decide | omega)).trans k184
      have k194 : ai_hv t285 10 1 = some (.inl 0) := (e285 10 1 (by first | decide | omega)).trans k276
      refine ex_go (S := (84, [(2, .inl 1), (0, gx_r 8), (1, gx_r 191)], [gx_r 8], t285, n, 0)) rfl (fun _ => rfl) rfl ?_
      refine gxo_ref (a := 8) (c := 12) rfl g285 rfl rfl rfl rfl rfl ?_
      refine ex_go (S := (88, [(2, .inl 1), (0, gx_r 8), (1, gx_r 191)], [.inl 1, gx_r 12], t285, n, 0)) rfl (fun _ => rfl) rfl ?_
      refine ex_go (S := (89, [(2, .inl 1), (0, gx_r 8), (1, gx_r 191)], [.inl 0, .inl 1, gx_r 12], t285, n, 0)) rfl (fun _ => rfl) rfl ?_
      refine gx_apv (d := 2) rfl (fun _ => rfl) g285 rfl rfl rfl (show 1 < 2 from by omega) rfl (ai_in_h (by first | decide | omega) (by first | decide | omega) (by first | decide | omega)) rfl (fun t295 g295 k295 e295 => ?_)
      have k196 : ai_hv t295 8 0 = some (.inl 0) := (e295 8 0 (by first | decide | omega)).trans k186
      have k197 : ai_hv t295 206 5 = some (.inl K) := (e295 206 5 (by first | decide | omega)).trans k187
      have k198 : ai_hv t295 210 0 = some (.inl (B 0)) := (e295 210 0 (by first | decide | omega)).trans k188
      have k199 : ai_hv t295 10 0 = some (.inl (B 0)) := (e295 10 0 (by first | decide | omega)).trans k189
      have k200 : ai_hv t295 11 0 = some (.inl 0) := (e295 11 0 (by first | decide | omega)).trans k190
      have k201 : ai_hv t295 12 0 = some (.inl 0) := (e295 12 0 (by first | decide | omega)).trans k191
      have k202 : ai_hv t295 13 0 = some (.inl 0) := (e295 13 0 (by first | decide | omega)).trans k192
      have k203 : ai_hv t295 14 0 = some (.inl 0) := (e295 14 0 (by first | decide | omega)).trans k193
      have k204 : ai_hv t295 10 1 = some (.inl 0) := (e295 10 1 (by first | decide | omega)).trans k194
      have k205 : ai_hv t295 11 1 = some (.inl 0) := (e295 11 1 (by first | decide | omega)).trans k285
      refine ex_go (S := (91, [(2, .inl 1), (0, gx_r 8), (1, gx_r 191)], [gx_r 8], t295, n, 0)) rfl (fun _ => rfl) rfl ?_
      refine gxo_ref (a := 8) (c := 13) rfl g295 rfl rfl rfl rfl rfl ?_
      refine ex_go (S := (95, [(2, .inl 1), (0, gx_r 8), (1, gx_r 191)], [.inl 1, gx_r 13], t295, n, 0)) rfl (fun _ => rfl) rfl ?_
      refine ex_go (S := (96, [(2, .inl 1), (0, gx_r 8), (1, gx_r 191)], [.inl 0, .inl 1, gx_r 13], t295, n, 0)) rfl (fun _ => rfl) rfl ?_
      refine gx_apv (d := 2) rfl (fun _ => rfl) g295 rfl rfl rfl (show 1 < 2 from by omega) rfl (ai_in_h (by first | decide | omega) (by first | decide | omega) (by first | decide | omega)) rfl (fun t306 g306 k306 e306 => ?_)
      have k207 : ai_hv t306 8 0 = some (.inl 0) := (e306 8 0 (by first | decide | omega)).trans k196
      have k208 : ai_hv t306 206 5 = some (.inl K) := (e306 206 5 (by first | decide | omega)).trans k197
      have k209 : ai_hv t306 210 0 = some (.inl (B 0)) := (e306 210 0 (by first | decide | omega)).trans k198
      have k210 : ai_hv t306 10 0 = some (.inl (B 0)) := (e306 10 0 (by first | decide | omega)).trans k199
      have k211 : ai_hv t306 11 0 = some (.inl 0) := (e306 11 0 (by first | decide | omega)).trans k200
      have k212 : ai_hv t306 12 0 = some (.inl 0) := (e306 12 0 (by first | decide | omega)).trans k201
      have k213 : ai_hv t306 13 0 = some (.inl 0) := (e306 13 0 (by first | decide | omega)).trans k202
      have k214 : ai_hv t306 14 0 = some (.inl 0) := (e306 14 0 (by first | decide | omega)).trans k203
      have k215 : ai_hv t306 10 1 = some (.inl 0) := (e306 10 1 (by first | decide | omega)).trans k204
      have k216 : ai_hv t306 11 1 = some (.inl 0) := (e306 11 1 (by first | decide | omega)).trans k205
      have k217 : ai_hv t306 12 1 = some (.inl 0) := (e306 12 1 (by first | decide | omega)).trans k295
      refine ex_go (S := (98, [(2, .inl 1), (0, gx_r 8), (1, gx_r 191)], [gx_r 8], t306, n, 0)) rfl (fun _ => rfl) rfl ?_
      refine gxo_ref (a := 8) (c := 14) rfl g306 rfl rfl rfl rfl rfl ?_
      refine ex_go (S := (102, [(2, .inl 1), (0, gx_r 8), (1, gx_r 191)], [.inl 1, gx_r 14], t306, n, 0)) rfl (fun _ => rfl) rfl ?_
      refine ex_go (S := (103, [(2, .inl 1), (0, gx_r 8), (1, gx_r 191)], [.inl 0, .inl 1, gx_r 14], t306, n, 0)) rfl (fun _ => rfl) rfl ?_
      refine gx_ap rfl (fun _ => rfl) g306 rfl rfl rfl (show 1 < 2 from by omega) rfl (ai_in_h (by first | decide | omega) (by first | decide | omega) (by first | decide | omega)) rfl (fun t318 g318 k318 e318 => ?_)
      have k219 : ai_hv t318 8 0 = some (.inl 0) := (e318 8 0 (by first | decide | omega)).trans k207
      have k220 : ai_hv t318 206 5 = some (.inl K) := (e318 206 5 (by first | decide | omega)).trans k208
      have k221 : ai_hv t318 210 0 = some (.inl (B 0)) := (e318 210 0 (by first | decide | omega)).trans k209
      have k222 : ai_hv t318 10 0 = some (.inl (B 0)) := (e318 10 0 (by first | decide | omega)).trans k210
      have k223 : ai_hv t318 11 0 = some (.inl 0) := (e318 11 0 (by first | decide | omega)).trans k211
      have k224 : ai_hv t318 12 0 = some (.inl 0) := (e318 12 0 (by first | decide | omega)).trans k212
      have k225 : ai_hv t318 13 0 = some (.inl 0) := (e318 13 0 (by first | decide | omega)).trans k213
      have k226 : ai_hv t318 14 0 = some (.inl 0) := (e318 14 0 (by first | decide | omega)).trans k214
      have k227 : ai_hv t318 10 1 = some (.inl 0) := (e318 10 1 (by first | decide | omega)).trans k215
      have k228 : ai_hv t318 11 1 = some (.inl 0) := (e318 11 1 (by first | decide | omega)).trans k216
      have k229 : ai_hv t318 12 1 = some (.inl 0) := (e318 12 1 (by first | decide | omega)).trans k217
      have k230 : ai_hv t318 13 1 = some (.inl 0) := (e318 13 1 (by first | decide | omega)).trans k306
      refine ex_go (S := (107, [(2, .inl 2), (0, gx_r 8), (1, gx_r 191)], [], t318, n, 0)) rfl (fun _ => rfl) rfl ?_
      refine ex_go (S := (41, [(2, .inl 2), (0, gx_r 8), (1, gx_r 191)], [], t318, n, 0)) rfl (fun _ => rfl) rfl ?_
      refine ex_go (S := (42, [(2, .inl 2), (0, gx_r 8), (1, gx_r 191)], [.inl 2], t318, n, 0)) rfl (fun _ => rfl) rfl ?_
      refine ex_go (S := (43, [(2, .inl 2), (0, gx_r 8), (1, gx_r 191)], [.inl 2, .inl 2], t318, n, 0)) rfl (fun _ => rfl) rfl ?_
      refine ex_go (S := (110, [(2, .inl 2), (0, gx_r 8), (1, gx_r 191)], [], t318, n, 0)) rfl (fun _ => rfl) rfl ?_
      refine ex_ret (r := (none, t318, n, 0)) rfl (fun _ => rfl) ?_
      refine ⟨_, rfl, t318, rfl, g318, (fun c i h => (e318 c i (by first | decide | omega)).trans ((e306 c i (by first | decide | omega)).trans ((e295 c i (by first | decide | omega)).trans ((e285 c i (by first | decide | omega)).trans ((e276 c i (by first | decide | omega)).trans ((e264 c i (by first | decide | omega)).trans ((e257 c i (by first | decide | omega)).trans ((e251 c i (by first | decide | omega)).trans ((e246 c i (by first | decide | omega)).trans ((e242 c i (by first | decide | omega)).trans ((i102.2 c i (by first | decide | omega)).trans (e101 c i (by first | decide | omega))))))))))))), k219, (fun i hi => (e318 9 i (by first | decide | omega)).trans ((e306 9 i (by first | decide | omega)).trans ((e295 9 i (by first | decide | omega)).trans ((e285 9 i (by first | decide | omega)).trans ((e276 9 i (by first | decide | omega)).trans ((e264 9 i (by first | decide | omega)).trans ((e257 9 i (by first | decide | omega)).trans ((e251 9 i (by first | decide | omega)).trans ((e246 9 i (by first | decide | omega)).trans ((e242 9 i (by first | decide | omega)).trans (i102.1 i hi))))))))))), fun c hc => ?_⟩
      rcases (show c = 0 ∨ c = 1 by omega) with rfl | rfl
      · exact ⟨k222, k223, k224, k225, k226⟩
      · omega
    · refine gx_1f (c := .eq) rfl (by first | decide | omega) hc175 rfl ?_
      refine ex_go (S := (63, [(2, .inl 1), (0, gx_r 8), (1, gx_r 191)], [gx_r 191, .inl 1, gx_r 10], t264, n, 0)) rfl (fun _ => rfl) rfl ?_
      refine gxo_ref (a := 191) (c := 206) rfl g264 rfl rfl rfl rfl rfl ?_
      refine gxo_ref (a := 206) (c := 210) rfl g264 rfl rfl rfl rfl rfl ?_
      refine ex_go (S := (70, [(2, .inl 1), (0, gx_r 8), (1, gx_r 191)], [.inl 1, gx_r 210, .inl 1, gx_r 10], t264, n, 0)) rfl (fun _ => rfl) rfl ?_
      have := hB 1 (by first | decide | omega)
      refine gx_ag (v := .inl (B 1)) (cb := fun c => Nat.beq c 0) rfl (fun _ => rfl) g264 rfl rfl ((e264 210 1 (by first | decide | omega)).trans ((e257 210 1 (by first | decide | omega)).trans ((e251 210 1 (by first | decide | omega)).trans ((e246 210 1 (by first | decide | omega)).trans ((e242 210 1 (by first | decide | omega)).trans ((i102.2 210 1 (by first | decide | omega)).trans ((e101 210 1 (by first | decide | omega)).trans (kB 1 (by first | decide | omega))))))))) (by first | decide | omega) rfl ?_
      refine ex_go (S := (75, [(2, .inl 1), (0, gx_r 8), (1, gx_r 191)], [.inl (B 1), .inl 1, gx_r 10], t264, n, 0)) rfl (fun _ => rfl) rfl ?_
      refine gx_ap rfl (fun _ => rfl) g264 rfl rfl rfl (show 1 < 2 from by omega) rfl (gx_full (by first | decide | omega)) rfl (fun t331 g331 k331 e331 => ?_)
      have k232 : ai_hv t331 8 0 = some (.inl 0) := (e331 8 0 (by first | decide | omega)).trans k165
      have k233 : ai_hv t331 206 5 = some (.inl K) := (e331 206 5 (by first | decide | omega)).trans ((e264 206 5 (by first | decide | omega)).trans ((e257 206 5 (by first | decide | omega)).trans ((e251 206 5 (by first | decide | omega)).trans ((e246 206 5 (by first | decide | omega)).trans ((e242 206 5 (by first | decide | omega)).trans ((i102.2 206 5 (by first | decide | omega)).trans ((e101 206 5 (by first | decide | omega)).trans (kK))))))))
      have k234 : ai_hv t331 210 0 = some (.inl (B 0)) := (e331 210 0 (by first | decide | omega)).trans k167
      have k235 : ai_hv t331 10 0 = some (.inl (B 0)) := (e331 10 0 (by first | decide | omega)).trans k168
      have k236 : ai_hv t331 11 0 = some (.inl 0) := (e331 11 0 (by first | decide | omega)).trans k169
      have k237 : ai_hv t331 12 0 = some (.inl 0) := (e331 12 0 (by first | decide | omega)).trans k170
      have k238 : ai_hv t331 13 0 = some (.inl 0) := (e331 13 0 (by first | decide | omega)).trans k171
      have k239 : ai_hv t331 14 0 = some (.inl 0) := (e331 14 0 (by first | decide | omega)).trans k264
      have k240 : ai_hv t331 210 1 = some (.inl (B 1)) := (e331 210 1 (by first | decide | omega)).trans ((e264 210 1 (by first | decide | omega)).trans ((e257 210 1 (by first | decide | omega)).trans ((e251 210 1 (by first | decide | omega)).trans ((e246 210 1 (by first | decide | omega)).trans ((e242 210 1 (by first | decide | omega)).trans ((i102.2 210 1 (by first | decide | omega)).trans ((e101 210 1 (by first | decide | omega)).trans (kB 1 (by first | decide | omega)))))))))
      refine ex_go (S := (77, [(2, .inl 1), (0, gx_r 8), (1, gx_r 191)], [gx_r 8], t331, n, 0)) rfl (fun _ => rfl) rfl ?_
      refine gxo_ref (a := 8) (c := 11) rfl g331 rfl rfl rfl rfl rfl ?_
      refine ex_go (S := (81, [(2, .inl 1), (0, gx_r 8), (1, gx_r 191)], [.inl 1, gx_r 11], t331, n, 0)) rfl (fun _ => rfl) rfl ?_
      refine ex_go (S := (82, [(2, .inl 1), (0, gx_r 8), (1, gx_r 191)], [.inl 0, .inl 1, gx_r 11], t331, n, 0)) rfl (fun _ => rfl) rfl ?_
      refine gx_ap rfl (fun _ => rfl) g331 rfl rfl rfl (show 1 < 2 from by omega) rfl (gx_full (by first | decide | omega)) rfl (fun t341 g341 k341 e341 => ?_)
      have k242 : ai_hv t341 8 0 = some (.inl 0) := (e341 8 0 (by first | decide | omega)).trans k232
      have k243 : ai_hv t341 206 5 = some (.inl K) := (e341 206 5 (by first | decide | omega)).trans k233
      have k244 : ai_hv t341 210 0 = some (.inl (B 0)) := (e341 210 0 (by first | decide | omega)).trans k234
      have k245 : ai_hv t341 10 0 = some (.inl (B 0)) := (e341 10 0 (by first | decide | omega)).trans k235
      have k246 : ai_hv t341 11 0 = some (.inl 0) := (e341 11 0 (by first | decide | omega)).trans k236
      have k247 : ai_hv t341 12 0 = some (.inl 0) := (e341 12 0 (by first | decide | omega)).trans k237
      have k248 : ai_hv t341 13 0 = some (.inl 0) := (e341 13 0 (by first | decide | omega)).trans k238
      have k249 : ai_hv t341 14 0 = some (.inl 0) := (e341 14 0 (by first | decide | omega)).trans k239
      have k250 : ai_hv t341 210 1 = some (.inl (B 1)) := (e341 210 1 (by first | decide | omega)).trans k240
      have k251 : ai_hv t341 10 1 = some (.inl (B 1)) := (e341 10 1 (by first | decide | omega)).trans k331
      refine ex_go (S := (84, [(2, .inl 1), (0, gx_r 8), (1, gx_r 191)], [gx_r 8], t341, n, 0)) rfl (fun _ => rfl) rfl ?_
      refine gxo_ref (a := 8) (c := 12) rfl g341 rfl rfl rfl rfl rfl ?_
      refine ex_go (S := (88, [(2, .inl 1), (0, gx_r 8), (1, gx_r 191)], [.inl 1, gx_r 12], t341, n, 0)) rfl (fun _ => rfl) rfl ?_
      refine ex_go (S := (89, [(2, .inl 1), (0, gx_r 8), (1, gx_r 191)], [.inl 0, .inl 1, gx_r 12], t341, n, 0)) rfl (fun _ => rfl) rfl ?_
      refine gx_apv (d := 2) rfl (fun _ => rfl) g341 rfl rfl rfl (show 1 < 2 from by omega) rfl (ai_in_h (by first | decide | omega) (by first | decide | omega) (by first | decide | omega)) rfl (fun t352 g352 k352 e352 => ?_)
      have k253 : ai_hv t352 8 0 = some (.inl 0) := (e352 8 0 (by first | decide | omega)).trans k242
      have k254 : ai_hv t352 206 5 = some (.inl K) := (e352 206 5 (by first | decide | omega)).trans k243
      have k255 : ai_hv t352 210 0 = some (.inl (B 0)) := (e352 210 0 (by first | decide | omega)).trans k244
      have k256 : ai_hv t352 10 0 = some (.inl (B 0)) := (e352 10 0 (by first | decide | omega)).trans k245
      have k257 : ai_hv t352 11 0 = some (.inl 0) := (e352 11 0 (by first | decide | omega)).trans k246
      have k258 : ai_hv t352 12 0 = some (.inl 0) := (e352 12 0 (by first | decide | omega)).trans k247
      have k259 : ai_hv t352 13 0 = some (.inl 0) := (e352 13 0 (by first | decide | omega)).trans k248
      have k260 : ai_hv t352 14 0 = some (.inl 0) := (e352 14 0 (by first | decide | omega)).trans k249
      have k261 : ai_hv t352 210 1 = some (.inl (B 1)) := (e352 210 1 (by first | decide | omega)).trans k250
      have k262 : ai_hv t352 10 1 = some (.inl (B 1)) := (e352 10 1 (by first | decide | omega)).trans k251
      have k263 : ai_hv t352 11 1 = some (.inl 0) := (e352 11 1 (by first | decide | omega)).trans k341
      refine ex_go (S := (91, [(2, .inl 1), (0, gx_r 8), (1, gx_r 191)], [gx_r 8], t352, n, 0)) rfl (fun _ => rfl) rfl ?_
      refine gxo_ref (a := 8) (c := 13) rfl g352 rfl rfl rfl rfl rfl ?_
      refine ex_go (S := (95, [(2, .inl 1), (0, gx_r 8), (1, gx_r 191)], [.inl 1, gx_r 13], t352, n, 0)) rfl (fun _ => rfl) rfl ?_
      refine ex_go (S := (96, [(2, .inl 1), (0, gx_r 8), (1, gx_r 191)], [.inl 0, .inl 1, gx_r 13], t352, n, 0)) rfl (fun _ => rfl) rfl ?_
      refine gx_apv (d := 2) rfl (fun _ => rfl) g352 rfl rfl rfl (show 1 < 2 from by omega) rfl (ai_in_h (by first | decide | omega) (by first | decide | omega) (by first | decide | omega)) rfl (fun t364 g364 k364 e364 => ?_)
      have k265 : ai_hv t364 8 0 = some (.inl 0) := (e364 8 0 (by first | decide | omega)).trans k253
      have k266 : ai_hv t364 206 5 = some (.inl K) := (e364 206 5 (by first | decide | omega)).trans k254
      have k267 : ai_hv t364 210 0 = some (.inl (B 0)) := (e364 210 0 (by first | decide | omega)).trans k255
      have k268 : ai_hv t364 10 0 = some (.inl (B 0)) := (e364 10 0 (by first | decide | omega)).trans k256
      have k269 : ai_hv t364 11 0 = some (.inl 0) := (e364 11 0 (by first | decide | omega)).trans k257
      have k270 : ai_hv t364 12 0 = some (.inl 0) := (e364 12 0 (by first | decide | omega)).trans k258
      have k271 : ai_hv t364 13 0 = some (.inl 0) := (e364 13 0 (by first | decide | omega)).trans k259
      have k272 : ai_hv t364 14 0 = some (.inl 0) := (e364 14 0 (by first | decide | omega)).trans k260
      have k273 : ai_hv t364 210 1 = some (.inl (B 1)) := (e364 210 1 (by first | decide | omega)).trans k261
      have k274 : ai_hv t364 10 1 = some (.inl (B 1)) := (e364 10 1 (by first | decide | omega)).trans k262
      have k275 : ai_hv t364 11 1 = some (.inl 0) := (e364 11 1 (by first | decide | omega)).trans k263
      have k276 : ai_hv t364 12 1 = some (.inl 0) := (e364 12 1 (by first | decide | omega)).trans k352
      refine ex_go (S := (98, [(2, .inl 1), (0, gx_r 8), (1, gx_r 191)], [gx_r 8], t364, n, 0)) rfl (fun _ => rfl) rfl ?_
      refine gxo_ref (a := 8) (c := 14) rfl g364 rfl rfl rfl rfl rfl ?_
      refine ex_go (S := (102, [(2, .inl 1), (0, gx_r 8), (1, gx_r 191)], [.inl 1, gx_r 14], t364, n, 0)) rfl (fun _ => rfl) rfl ?_
      refine ex_go (S := (103, [(2, .inl 1), (0, gx_r 8), (1, gx_r 191)], [.inl 0, .inl 1, gx_r 14], t364, n, 0)) rfl (fun _ => rfl) rfl ?_
      refine gx_ap rfl (fun _ => rfl) g364 rfl rfl rfl (show 1 < 2 from by omega) rfl (ai_in_h (by first | decide | omega) (by first | decide | omega) (by first | decide | omega)) rfl (fun t377 g377 k377 e377 => ?_)
      have k278 : ai_hv t377 8 0 = some (.inl 0) := (e377 8 0 (by first | decide | omega)).trans k265
      have k279 : ai_hv t377 206 5 = some (.inl K) := (e377 206 5 (by first | decide | omega)).trans k266
      have k280 : ai_hv t377 210 0 = some (.inl (B 0)) := (e377 210 0 (by first | decide | omega)).trans k267
      have k281 : ai_hv t377 10 0 = some (.inl (B 0)) := (e377 10 0 (by first | decide | omega)).trans k268
      have k282 : ai_hv t377 11 0 = some (.inl 0) := (e377 11 0 (by first | decide | omega)).trans k269
      have k283 : ai_hv t377 12 0 = some (.inl 0) := (e377 12 0 (by first | decide | omega)).trans k270
      have k284 : ai_hv t377 13 0 = some (.inl 0) := (e377 13 0 (by first | decide | omega)).trans k271
      have k285 : ai_hv t377 14 0 = some (.inl 0) := (e377 14 0 (by first | decide | omega)).trans k272
      have k286 : ai_hv t377 210 1 = some (.inl (B 1)) := (e377 210 1 (by first | decide | omega)).trans k273
      have k287 : ai_hv t377 10 1 = some (.inl (B 1)) := (e377 10 1 (by first | decide | omega)).trans k274
      have k288 : ai_hv t377 11 1 = some (.inl 0) := (e377 11 1 (by first | decide | omega)).trans k275
      have k289 : ai_hv t377 12 1 = some (.inl 0) := (e377 12 1 (by first | decide | omega)).trans k276
      have k290 : ai_hv t377 13 1 = some (.inl 0) := (e377 13 1 (by first | decide | omega)).trans k364
      refine ex_go (S := (107, [(2, .inl 2), (0, gx_r 8), (1, gx_r 191)], [], t377, n, 0)) rfl (fun _ => rfl) rfl ?_
      refine ex_go (S := (41, [(2, .inl 2), (0, gx_r 8), (1, gx_r 191)], [], t377, n, 0)) rfl (fun _ => rfl) rfl ?_
      refine ex_go (S := (42, [(2, .inl 2), (0, gx_r 8), (1, gx_r 191)], [.inl 2], t377, n, 0)) rfl (fun _ => rfl) rfl ?_
      refine ex_go (S := (43, [(2, .inl 2), (0, gx_r 8), (1, gx_r 191)], [.inl 2, .inl 2], t377, n, 0)) rfl (fun _ => rfl) rfl ?_
      refine ex_go (S := (110, [(2, .inl 2), (0, gx_r 8), (1, gx_r 191)], [], t377, n, 0)) rfl (fun _ => rfl) rfl ?_
      refine ex_ret (r := (none, t377, n, 0)) rfl (fun _ => rfl) ?_
      refine ⟨_, rfl, t377, rfl, g377, (fun c i h => (e377 c i (by first | decide | omega)).trans ((e364 c i (by first | decide | omega)).trans ((e352 c i (by first | decide | omega)).trans ((e341 c i (by first | decide | omega)).trans ((e331 c i (by first | decide | omega)).trans ((e264 c i (by first | decide | omega)).trans ((e257 c i (by first | decide | omega)).trans ((e251 c i (by first | decide | omega)).trans ((e246 c i (by first | decide | omega)).trans ((e242 c i (by first | decide | omega)).trans ((i102.2 c i (by first | decide | omega)).trans (e101 c i (by first | decide | omega))))))))))))), k278, (fun i hi => (e377 9 i (by first | decide | omega)).trans ((e364 9 i (by first | decide | omega)).trans ((e352 9 i (by first | decide | omega)).trans ((e341 9 i (by first | decide | omega)).trans ((e331 9 i (by first | decide | omega)).trans ((e264 9 i (by first | decide | omega)).trans ((e257 9 i (by first | decide | omega)).trans ((e251 9 i (by first | decide | omega)).trans ((e246 9 i (by first | decide | omega)).trans ((e242 9 i (by first | decide | omega)).trans (i102.1 i hi))))))))))), fun c hc => ?_⟩
      rcases (show c = 0 ∨ c = 1 by omega) with rfl | rfl
      · exact ⟨k281, k282, k283, k284, k285⟩
      · exact ⟨k287, k288, k289, k290, k377⟩
theorem cb_l8_257 (d n : Nat) {tb : en_H} {Q : en_O → Prop} {T : Nat} {P : Nat → Nat} (hT : T ≤ 6) (kT : ai_hv tb 260 5 = some (.inl T)) (kP : ∀ i, i < T → ai_hv tb 263 i = some (.inl (P i))) (hP : ∀ i, i < T → P i ≤ 63) (hQ : ∀ t1, ai_HG ah_G t1 → (∀ i, i < T → ai_hv t1 9 i = some (.inl (P i))) ∧ (∀ c i, ¬ c = 9 → ai_hv t1 c i = ai_hv tb c i) → en_ex none (en_u (d + 1)) (en_code 22) (fun _ => false) (39, [(2, .inl T), (0, gx_r 8), (1, gx_r 257)], [], t1, n, 0) Q) : ∀ j k t0, k + j = T → ai_HG ah_G t0 → (∀ i, i < k → ai_hv t0 9 i = some (.inl (P i))) ∧ (∀ c i, ¬ c = 9 → ai_hv t0 c i = ai_hv tb c i) → en_ex none (en_u (d + 1)) (en_code 22) (fun _ => false) (7, [(2, .inl k), (0, gx_r 8), (1, gx_r 257)], [], t0, n, 0) Q := by
  intro j
  induction j with
  | zero =>
    intro k t0 hk g0 i0
    have hk : k = T := by omega
    subst hk
    have kc := (i0.2 260 5 (by first | decide | omega)).trans kT
    refine ex_go (S := (8, [(2, .inl k), (0, gx_r 8), (1, gx_r 257)], [.inl k], t0, n, 0)) rfl (fun _ => rfl) rfl ?_
    refine ex_go (S := (9, [(2, .inl k), (0, gx_r 8), (1, gx_r 257)], [gx_r 257, .inl k], t0, n, 0)) rfl (fun _ => rfl) rfl ?_
    refine gxo_ref (a := 257) (c := 260) rfl g0 rfl rfl rfl rfl rfl ?_
    refine gxo_get (a := 260) rfl g0 rfl rfl kc rfl ?_
    refine gx_2t (c := .ge) rfl (by first | decide | omega) (by first | decide | omega) (show k ≤ k from by omega) rfl ?_
    exact hQ t0 g0 i0
  | succ j ih =>
    intro k t0 hk g0 i0
    have kc := (i0.2 260 5 (by first | decide | omega)).trans kT
    have kq := (i0.2 263 k (by first | decide | omega)).trans (kP k (by first | decide | omega))
    have hq := hP k (by first | decide | omega)
    refine ex_go (S := (8, [(2, .inl k), (0, gx_r 8), (1, gx_r 257)], [.inl k], t0, n, 0)) rfl (fun _ => rfl) rfl ?_
    refine ex_go (S := (9, [(2, .inl k), (0, gx_r 8), (1, gx_r 257)], [gx_r 257, .inl k], t0, n, 0)) rfl (fun _ => rfl) rfl ?_
    refine gxo_ref (a := 257) (c := 260) rfl g0 rfl rfl rfl rfl rfl ?_
    refine gxo_get (a := 260) rfl g0 rfl rfl kc rfl ?_
    refine gx_2f (c := .ge) rfl (by first | decide | omega) (by first | decide | omega) (show ¬ (T ≤ k) from by omega) rfl ?_
    refine ex_go (S := (19, [(2, .inl k), (0, gx_r 8), (1, gx_r 257)], [gx_r 8], t0, n, 0)) rfl (fun _ => rfl) rfl ?_
    refine gxo_ref (a := 8) (c := 9) rfl g0 rfl rfl rfl rfl rfl ?_
    refine ex_go (S := (23, [(2, .inl k), (0, gx_r 8), (1, gx_r 257)], [.inl k, gx_r 9], t0, n, 0)) rfl (fun _ => rfl) rfl ?_
    refine ex_go (S := (24, [(2, .inl k), (0, gx_r 8), (1, gx_r 257)], [gx_r 257, .inl k, gx_r 9], t0, n, 0)) rfl (fun _ => rfl) rfl ?_
    refine gxo_ref (a := 257) (c := 260) rfl g0 rfl rfl rfl rfl rfl ?_
    refine gxo_ref (a := 260) (c := 263) rfl g0 rfl rfl rfl rfl rfl ?_
    refine ex_go (S := (31, [(2, .inl k), (0, gx_r 8), (1, gx_r 257)], [.inl k, gx_r 263, .inl k, gx_r 9], t0, n, 0)) rfl (fun _ => rfl) rfl ?_
    refine gx_ag (v := .inl (P k)) (cb := fun c => Nat.beq c 0) rfl (fun _ => rfl) g0 rfl rfl kq (by first | decide | omega) rfl ?_
    refine gx_ap rfl (fun _ => rfl) g0 rfl rfl rfl (show k < 6 from by omega) (gx_run1 (show k < 6 from by omega)) (ai_in_h (by first | decide | omega) (by first | decide | omega) (by first | decide | omega)) rfl (fun t101 g101 k101 e101 => ?_)
    have k2 : ai_hv t101 260 5 = some (.inl T) := (e101 260 5 (by first | decide | omega)).trans kc
    have k3 : ai_hv t101 263 k = some (.inl (P k)) := (e101 263 k (by first | decide | omega)).trans kq
    refine gx_iinc (i := 2) (k := 1) rfl (fun _ => rfl) (by first | decide | omega) rfl ?_
    show en_ex _ _ _ _ (36, [(2, .inl (k + 1)), (0, gx_r 8), (1, gx_r 257)], [], t101, n, 0) _
    refine ex_go (S := (7, [(2, .inl (k + 1)), (0, gx_r 8), (1, gx_r 257)], [], t101, n, 0)) rfl (fun _ => rfl) rfl ?_
    refine ih (k + 1) t101 (by first | decide | omega) g101 ⟨fun i hi => ?_, fun c i h => (e101 c i (by first | decide | omega)).trans (i0.2 c i h)⟩
    by_cases e9 : i = k
    · rw [e9]; exact k101
    · exact (e101 9 i (by first | decide | omega)).trans (i0.1 i (by first | decide | omega))
theorem pc_begin8_257 (d n : Nat) {t0 : en_H} (g0 : ai_HG ah_G t0) {T : Nat} {P : Nat → Nat} (hT : T ≤ 6) (kT : ai_hv t0 260 5 = some (.inl T)) (kP : ∀ i, i < T → ai_hv t0 263 i = some (.inl (P i))) (hP : ∀ i, i < T → P i ≤ 63) {K : Nat} {B : Nat → Nat} (hK : K ≤ 2) (kK : ai_hv t0 272 5 = some (.inl K)) (kB : ∀ c, c < K → ai_hv t0 276 c = some (.inl (B c))) (hB : ∀ c, c < K → B c ≤ 9999) : ∃ r, en_u (d + 2) 22 [gx_r 8, gx_r 257] t0 n = some r ∧ ∃ t', r = (none, t', n, 0) ∧ ai_HG ah_G t' ∧ (∀ c i, ¬ (8 ≤ c ∧ c ≤ 14) → ai_hv t' c i = ai_hv t0 c i) ∧ ai_hv t' 8 0 = some (.inl 0) ∧ (∀ i, i < T → ai_hv t' 9 i = some (.inl (P i))) ∧ ∀ c, c < K → ai_hv t' 10 c = some (.inl (B c)) ∧ ai_hv t' 11 c = some (.inl 0) ∧ ai_hv t' 12 c = some (.inl 0) ∧ ai_hv t' 13 c = some (.inl 0) ∧ ai_hv t' 14 c = some (.inl 0) := by
  refine en_u_ex (d := d + 1) rfl ?_
  show en_ex _ _ _ _ (0, [(0, gx_r 8), (1, gx_r 257)], [], t0, n, 0) _
  refine ex_go (S := (1, [(0, gx_r 8), (1, gx_r 257)], [gx_r 8], t0, n, 0)) rfl (fun _ => rfl) rfl ?_
  refine ex_go (S := (2, [(0, gx_r 8), (1, gx_r 257)], [.inl 0, gx_r 8], t0, n, 0)) rfl (fun _ => rfl) rfl ?_
  refine gxo_put (a := 8) rfl g0 rfl rfl rfl (gx_full (by first | decide | omega)) rfl (fun t101 g101 k101 e101 => ?_)
  refine ex_go (S := (6, [(0, gx_r 8), (1, gx_r 257)], [.inl 0], t101, n, 0)) rfl (fun _ => rfl) rfl ?_
  refine ex_go (S := (7, [(2, .inl 0), (0, gx_r 8), (1, gx_r 257)], [], t101, n, 0)) rfl (fun _ => rfl) rfl ?_
  refine cb_l8_257 d n (tb := t101) hT ((e101 260 5 (by first | decide | omega)).trans (kT)) (fun i hi => (e101 263 i (by first | decide | omega)).trans (kP i hi)) hP (fun t102 g102 i102 => ?_) T 0 _ (by first | decide | omega) g101 ⟨fun i hi => absurd hi (Nat.not_lt_zero i), fun _ _ _ => rfl⟩
  have k3 : ai_hv t102 8 0 = some (.inl 0) := (i102.2 8 0 (by first | decide | omega)).trans k101
  refine ex_go (S := (40, [(2, .inl T), (0, gx_r 8), (1, gx_r 257)], [.inl 0], t102, n, 0)) rfl (fun _ => rfl) rfl ?_
  refine ex_go (S := (41, [(2, .inl 0), (0, gx_r 8), (1, gx_r 257)], [], t102, n, 0)) rfl (fun _ => rfl) rfl ?_
  refine ex_go (S := (42, [(2, .inl 0), (0, gx_r 8), (1, gx_r 257)], [.inl 0], t102, n, 0)) rfl (fun _ => rfl) rfl ?_
  refine ex_go (S := (43, [(2, .inl 0), (0, gx_r 8), (1, gx_r 257)], [.inl 2, .inl 0], t102, n, 0)) rfl (fun _ => rfl) rfl ?_
  refine ex_go (S := (46, [(2, .inl 0), (0, gx_r 8), (1, gx_r 257)], [], t102, n, 0)) rfl (fun _ => rfl) rfl ?_
  refine ex_go (S := (47, [(2, .inl 0), (0, gx_r 8), (1, gx_r 257)], [gx_r 8], t102, n, 0)) rfl (fun _ => rfl) rfl ?_
  refine gxo_ref (a := 8) (c := 10) rfl g102 rfl rfl rfl rfl rfl ?_
  refine ex_go (S := (51, [(2, .inl 0), (0, gx_r 8), (1, gx_r 257)], [.inl 0, gx_r 10], t102, n, 0)) rfl (fun _ => rfl) rfl ?_
  refine ex_go (S := (52, [(2, .inl 0), (0, gx_r 8), (1, gx_r 257)], [gx_r 257, .inl 0, gx_r 10], t102, n, 0)) rfl (fun _ => rfl) rfl ?_
  refine gxo_ref (a := 257) (c := 272) rfl g102 rfl rfl rfl rfl rfl ?_
  refine ex_go (S := (56, [(2, .inl 0), (0, gx_r 8), (1, gx_r 257)], [.inl 0, gx_r 272, .inl 0, gx_r 10], t102, n, 0)) rfl (fun _ => rfl) rfl ?_
  obtain ⟨_, r4, b5, rfl, b5b, q6⟩ := pz_holds272 (d) n (x := 0) g102 (by first | decide | omega) ((i102.2 272 5 (by first | decide | omega)).trans ((e101 272 5 (by first | decide | omega)).trans (kK))) (by first | decide | omega)
  refine gx_callo (a := 272) rfl rfl g102 rfl rfl rfl r4 rfl ?_
  show en_ex _ _ _ _ (59, [(2, .inl 0), (0, gx_r 8), (1, gx_r 257)], [.inl b5, .inl 0, gx_r 10], t102, n, 0) _
  by_cases hc7 : b5 = 0
  · refine gx_1t (c := .eq) rfl (by first | decide | omega) hc7 rfl ?_
    refine ex_go (S := (75, [(2, .inl 0), (0, gx_r 8), (1, gx_r 257)], [.inl 0, .inl 0, gx_r 10], t102, n, 0)) rfl (fun _ => rfl) rfl ?_
    refine gx_ap rfl (fun _ => rfl) g102 rfl rfl rfl (show 0 < 2 from by omega) rfl (gx_full (by first | decide | omega)) rfl (fun t108 g108 k108 e108 => ?_)
    have k9 : ai_hv t108 8 0 = some (.inl 0) := (e108 8 0 (by first | decide | omega)).trans k3
    have k10 : ai_hv t108 272 5 = some (.inl K) := (e108 272 5 (by first | decide | omega)).trans ((i102.2 272 5 (by first | decide | omega)).trans ((e101 272 5 (by first | decide | omega)).trans (kK)))
    refine ex_go (S := (77, [(2, .inl 0), (0, gx_r 8), (1, gx_r 257)], [gx_r 8], t108, n, 0)) rfl (fun _ => rfl) rfl ?_
    refine gxo_ref (a := 8) (c := 11) rfl g108 rfl rfl rfl rfl rfl ?_
    refine ex_go (S := (81, [(2, .inl 0), (0, gx_r 8), (1, gx_r 257)], [.inl 0, gx_r 11], t108, n, 0)) rfl (fun _ => rfl) rfl ?_
    refine ex_go (S := (82, [(2, .inl 0), (0, gx_r 8), (1, gx_r 257)], [.inl 0, .inl 0, gx_r 11], t108, n, 0)) rfl (fun _ => rfl) rfl ?_
    refine gx_ap rfl (fun _ => rfl) g108 rfl rfl rfl (show 0 < 2 from by omega) rfl (gx_full (by first | decide | omega)) rfl (fun t111 g111 k111 e111 => ?_)
    have k12 : ai_hv t111 8 0 = some (.inl 0) := (e111 8 0 (by first | decide | omega)).trans k9
    have k13 : ai_hv t111 272 5 = some (.inl K) := (e111 272 5 (by first | decide | omega)).trans k10
    have k14 : ai_hv t111 10 0 = some (.inl 0) := (e111 10 0 (by first | decide | omega)).trans k108
    refine ex_go (S := (84, [(2, .inl 0), (0, gx_r 8), (1, gx_r 257)], [gx_r 8], t111, n, 0)) rfl (fun _ => rfl) rfl ?_
    refine gxo_ref (a := 8) (c := 12) rfl g111 rfl rfl rfl rfl rfl ?_
    refine ex_go (S := (88, [(2, .inl 0), (0, gx_r 8), (1, gx_r 257)], [.inl 0, gx_r 12], t111, n, 0)) rfl (fun _ => rfl) rfl ?_
    refine ex_go (S := (89, [(2, .inl 0), (0, gx_r 8), (1, gx_r 257)], [.inl 0, .inl 0, gx_r 12], t111, n, 0)) rfl (fun _ => rfl) rfl ?_
    refine gx_apv (d := 2) rfl (fun _ => rfl) g111 rfl rfl rfl (show 0 < 2 from by omega) rfl (ai_in_h (by first | decide | omega) (by first | decide | omega) (by first | decide | omega)) rfl (fun t115 g115 k115 e115 => ?_)
    have k16 : ai_hv t115 8 0 = some (.inl 0) := (e115 8 0 (by first | decide | omega)).trans k12
    have k17 : ai_hv t115 272 5 = some (.inl K) := (e115 272 5 (by first | decide | omega)).trans k13
    have k18 : ai_hv t115 10 0 = some (.inl 0) := (e115 10 0 (by first | decide | omega)).trans k14
    have k19 : ai_hv t115 11 0 = some (.inl 0) := (e115 11 0 (by first | decide | omega)).trans k111
    refine ex_go (S := (91, [(2, .inl 0), (0, gx_r 8), (1, gx_r 257)], [gx_r 8], t115, n, 0)) rfl (fun _ => rfl) rfl ?_
    refine gxo_ref (a := 8) (c := 13) rfl g115 rfl rfl rfl rfl rfl ?_
    refine ex_go (S := (95, [(2, .inl 0), (0, gx_r 8), (1, gx_r 257)], [.inl 0, gx_r 13], t115, n, 0)) rfl (fun _ => rfl) rfl ?_
    refine ex_go (S := (96, [(2, .inl 0), (0, gx_r 8), (1, gx_r 257)], [.inl 0, .inl 0, gx_r 13], t115, n, 0)) rfl (fun _ => rfl) rfl ?_
    refine gx_apv (d := 2) rfl (fun _ => rfl) g115 rfl rfl rfl (show 0 < 2 from by omega) rfl (ai_in_h (by first | decide | omega) (by first | decide | omega) (by first | decide | omega)) rfl (fun t120 g120 k120 e120 => ?_)
    have k21 : ai_hv t120 8 0 = some (.inl 0) := (e120 8 0 (by first | decide | omega)).trans k16
    have k22 : ai_hv t120 272 5 = some (.inl K) := (e120 272 5 (by first | decide | omega)).trans k17
    have k23 : ai_hv t120 10 0 = some (.inl 0) := (e120 10 0 (by first | decide | omega)).trans k18
    have k24 : ai_hv t120 11 0 = some (.inl 0) := (e120 11 0 (by first | decide | omega)).trans k19
    have k25 : ai_hv t120 12 0 = some (.inl 0) := (e120 12 0 (by first | decide | omega)).trans k115
    refine ex_go (S := (98, [(2, .inl 0), (0, gx_r 8), (1, gx_r 257)], [gx_r 8], t120, n, 0)) rfl (fun _ => rfl) rfl ?_
    refine gxo_ref (a := 8) (c := 14) rfl g120 rfl rfl rfl rfl rfl ?_
    refine ex_go (S := (102, [(2, .inl 0), (0, gx_r 8), (1, gx_r 257)], [.inl 0, gx_r 14], t120, n, 0)) rfl (fun _ => rfl) rfl ?_
    refine ex_go (S := (103, [(2, .inl 0), (0, gx_r 8), (1, gx_r 257)], [.inl 0, .inl 0, gx_r 14], t120, n, 0)) rfl (fun _ => rfl) rfl ?_
    refine gx_ap rfl (fun _ => rfl) g120 rfl rfl rfl (show 0 < 2 from by omega) rfl (ai_in_h (by first | decide | omega) (by first | decide | omega) (by first | decide | omega)) rfl (fun t126 g126 k126 e126 => ?_)
    have k27 : ai_hv t126 8 0 = some (.inl 0) := (e126 8 0 (by first | decide | omega)).trans k21
    have k28 : ai_hv t126 272 5 = some (.inl K) := (e126 272 5 (by first | decide | omega)).trans k22
    have k29 : ai_hv t126 10 0 = some (.inl 0) := (e126 10 0 (by first | decide | omega)).trans k23
    have k30 : ai_hv t126 11 0 = some (.inl 0) := (e126 11 0 (by first | decide | omega)).trans k24
    have k31 : ai_hv t126 12 0 = some (.inl 0) := (e126 12 0 (by first | decide | omega)).trans k25
    have k32 : ai_hv t126 13 0 = some (.inl 0) := (e126 13 0 (by first | decide | omega)).trans k120
    refine ex_go (S := (107, [(2, .inl 1), (0, gx_r 8), (1, gx_r 257)], [], t126, n, 0)) rfl (fun _ => rfl) rfl ?_
    refine ex_go (S := (41, [(2, .inl 1), (0, gx_r 8), (1, gx_r 257)], [], t126, n, 0)) rfl (fun _ => rfl) rfl ?_
    refine ex_go (S := (42, [(2, .inl 1), (0, gx_r 8), (1, gx_r 257)], [.inl 1], t126, n, 0)) rfl (fun _ => rfl) rfl ?_
    refine ex_go (S := (43, [(2, .inl 1), (0, gx_r 8), (1, gx_r 257)], [.inl 2, .inl 1], t126, n, 0)) rfl (fun _ => rfl) rfl ?_
    refine ex_go (S := (46, [(2, .inl 1), (0, gx_r 8), (1, gx_r 257)], [], t126, n, 0)) rfl (fun _ => rfl) rfl ?_
    refine ex_go (S := (47, [(2, .inl 1), (0, gx_r 8), (1, gx_r 257)], [gx_r 8], t126, n, 0)) rfl (fun _ => rfl) rfl ?_
    refine gxo_ref (a := 8) (c := 10) rfl g126 rfl rfl rfl rfl rfl ?_
    refine ex_go (S := (51, [(2, .inl 1), (0, gx_r 8), (1, gx_r 257)], [.inl 1, gx_r 10], t126, n, 0)) rfl (fun _ => rfl) rfl ?_
    refine ex_go (S := (52, [(2, .inl 1), (0, gx_r 8), (1, gx_r 257)], [gx_r 257, .inl 1, gx_r 10], t126, n, 0)) rfl (fun _ => rfl) rfl ?_
    refine gxo_ref (a := 257) (c := 272) rfl g126 rfl rfl rfl rfl rfl ?_
    refine ex_go (S := (56, [(2, .inl 1), (0, gx_r 8), (1, gx_r 257)], [.inl 1, gx_r 272, .inl 1, gx_r 10], t126, n, 0)) rfl (fun _ => rfl) rfl ?_
    obtain ⟨_, r33, b34, rfl, b34b, q35⟩ := pz_holds272 (d) n (x := 1) g126 (by first | decide | omega) ((e126 272 5 (by first | decide | omega)).trans ((e120 272 5 (by first | decide | omega)).trans ((e115 272 5 (by first | decide | omega)).trans ((e111 272 5 (by first | decide | omega)).trans ((e108 272 5 (by first | decide | omega)).trans ((i102.2 272 5 (by first | decide | omega)).trans ((e101 272 5 (by first | decide | omega)).trans (kK)))))))) (by first | decide | omega)
    refine gx_callo (a := 272) rfl rfl g126 rfl rfl rfl r33 rfl ?_
    show en_ex _ _ _ _ (59, [(2, .inl 1), (0, gx_r 8), (1, gx_r 257)], [.inl b34, .inl 1, gx_r 10], t126, n, 0) _
    by_cases hc36 : b34 = 0
    · refine gx_1t (c := .eq) rfl (by first | decide | omega) hc36 rfl ?_
      refine ex_go (S := (75, [(2, .inl 1), (0, gx_r 8), (1, gx_r 257)], [.inl 0, .inl 1, gx_r 10], t126, n, 0)) rfl (fun _ => rfl) rfl ?_
      refine gx_ap rfl (fun _ => rfl) g126 rfl rfl rfl (show 1 < 2 from by omega) rfl (gx_full (by first | decide | omega)) rfl (fun t137 g137 k137 e137 => ?_)
      have k38 : ai_hv t137 8 0 = some (.inl 0) := (e137 8 0 (by first | decide | omega)).trans k27
      have k39 : ai_hv t137 272 5 = some (.inl K) := (e137 272 5 (by first | decide | omega)).trans ((e126 272 5 (by first | decide | omega)).trans ((e120 272 5 (by first | decide | omega)).trans ((e115 272 5 (by first | decide | omega)).trans ((e111 272 5 (by first | decide | omega)).trans ((e108 272 5 (by first | decide | omega)).trans ((i102.2 272 5 (by first | decide | omega)).trans ((e101 272 5 (by first | decide | omega)).trans (kK))))))))
      have k40 : ai_hv t137 10 0 = some (.inl 0) := (e137 10 0 (by first | decide | omega)).trans k29
      have k41 : ai_hv t137 11 0 = some (.inl 0) := (e137 11 0 (by first | decide | omega)).trans k30
      have k42 : ai_hv t137 12 0 = some (.inl 0) := (e137 12 0 (by first | decide | omega)).trans k31
      have k43 : ai_hv t137 13 0 = some (.inl 0) := (e137 13 0 (by first | decide | omega)).trans k32
      have k44 : ai_hv t137 14 0 = some (.inl 0) := (e137 14 0 (by first | decide | omega)).trans k126
      refine ex_go (S := (77, [(2, .inl 1), (0, gx_r 8), (1, gx_r 257)], [gx_r 8], t137, n, 0)) rfl (fun _ => rfl) rfl ?_
      refine gxo_ref (a := 8) (c := 11) rfl g137 rfl rfl rfl rfl rfl ?_
      refine ex_go (S := (81, [(2, .inl 1), (0, gx_r 8), (1, gx_r 257)], [.inl 1, gx_r 11], t137, n, 0)) rfl (fun _ => rfl) rfl ?_
      refine ex_go (S := (82, [(2, .inl 1), (0, gx_r 8), (1, gx_r 257)], [.inl 0, .inl 1, gx_r 11], t137, n, 0)) rfl (fun _ => rfl) rfl ?_
      refine gx_ap rfl (fun _ => rfl) g137 rfl rfl rfl (show 1 < 2 from by omega) rfl (gx_full (by first | decide | omega)) rfl (fun t145 g145 k145 e145 => ?_)
      have k46 : ai_hv t145 8 0 = some (.inl 0) := (e145 8 0 (by first | decide | omega)).trans k38
      have k47 : ai_hv t145 272 5 = some (.inl K) := (e145 272 5 (by first | decide | omega)).trans k39
      have k48 : ai_hv t145 10 0 = some (.inl 0) := (e145 10 0 (by first | decide | omega)).trans k40
      have k49 : ai_hv t145 11 0 = some (.inl 0) := (e145 11 0 (by first | decide | omega)).trans k41
      have k50 : ai_hv t145 12 0 = some (.inl 0) := (e145 12 0 (by first | decide | omega)).trans k42
      have k51 : ai_hv t145 13 0 = some (.inl 0) := (e145 13 0 (by first | decide | omega)).trans k43
      have k52 : ai_hv t145 14 0 = some (.inl 0) := (e145 14 0 (by first | decide | omega)).trans k44
      have k53 : ai_hv t145 10 1 = some (.inl 0) := (e145 10 1 (by first | decide | omega)).trans k137
      refine ex_go (S := (84, [(2, .inl 1), (0, gx_r 8), (1, gx_r 257)], [gx_r 8], t145, n, 0)) rfl (fun _ => rfl) rfl ?_
      refine gxo_ref (a := 8) (c := 12) rfl g145 rfl rfl rfl rfl rfl ?_
      refine ex_go (S := (88, [(2, .inl 1), (0, gx_r 8), (1, gx_r 257)], [.inl 1, gx_r 12], t145, n, 0)) rfl (fun _ => rfl) rfl ?_
      refine ex_go (S := (89, [(2, .inl 1), (0, gx_r 8), (1, gx_r 257)], [.inl 0, .inl 1, gx_r 12], t145, n, 0)) rfl (fun _ => rfl) rfl ?_
      refine gx_apv (d := 2) rfl (fun _ => rfl) g145 rfl rfl rfl (show 1 < 2 from by omega) rfl (ai_in_h (by first | decide | omega) (by first | decide | omega) (by first | decide | omega)) rfl (fun t154 g154 k154 e154 => ?_)
      have k55 : ai_hv t154 8 0 = some (.inl 0) := (e154 8 0 (by first | decide | omega)).trans k46
      have k56 : ai_hv t154 272 5 = some (.inl K) := (e154 272 5 (by first | decide | omega)).trans k47
      have k57 : ai_hv t154 10 0 = some (.inl 0) := (e154 10 0 (by first | decide | omega)).trans k48
      have k58 : ai_hv t154 11 0 = some (.inl 0) := (e154 11 0 (by first | decide | omega)).trans k49
      have k59 : ai_hv t154 12 0 = some (.inl 0) := (e154 12 0 (by first | decide | omega)).trans k50
      have k60 : ai_hv t154 13 0 = some (.inl 0) := (e154 13 0 (by first | decide | omega)).trans k51
      have k61 : ai_hv t154 14 0 = some (.inl 0) := (e154 14 0 (by first | decide | omega)).trans k52
      have k62 : ai_hv t154 10 1 = some (.inl 0) := (e154 10 1 (by first | decide | omega)).trans k53
      have k63 : ai_hv t154 11 1 = some (.inl 0) := (e154 11 1 (by first | decide | omega)).trans k145
      refine ex_go (S := (91, [(2, .inl 1), (0, gx_r 8), (1, gx_r 257)], [gx_r 8], t154, n, 0)) rfl (fun _ => rfl) rfl ?_
      refine gxo_ref (a := 8) (c := 13) rfl g154 rfl rfl rfl rfl rfl ?_
      refine ex_go (S := (95, [(2, .inl 1), (0, gx_r 8), (1, gx_r 257)], [.inl 1, gx_r 13], t154, n, 0)) rfl (fun _ => rfl) rfl ?_
      refine ex_go (S := (96, [(2, .inl 1), (0, gx_r 8), (1, gx_r 257)], [.inl 0, .inl 1, gx_r 13], t154, n, 0)) rfl (fun _ => rfl) rfl ?_
      refine gx_apv (d := 2) rfl (fun _ => rfl) g154 rfl rfl rfl (show 1 < 2 from by omega) rfl (ai_in_h (by first | decide | omega) (by first | decide | omega) (by first | decide | omega)) rfl (fun t164 g164 k164 e164 => ?_)
      have k65 : ai_hv t164 8 0 = some (.inl 0) := (e164 8 0 (by first | decide | omega)).trans k55
      have k66 : ai_hv t164 272 5 = some (.inl K) := (e164 272 5 (by first | decide | omega)).trans k56
      have k67 : ai_hv t164 10 0 = some (.inl 0) := (e164 10 0 (by first | decide | omega)).trans k57
      have k68 : ai_hv t164 11 0 = some (.inl 0) := (e164 11 0 (by first | decide | omega)).trans k58
      have k69 : ai_hv t164 12 0 = some (.inl 0) := (e164 12 0 (by first | decide | omega)).trans k59
      have k70 : ai_hv t164 13 0 = some (.inl 0) := (e164 13 0 (by first | decide | omega)).trans k60
      have k71 : ai_hv t164 14 0 = some (.inl 0) := (e164 14 0 (by first | decide | omega)).trans k61
      have k72 : ai_hv t164 10 1 = some (.inl 0) := (e164 10 1 (by first | decide | omega)).trans k62
      have k73 : ai_hv t164 11 1 = some (.inl 0) := (e164 11 1 (by first | decide | omega)).trans k63
      have k74 : ai_hv t164 12 1 = some (.inl 0) := (e164 12 1 (by first | decide | omega)).trans k154
      refine ex_go (S := (98, [(2, .inl 1), (0, gx_r 8), (1, gx_r 257)], [gx_r 8], t164, n, 0)) rfl (fun _ => rfl) rfl ?_
      refine gxo_ref (a := 8) (c := 14) rfl g164 rfl rfl rfl rfl rfl ?_
      refine ex_go (S := (102, [(2, .inl 1), (0, gx_r 8), (1, gx_r 257)], [.inl 1, gx_r 14], t164, n, 0)) rfl (fun _ => rfl) rfl ?_
      refine ex_go (S := (103, [(2, .inl 1), (0, gx_r 8), (1, gx_r 257)], [.inl 0, .inl 1, gx_r 14], t164, n, 0)) rfl (fun _ => rfl) rfl ?_
      refine gx_ap rfl (fun _ => rfl) g164 rfl rfl rfl (show 1 < 2 from by omega) rfl (ai_in_h (by first | decide | omega) (by first | decide | omega) (by first | decide | omega)) rfl (fun t175 g175 k175 e175 => ?_)
      have k76 : ai_hv t175 8 0 = some (.inl 0) := (e175 8 0 (by first | decide | omega)).trans k65
      have k77 : ai_hv t175 272 5 = some (.inl K) := (e175 272 5 (by first | decide | omega)).trans k66
      have k78 : ai_hv t175 10 0 = some (.inl 0) := (e175 10 0 (by first | decide | omega)).trans k67
      have k79 : ai_hv t175 11 0 = some (.inl 0) := (e175 11 0 (by first | decide | omega)).trans k68
      have k80 : ai_hv t175 12 0 = some (.inl 0) := (e175 12 0 (by first | decide | omega)).trans k69
      have k81 : ai_hv t175 13 0 = some (.inl 0) := (e175 13 0 (by first | decide | omega)).trans k70
      have k82 : ai_hv t175 14 0 = some (.inl 0) := (e175 14 0 (by first | decide | omega)).trans k71
      have k83 : ai_hv t175 10 1 = some (.inl 0) := (e175 10 1 (by first | decide | omega)).trans k72
      have k84 : ai_hv t175 11 1 = some (.inl 0) := (e175 11 1 (by first | decide | omega)).trans k73
      have k85 : ai_hv t175 12 1 = some (.inl 0) := (e175 12 1 (by first | decide | omega)).trans k74
      have k86 : ai_hv t175 13 1 = some (.inl 0) := (e175 13 1 (by first | decide | omega)).trans k164
      refine ex_go (S := (107, [(2, .inl 2), (0, gx_r 8), (1, gx_r 257)], [], t175, n, 0)) rfl (fun _ => rfl) rfl ?_
      refine ex_go (S := (41, [(2, .inl 2), (0, gx_r 8), (1, gx_r 257)], [], t175, n, 0)) rfl (fun _ => rfl) rfl ?_
      refine ex_go (S := (42, [(2, .inl 2), (0, gx_r 8), (1, gx_r 257)], [.inl 2], t175, n, 0)) rfl (fun _ => rfl) rfl ?_
      refine ex_go (S := (43, [(2, .inl 2), (0, gx_r 8), (1, gx_r 257)], [.inl 2, .inl 2], t175, n, 0)) rfl (fun _ => rfl) rfl ?_
      refine ex_go (S := (110, [(2, .inl 2), (0, gx_r 8), (1, gx_r 257)], [], t175, n, 0)) rfl (fun _ => rfl) rfl ?_
      refine ex_ret (r := (none, t175, n, 0)) rfl (fun _ => rfl) ?_
      refine ⟨_, rfl, t175, rfl, g175, (fun c i h => (e175 c i (by first | decide | omega)).trans ((e164 c i (by first | decide | omega)).trans ((e154 c i (by first | decide | omega)).trans ((e145 c i (by first | decide | omega)).trans ((e137 c i (by first | decide | omega)).trans ((e126 c i (by first | decide | omega)).trans ((e120 c i (by first | decide | omega)).trans ((e115 c i (by first | decide | omega)).trans ((e111 c i (by first | decide | omega)).trans ((e108 c i (by first | decide | omega)).trans ((i102.2 c i (by first | decide | omega)).trans (e101 c i (by first | decide | omega))))))))))))), k76, (fun i hi => (e175 9 i (by first | decide | omega)).trans ((e164 9 i (by first | decide | omega)).trans ((e154 9 i (by first | decide | omega)).trans ((e145 9 i (by first | decide | omega)).trans ((e137 9 i (by first | decide | omega)).trans ((e126 9 i (by first | decide | omega)).trans ((e120 9 i (by first | decide | omega)).trans ((e115 9 i (by first | decide | omega)).trans ((e111 9 i (by first | decide | omega)).trans ((e108 9 i (by first | decide | omega)).trans (i102.1 i hi))))))))))), fun c hc => ?_⟩
      rcases (show c = 0 ∨ c = 1 by omega) with rfl | rfl
      · omega
      · omega
    · refine gx_1f (c := .eq) rfl (by first | decide | omega) hc36 rfl ?_
      refine ex_go (S := (63, [(2, .inl 1), (0, gx_r 8), (1, gx_r 257)], [gx_r 257, .inl 1, gx_r 10], t126, n, 0)) rfl (fun _ => rfl) rfl ?_
      refine gxo_ref (a := 257) (c := 272) rfl g126 rfl rfl rfl rfl rfl ?_
      refine gxo_ref (a := 272) (c := 276) rfl g126 rfl rfl rfl rfl rfl ?_
      refine ex_go (S := (70, [(2, .inl 1), (0, gx_r 8), (1, gx_r 257)], [.inl 1, gx_r 276, .inl 1, gx_r 10], t126, n, 0)) rfl (fun _ => rfl) rfl ?_
      have := hB 1 (by first | decide | omega)
      refine gx_ag (v := .inl (B 1)) (cb := fun c => Nat.beq c 0) rfl (fun _ => rfl) g126 rfl rfl ((e126 276 1 (by first | decide | omega)).trans ((e120 276 1 (by first | decide | omega)).trans ((e115 276 1 (by first | decide | omega)).trans ((e111 276 1 (by first | decide | omega)).trans ((e108 276 1 (by first | decide | omega)).trans ((i102.2 276 1 (by first | decide | omega)).trans ((e101 276 1 (by first | decide | omega)).trans (kB 1 (by first | decide | omega))))))))) (by first | decide | omega) rfl ?_
      refine ex_go (S := (75, [(2, .inl 1), (0, gx_r 8), (1, gx_r 257)], [.inl (B 1), .inl 1, gx_r 10], t126, n, 0)) rfl (fun _ => rfl) rfl ?_
      refine gx_ap rfl (fun _ => rfl) g126 rfl rfl rfl (show 1 < 2 from by omega) rfl (gx_full (by first | decide | omega)) rfl (fun t187 g187 k187 e187 => ?_)
      have k88 : ai_hv t187 8 0 = some (.inl 0) := (e187 8 0 (by first | decide | omega)).trans k27
      have k89 : ai_hv t187 272 5 = some (.inl K) := (e187 272 5 (by first | decide | omega)).trans ((e126 272 5 (by first | decide | omega)).trans ((e120 272 5 (by first | decide | omega)).trans ((e115 272 5 (by first | decide | omega)).trans ((e111 272 5 (by first | decide | omega)).trans ((e108 272 5 (by first | decide | omega)).trans ((i102.2 272 5 (by first | decide | omega)).trans ((e101 272 5 (by first | decide | omega)).trans (kK))))))))
      have k90 : ai_hv t187 10 0 = some (.inl 0) := (e187 10 0 (by first | decide | omega)).trans k29
      have k91 : ai_hv t187 11 0 = some (.inl 0) := (e187 11 0 (by first | decide | omega)).trans k30
      have k92 : ai_hv t187 12 0 = some (.inl 0) := (e187 12 0 (by first | decide | omega)).trans k31
      have k93 : ai_hv t187 13 0 = some (.inl 0) := (e187 13 0 (by first | decide | omega)).trans k32
      have k94 : ai_hv t187 14 0 = some (.inl 0) := (e187 14 0 (by first | decide | omega)).trans k126
      have k95 : ai_hv t187 276 1 = some (.inl (B 1)) := (e187 276 1 (by first | decide | omega)).trans ((e126 276 1 (by first | decide | omega)).trans ((e120 276 1 (by first | decide | omega)).trans ((e115 276 1 (by first | decide | omega)).trans ((e111 276 1 (by first | decide | omega)).trans ((e108 276 1 (by first | decide | omega)).trans ((i102.2 276 1 (by first | decide | omega)).trans ((e101 276 1 (by first | decide | omega)).trans (kB 1 (by first | decide | omega)))))))))
      refine ex_go (S := (77, [(2, .inl 1), (0, gx_r 8), (1, gx_r 257)], [gx_r 8], t187, n, 0)) rfl (fun _ => rfl) rfl ?_
      refine gxo_ref (a := 8) (c := 11) rfl g187 rfl rfl rfl rfl rfl ?_
      refine ex_go (S := (81, [(2, .inl 1), (0, gx_r 8), (1, gx_r 257)], [.inl 1, gx_r 11], t187, n, 0)) rfl (fun _ => rfl) rfl ?_
      refine ex_go (S := (82, [(2, .inl 1), (0, gx_r 8), (1, gx_r 257)], [.inl 0, .inl 1, gx_r 11], t187, n, 0)) rfl (fun _ => rfl) rfl ?_
      refine gx_ap rfl (fun _ => rfl) g187 rfl rfl rfl (show 1 < 2 from by omega) rfl (gx_full (by first | decide | omega)) rfl (fun t196 g196 k196 e196 => ?_)
      have k97 : ai_hv t196 8 0 = some (.inl 0) := (e196 8 0 (by first | decide | omega)).trans k88
      have k98 : ai_hv t196 272 5 = some (.inl K) := (e196 272 5 (by first | decide | omega)).trans k89
      have k99 : ai_hv t196 10 0 = some (.inl 0) := (e196 10 0 (by first | decide | omega)).trans k90
      have k100 : ai_hv t196 11 0 = some (.inl 0) := (e196 11 0 (by first | decide | omega)).trans k91
      have k101 : ai_hv t196 12 0 = some (.inl 0) := (e196 12 0 (by first | decide | omega)).trans k92
      have k102 : ai_hv t196 13 0 = some (.inl 0) := (e196 13 0 (by first | decide | omega)).trans k93
      have k103 : ai_hv t196 14 0 = some (.inl 0) := (e196 14 0 (by first | decide | omega)).trans k94
      have k104 : ai_hv t196 276 1 = some (.inl (B 1)) := (e196 276 1 (by first | decide | omega)).trans k95
      have k105 : ai_hv t196 10 1 = some (.inl (B 1)) := (e196 10 1 (by first | decide | omega)).trans k187
      refine ex_go (S := (84, [(2, .inl 1), (0, gx_r 8), (1, gx_r 257)], [gx_r 8], t196, n, 0)) rfl (fun _ => rfl) rfl ?_
      refine gxo_ref (a := 8) (c := 12) rfl g196 rfl rfl rfl rfl rfl ?_
      refine ex_go (S := (88, [(2, .inl 1), (0, gx_r 8), (1, gx_r 257)], [.inl 1, gx_r 12], t196, n, 0)) rfl (fun _ => rfl) rfl ?_
      refine ex_go (S := (89, [(2, .inl 1), (0, gx_r 8), (1, gx_r 257)], [.inl 0, .inl 1, gx_r 12], t196, n, 0)) rfl (fun _ => rfl) rfl ?_
      refine gx_apv (d := 2) rfl (fun _ => rfl) g196 rfl rfl rfl (show 1 < 2 from by omega) rfl (ai_in_h (by first | decide | omega) (by first | decide | omega) (by first | decide | omega)) rfl (fun t206 g206 k206 e206 => ?_)
      have k107 : ai_hv t206 8 0 = some (.inl 0) := (e206 8 0 (by first | decide | omega)).trans k97
      have k108 : ai_hv t206 272 5 = some (.inl K) := (e206 272 5 (by first | decide | omega)).trans k98
      have k109 : ai_hv t206 10 0 = some (.inl 0) := (e206 10 0 (by first | decide | omega)).trans k99
      have k110 : ai_hv t206 11 0 = some (.inl 0) := (e206 11 0 (by first | decide | omega)).trans k100
      have k111 : ai_hv t206 12 0 = some (.inl 0) := (e206 12 0 (by first | decide | omega)).trans k101
      have k112 : ai_hv t206 13 0 = some (.inl 0) := (e206 13 0 (by first | decide | omega)).trans k102
      have k113 : ai_hv t206 14 0 = some (.inl 0) := (e206 14 0 (by first | decide | omega)).trans k103
      have k114 : ai_hv t206 276 1 = some (.inl (B 1)) := (e206 276 1 (by first | decide | omega)).trans k104
      have k115 : ai_hv t206 10 1 = some (.inl (B 1)) := (e206 10 1 (by first | decide | omega)).trans k105
      have k116 : ai_hv t206 11 1 = some (.inl 0) := (e206 11 1 (by first | decide | omega)).trans k196
      refine ex_go (S := (91, [(2, .inl 1), (0, gx_r 8), (1, gx_r 257)], [gx_r 8], t206, n, 0)) rfl (fun _ => rfl) rfl ?_
      refine gxo_ref (a := 8) (c := 13) rfl g206 rfl rfl rfl rfl rfl ?_
      refine ex_go (S := (95, [(2, .inl 1), (0, gx_r 8), (1, gx_r 257)], [.inl 1, gx_r 13], t206, n, 0)) rfl (fun _ => rfl) rfl ?_
      refine ex_go (S := (96, [(2, .inl 1), (0, gx_r 8), (1, gx_r 257)], [.inl 0, .inl 1, gx_r 13], t206, n, 0)) rfl (fun _ => rfl) rfl ?_
      refine gx_apv (d := 2) rfl (fun _ => rfl) g206 rfl rfl rfl (show 1 < 2 from by omega) rfl (ai_in_h (by first | decide | omega) (by first | decide | omega) (by first | decide | omega)) rfl (fun t217 g217 k217 e217 => ?_)
      have k118 : ai_hv t217 8 0 = some (.inl 0) := (e217 8 0 (by first | decide | omega)).trans k107
      have k119 : ai_hv t217 272 5 = some (.inl K) := (e217 272 5 (by first | decide | omega)).trans k108
      have k120 : ai_hv t217 10 0 = some (.inl 0) := (e217 10 0 (by first | decide | omega)).trans k109
      have k121 : ai_hv t217 11 0 = some (.inl 0) := (e217 11 0 (by first | decide | omega)).trans k110
      have k122 : ai_hv t217 12 0 = some (.inl 0) := (e217 12 0 (by first | decide | omega)).trans k111
      have k123 : ai_hv t217 13 0 = some (.inl 0) := (e217 13 0 (by first | decide | omega)).trans k112
      have k124 : ai_hv t217 14 0 = some (.inl 0) := (e217 14 0 (by first | decide | omega)).trans k113
      have k125 : ai_hv t217 276 1 = some (.inl (B 1)) := (e217 276 1 (by first | decide | omega)).trans k114
      have k126 : ai_hv t217 10 1 = some (.inl (B 1)) := (e217 10 1 (by first | decide | omega)).trans k115
      have k127 : ai_hv t217 11 1 = some (.inl 0) := (e217 11 1 (by first | decide | omega)).trans k116
      have k128 : ai_hv t217 12 1 = some (.inl 0) := (e217 12 1 (by first | decide | omega)).trans k206
      refine ex_go (S := (98, [(2, .inl 1), (0, gx_r 8), (1, gx_r 257)], [gx_r 8], t217, n, 0)) rfl (fun _ => rfl) rfl ?_
      refine gxo_ref (a := 8) (c := 14) rfl g217 rfl rfl rfl rfl rfl ?_
      refine ex_go (S := (102, [(2, .inl 1), (0, gx_r 8), (1, gx_r 257)], [.inl 1, gx_r 14], t217, n, 0)) rfl (fun _ => rfl) rfl ?_
      refine ex_go (S := (103, [(2, .inl 1), (0, gx_r 8), (1, gx_r 257)], [.inl 0, .inl 1, gx_r 14], t217, n, 0)) rfl (fun _ => rfl) rfl ?_
      refine gx_ap rfl (fun _ => rfl) g217 rfl rfl rfl (show 1 < 2 from by omega) rfl (ai_in_h (by first | decide | omega) (by first | decide | omega) (by first | decide | omega)) rfl (fun t229 g229 k229 e229 => ?_)
      have k130 : ai_hv t229 8 0 = some (.inl 0) := (e229 8 0 (by first | decide | omega)).trans k118
      have k131 : ai_hv t229 272 5 = some (.inl K) := (e229 272 5 (by first | decide | omega)).trans k119
      have k132 : ai_hv t229 10 0 = some (.inl 0) := (e229 10 0 (by first | decide | omega)).trans k120
      have k133 : ai_hv t229 11 0 = some (.inl 0) := (e229 11 0 (by first | decide | omega)).trans k121
      have k134 : ai_hv t229 12 0 = some (.inl 0) := (e229 12 0 (by first | decide | omega)).trans k122
      have k135 : ai_hv t229 13 0 = some (.inl 0) := (e229 13 0 (by first | decide | omega)).trans k123
      have k136 : ai_hv t229 14 0 = some (.inl 0) := (e229 14 0 (by first | decide | omega)).trans k124
      have k137 : ai_hv t229 276 1 = some (.inl (B 1)) := (e229 276 1 (by first | decide | omega)).trans k125
      have k138 : ai_hv t229 10 1 = some (.inl (B 1)) := (e229 10 1 (by first | decide | omega)).trans k126
      have k139 : ai_hv t229 11 1 = some (.inl 0) := (e229 11 1 (by first | decide | omega)).trans k127
      have k140 : ai_hv t229 12 1 = some (.inl 0) := (e229 12 1 (by first | decide | omega)).trans k128
      have k141 : ai_hv t229 13 1 = some (.inl 0) := (e229 13 1 (by first | decide | omega)).trans k217
      refine ex_go (S := (107, [(2, .inl 2), (0, gx_r 8), (1, gx_r 257)], [], t229, n, 0)) rfl (fun _ => rfl) rfl ?_
      refine ex_go (S := (41, [(2, .inl 2), (0, gx_r 8), (1, gx_r 257)], [], t229, n, 0)) rfl (fun _ => rfl) rfl ?_
      refine ex_go (S := (42, [(2, .inl 2), (0, gx_r 8), (1, gx_r 257)], [.inl 2], t229, n, 0)) rfl (fun _ => rfl) rfl ?_
      refine ex_go (S := (43, [(2, .inl 2), (0, gx_r 8), (1, gx_r 257)], [.inl 2, .inl 2], t229, n, 0)) rfl (fun _ => rfl) rfl ?_
      refine ex_go (S := (110, [(2, .inl 2), (0, gx_r 8), (1, gx_r 257)], [], t229, n, 0)) rfl (fun _ => rfl) rfl ?_
      refine ex_ret (r := (none, t229, n, 0)) rfl (fun _ => rfl) ?_
      refine ⟨_, rfl, t229, rfl, g229, (fun c i h => (e229 c i (by first | decide | omega)).trans ((e217 c i (by first | decide | omega)).trans ((e206 c i (by first | decide | omega)).trans ((e196 c i (by first | decide | omega)).trans ((e187 c i (by first | decide | omega)).trans ((e126 c i (by first | decide | omega)).trans ((e120 c i (by first | decide | omega)).trans ((e115 c i (by first | decide | omega)).trans ((e111 c i (by first | decide | omega)).trans ((e108 c i (by first | decide | omega)).trans ((i102.2 c i (by first | decide | omega)).trans (e101 c i (by first | decide | omega))))))))))))), k130, (fun i hi => (e229 9 i (by first | decide | omega)).trans ((e217 9 i (by first | decide | omega)).trans ((e206 9 i (by first | decide | omega)).trans ((e196 9 i (by first | decide | omega)).trans ((e187 9 i (by first | decide | omega)).trans ((e126 9 i (by first | decide | omega)).trans ((e120 9 i (by first | decide | omega)).trans ((e115 9 i (by first | decide | omega)).trans ((e111 9 i (by first | decide | omega)).trans ((e108 9 i (by first | decide | omega)).trans (i102.1 i hi))))))))))), fun c hc => ?_⟩
      rcases (show c = 0 ∨ c = 1 by omega) with rfl | rfl
      · omega
      · exact ⟨k138, k139, k140, k141, k229⟩
  · refine gx_1f (c := .eq) rfl (by first | decide | omega) hc7 rfl ?_
    refine ex_go (S := (63, [(2, .inl 0), (0, gx_r 8), (1, gx_r 257)], [gx_r 257, .inl 0, gx_r 10], t102, n, 0)) rfl (fun _ => rfl) rfl ?_
    refine gxo_ref (a := 257) (c := 272) rfl g102 rfl rfl rfl rfl rfl ?_
    refine gxo_ref (a := 272) (c := 276) rfl g102 rfl rfl rfl rfl rfl ?_
    refine ex_go (S := (70, [(2, .inl 0), (0, gx_r 8), (1, gx_r 257)], [.inl 0, gx_r 276, .inl 0, gx_r 10], t102, n, 0)) rfl (fun _ => rfl) rfl ?_
    have := hB 0 (by first | decide | omega)
    refine gx_ag (v := .inl (B 0)) (cb := fun c => Nat.beq c 0) rfl (fun _ => rfl) g102 rfl rfl ((i102.2 276 0 (by first | decide | omega)).trans ((e101 276 0 (by first | decide | omega)).trans (kB 0 (by first | decide | omega)))) (by first | decide | omega) rfl ?_
    refine ex_go (S := (75, [(2, .inl 0), (0, gx_r 8), (1, gx_r 257)], [.inl (B 0), .inl 0, gx_r 10], t102, n, 0)) rfl (fun _ => rfl) rfl ?_
    refine gx_ap rfl (fun _ => rfl) g102 rfl rfl rfl (show 0 < 2 from by omega) rfl (gx_full (by first | decide | omega)) rfl (fun t242 g242 k242 e242 => ?_)
    have k143 : ai_hv t242 8 0 = some (.inl 0) := (e242 8 0 (by first | decide | omega)).trans k3
    have k144 : ai_hv t242 272 5 = some (.inl K) := (e242 272 5 (by first | decide | omega)).trans ((i102.2 272 5 (by first | decide | omega)).trans ((e101 272 5 (by first | decide | omega)).trans (kK)))
    have k145 : ai_hv t242 276 0 = some (.inl (B 0)) := (e242 276 0 (by first | decide | omega)).trans ((i102.2 276 0 (by first | decide | omega)).trans ((e101 276 0 (by first | decide | omega)).trans (kB 0 (by first | decide | omega))))
    refine ex_go (S := (77, [(2, .inl 0), (0, gx_r 8), (1, gx_r 257)], [gx_r 8], t242, n, 0)) rfl (fun _ => rfl) rfl ?_
    refine gxo_ref (a := 8) (c := 11) rfl g242 rfl rfl rfl rfl rfl ?_
    refine ex_go (S := (81, [(2, .inl 0), (0, gx_r 8), (1, gx_r 257)], [.inl 0, gx_r 11], t242, n, 0)) rfl (fun _ => rfl) rfl ?_
    refine ex_go (S := (82, [(2, .inl 0), (0, gx_r 8), (1, gx_r 257)], [.inl 0, .inl 0, gx_r 11], t242, n, 0)) rfl (fun _ => rfl) rfl ?_
    refine gx_ap rfl (fun _ => rfl) g242 rfl rfl rfl (show 0 < 2 from by omega) rfl (gx_full (by first | decide | omega)) rfl (fun t246 g246 k246 e246 => ?_)
    have k147 : ai_hv t246 8 0 = some (.inl 0) := (e246 8 0 (by first | decide | omega)).trans k143
    have k148 : ai_hv t246 272 5 = some (.inl K) := (e246 272 5 (by first | decide | omega)).trans k144
    have k149 : ai_hv t246 276 0 = some (.inl (B 0)) := (e246 276 0 (by first | decide | omega)).trans k145
    have k150 : ai_hv t246 10 0 = some (.inl (B 0)) := (e246 10 0 (by first | decide | omega)).trans k242
    refine ex_go (S := (84, [(2, .inl 0), (0, gx_r 8), (1, gx_r 257)], [gx_r 8], t246, n, 0)) rfl (fun _ => rfl) rfl ?_
    refine gxo_ref (a := 8) (c := 12) rfl g246 rfl rfl rfl rfl rfl ?_
    refine ex_go (S := (88, [(2, .inl 0), (0, gx_r 8), (1, gx_r 257)], [.inl 0, gx_r 12], t246, n, 0)) rfl (fun _ => rfl) rfl ?_
    refine ex_go (S := (89, [(2, .inl 0), (0, gx_r 8), (1, gx_r 257)], [.inl 0, .inl 0, gx_r 12], t246, n, 0)) rfl (fun _ => rfl) rfl ?_
    refine gx_apv (d := 2) rfl (fun _ => rfl) g246 rfl rfl rfl (show 0 < 2 from by omega) rfl (ai_in_h (by first | decide | omega) (by first | decide | omega) (by first | decide | omega)) rfl (fun t251 g251 k251 e251 => ?_)
    have k152 : ai_hv t251 8 0 = some (.inl 0) := (e251 8 0 (by first | decide | omega)).trans k147
    have k153 : ai_hv t251 272 5 = some (.inl K) := (e251 272 5 (by first | decide | omega)).trans k148
    have k154 : ai_hv t251 276 0 = some (.inl (B 0)) := (e251 276 0 (by first | decide | omega)).trans k149
    have k155 : ai_hv t251 10 0 = some (.inl (B 0)) := (e251 10 0 (by first | decide | omega)).trans k150
    have k156 : ai_hv t251 11 0 = some (.inl 0) := (e251 11 0 (by first | decide | omega)).trans k246
    refine ex_go (S := (91, [(2, .inl 0), (0, gx_r 8), (1, gx_r 257)], [gx_r 8], t251, n, 0)) rfl (fun _ => rfl) rfl ?_
    refine gxo_ref (a := 8) (c := 13) rfl g251 rfl rfl rfl rfl rfl ?_
    refine ex_go (S := (95, [(2, .inl 0), (0, gx_r 8), (1, gx_r 257)], [.inl 0, gx_r 13], t251, n, 0)) rfl (fun _ => rfl) rfl ?_
    refine ex_go (S := (96, [(2, .inl 0), (0, gx_r 8), (1, gx_r 257)], [.inl 0, .inl 0, gx_r 13], t251, n, 0)) rfl (fun _ => rfl) rfl ?_
    refine gx_apv (d := 2) rfl (fun _ => rfl) g251 rfl rfl rfl (show 0 < 2 from by omega) rfl (ai_in_h (by first | decide | omega) (by first | decide | omega) (by first | decide | omega)) rfl (fun t257 g257 k257 e257 => ?_)
    have k158 : ai_hv t257 8 0 = some (.inl 0) := (e257 8 0 (by first | decide | omega)).trans k152
    have k159 : ai_hv t257 272 5 = some (.inl K) := (e257 272 5 (by first | decide | omega)).trans k153
    have k160 : ai_hv t257 276 0 = some (.inl (B 0)) := (e257 276 0 (by first | decide | omega)).trans k154
    have k161 : ai_hv t257 10 0 = some (.inl (B 0)) := (e257 10 0 (by first | decide | omega)).trans k155
    have k162 : ai_hv t257 11 0 = some (.inl 0) := (e257 11 0 (by first | decide | omega)).trans k156
    have k163 : ai_hv t257 12 0 = some (.inl 0) := (e257 12 0 (by first | decide | omega)).trans k251
    refine ex_go (S := (98, [(2, .inl 0), (0, gx_r 8), (1, gx_r 257)], [gx_r 8], t257, n, 0)) rfl (fun _ => rfl) rfl ?_
    refine gxo_ref (a := 8) (c := 14) rfl g257 rfl rfl rfl rfl rfl ?_
    refine ex_go (S := (102, [(2, .inl 0), (0, gx_r 8), (1, gx_r 257)], [.inl 0, gx_r 14], t257, n, 0)) rfl (fun _ => rfl) rfl ?_
    refine ex_go (S := (103, [(2, .inl 0), (0, gx_r 8), (1, gx_r 257)], [.inl 0, .inl 0, gx_r 14], t257, n, 0)) rfl (fun _ => rfl) rfl ?_
    refine gx_ap rfl (fun _ => rfl) g257 rfl rfl rfl (show 0 < 2 from by omega) rfl (ai_in_h (by first | decide | omega) (by first | decide | omega) (by first | decide | omega)) rfl (fun t264 g264 k264 e264 => ?_)
    have k165 : ai_hv t264 8 0 = some (.inl 0) := (e264 8 0 (by first | decide | omega)).trans k158
    have k166 : ai_hv t264 272 5 = some (.inl K) := (e264 272 5 (by first | decide | omega)).trans k159
    have k167 : ai_hv t264 276 0 = some (.inl (B 0)) := (e264 276 0 (by first | decide | omega)).trans k160
    have k168 : ai_hv t264 10 0 = some (.inl (B 0)) := (e264 10 0 (by first | decide | omega)).trans k161
    have k169 : ai_hv t264 11 0 = some (.inl 0) := (e264 11 0 (by first | decide | omega)).trans k162
    have k170 : ai_hv t264 12 0 = some (.inl 0) := (e264 12 0 (by first | decide | omega)).trans k163
    have k171 : ai_hv t264 13 0 = some (.inl 0) := (e264 13 0 (by first | decide | omega)).trans k257
    refine ex_go (S := (107, [(2, .inl 1), (0, gx_r 8), (1, gx_r 257)], [], t264, n, 0)) rfl (fun _ => rfl) rfl ?_
    refine ex_go (S := (41, [(2, .inl 1), (0, gx_r 8), (1, gx_r 257)], [], t264, n, 0)) rfl (fun _ => rfl) rfl ?_
    refine ex_go (S := (42, [(2, .inl 1), (0, gx_r 8), (1, gx_r 257)], [.inl 1], t264, n, 0)) rfl (fun _ => rfl) rfl ?_
    refine ex_go (S := (43, [(2, .inl 1), (0, gx_r 8), (1, gx_r 257)], [.inl 2, .inl 1], t264, n, 0)) rfl (fun _ => rfl) rfl ?_
    refine ex_go (S := (46, [(2, .inl 1), (0, gx_r 8), (1, gx_r 257)], [], t264, n, 0)) rfl (fun _ => rfl) rfl ?_
    refine ex_go (S := (47, [(2, .inl 1), (0, gx_r 8), (1, gx_r 257)], [gx_r 8], t264, n, 0)) rfl (fun _ => rfl) rfl ?_
    refine gxo_ref (a := 8) (c := 10) rfl g264 rfl rfl rfl rfl rfl ?_
    refine ex_go (S := (51, [(2, .inl 1), (0, gx_r 8), (1, gx_r 257)], [.inl 1, gx_r 10], t264, n, 0)) rfl (fun _ => rfl) rfl ?_
    refine ex_go (S := (52, [(2, .inl 1), (0, gx_r 8), (1, gx_r 257)], [gx_r 257, .inl 1, gx_r 10], t264, n, 0)) rfl (fun _ => rfl) rfl ?_
    refine gxo_ref (a := 257) (c := 272) rfl g264 rfl rfl rfl rfl rfl ?_
    refine ex_go (S := (56, [(2, .inl 1), (0, gx_r 8), (1, gx_r 257)], [.inl 1, gx_r 272, .inl 1, gx_r 10], t264, n, 0)) rfl (fun _ => rfl) rfl ?_
    obtain ⟨_, r172, b173, rfl, b173b, q174⟩ := pz_holds272 (d) n (x := 1) g264 (by first | decide | omega) ((e264 272 5 (by first | decide | omega)).trans ((e257 272 5 (by first | decide | omega)).trans ((e251 272 5 (by first | decide | omega)).trans ((e246 272 5 (by first | decide | omega)).trans ((e242 272 5 (by first | decide | omega)).trans ((i102.2 272 5 (by first | decide | omega)).trans ((e101 272 5 (by first | decide | omega)).trans (kK)))))))) (by first | decide | omega)
    refine gx_callo (a := 272) rfl rfl g264 rfl rfl rfl r172 rfl ?_
    show en_ex _ _ _ _ (59, [(2, .inl 1), (0, gx_r 8), (1, gx_r 257)], [.inl b173, .inl 1, gx_r 10], t264, n, 0) _
    by_cases hc175 : b173 = 0
    · refine gx_1t (c := .eq) rfl (by first | decide | omega) hc175 rfl ?_
      refine ex_go (S := (75, [(2, .inl 1), (0, gx_r 8), (1, gx_r 257)], [.inl 0, .inl 1, gx_r 10], t264, n, 0)) rfl (fun _ => rfl) rfl ?_
      refine gx_ap rfl (fun _ => rfl) g264 rfl rfl rfl (show 1 < 2 from by omega) rfl (gx_full (by first | decide | omega)) rfl (fun t276 g276 k276 e276 => ?_)
      have k177 : ai_hv t276 8 0 = some (.inl 0) := (e276 8 0 (by first | decide | omega)).trans k165
      have k178 : ai_hv t276 272 5 = some (.inl K) := (e276 272 5 (by first | decide | omega)).trans ((e264 272 5 (by first | decide | omega)).trans ((e257 272 5 (by first | decide | omega)).trans ((e251 272 5 (by first | decide | omega)).trans ((e246 272 5 (by first | decide | omega)).trans ((e242 272 5 (by first | decide | omega)).trans ((i102.2 272 5 (by first | decide | omega)).trans ((e101 272 5 (by first | decide | omega)).trans (kK))))))))
      have k179 : ai_hv t276 276 0 = some (.inl (B 0)) := (e276 276 0 (by first | decide | omega)).trans k167
      have k180 : ai_hv t276 10 0 = some (.inl (B 0)) := (e276 10 0 (by first | decide | omega)).trans k168
      have k181 : ai_hv t276 11 0 = some (.inl 0) := (e276 11 0 (by first | decide | omega)).trans k169
      have k182 : ai_hv t276 12 0 = some (.inl 0) := (e276 12 0 (by first | decide | omega)).trans k170
      have k183 : ai_hv t276 13 0 = some (.inl 0) := (e276 13 0 (by first | decide | omega)).trans k171
      have k184 : ai_hv t276 14 0 = some (.inl 0) := (e276 14 0 (by first | decide | omega)).trans k264
      refine ex_go (S := (77, [(2, .inl 1), (0, gx_r 8), (1, gx_r 257)], [gx_r 8], t276, n, 0)) rfl (fun _ => rfl) rfl ?_
      refine gxo_ref (a := 8) (c := 11) rfl g276 rfl rfl rfl rfl rfl ?_
      refine ex_go (S := (81, [(2, .inl 1), (0, gx_r 8), (1, gx_r 257)], [.inl 1, gx_r 11], t276, n, 0)) rfl (fun _ => rfl) rfl ?_
      refine ex_go (S := (82, [(2, .inl 1), (0, gx_r 8), (1, gx_r 257)], [.inl 0, .inl 1, gx_r 11], t276, n, 0)) rfl (fun _ => rfl) rfl ?_
      refine gx_ap rfl (fun _ => rfl) g276 rfl rfl rfl (show 1 < 2 from by omega) rfl (gx_full (by first | decide | omega)) rfl (fun t285 g285 k285 e285 => ?_)
      have k186 : ai_hv t285 8 0 = some (.inl 0) := (e285 8 0 (by first | decide | omega)).trans k177
      have k187 : ai_hv t285 272 5 = some (.inl K) := (e285 272 5 (by first | decide | omega)).trans k178
      have k188 : ai_hv t285 276 0 = some (.inl (B 0)) := (e285 276 0 (by first | decide | omega)).trans k179
      have k189 : ai_hv t285 10 0 = some (.inl (B 0)) := (e285 10 0 (by first | decide | omega)).trans k180
      have k190 : ai_hv t285 11 0 = some (.inl 0) := (e285 11 0 (by first | decide | omega)).trans k181
      have k191 : ai_hv t285 12 0 = some (.inl 0) := (e285 12 0 (by first | decide | omega)).trans k182
      have k192 : ai_hv t285 13 0 = some (.inl 0) := (e285 13 0 (by first | decide | omega)).trans k183
      have k193 : ai_hv t285 14 0 = some (.inl 0) := (e285 14 0 (by first | decide | omega)).trans k184
      have k194 : ai_hv t285 10 1 = some (.inl 0) := (e285 10 1 (by first | decide | omega)).trans k276
      refine ex_go (S := (84, [(2, .inl 1), (0, gx_r 8), (1, gx_r 257)], [gx_r 8], t285, n, 0)) rfl (fun _ => rfl) rfl ?_
      refine gxo_ref (a := 8) (c := 12) rfl g285 rfl rfl rfl rfl rfl ?_
      refine ex_go (S := (88, [(2, .inl 1), (0, gx_r 8), (1, gx_r 257)], [.inl 1, gx_r 12], t285, n, 0)) rfl (fun _ => rfl) rfl ?_
      refine ex_go (S := (89, [(2, .inl 1), (0, gx_r 8), (1, gx_r 257)], [.inl 0, .inl 1, gx_r 12], t285, n, 0)) rfl (fun _ => rfl) rfl ?_
      refine gx_apv (d := 2) rfl (fun _ => rfl) g285 rfl rfl rfl (show 1 < 2 from by omega) rfl (ai_in_h (by first | decide | omega) (by first | decide | omega) (by first | decide | omega)) rfl (fun t295 g295 k295 e295 => ?_)
      have k196 : ai_hv t295 8 0 = some (.inl 0) := (e295 8 0 (by first | decide | omega)).trans k186
      have k197 : ai_hv t295 272 5 = some (.inl K) := (e295 272 5 (by first | decide | omega)).trans k187
      have k198 : ai_hv t295 276 0 = some (.inl (B 0)) := (e295 276 0 (by first | decide | omega)).trans k188
      have k199 : ai_hv t295 10 0 = some (.inl (B 0)) := (e295 10 0 (by first | decide | omega)).trans k189
      have k200 : ai_hv t295 11 0 = some (.inl 0) := (e295 11 0 (by first | decide | omega)).trans k190
      have k201 : ai_hv t295 12 0 = some (.inl 0) := (e295 12 0 (by first | decide | omega)).trans k191
      have k202 : ai_hv t295 13 0 = some (.inl 0) := (e295 13 0 (by first | decide | omega)).trans k192
      have k203 : ai_hv t295 14 0 = some (.inl 0) := (e295 14 0 (by first | decide | omega)).trans k193
      have k204 : ai_hv t295 10 1 = some (.inl 0) := (e295 10 1 (by first | decide | omega)).trans k194
      have k205 : ai_hv t295 11 1 = some (.inl 0) := (e295 11 1 (by first | decide | omega)).trans k285
      refine ex_go (S := (91, [(2, .inl 1), (0, gx_r 8), (1, gx_r 257)], [gx_r 8], t295, n, 0)) rfl (fun _ => rfl) rfl ?_
      refine gxo_ref (a := 8) (c := 13) rfl g295 rfl rfl rfl rfl rfl ?_
      refine ex_go (S := (95, [(2, .inl 1), (0, gx_r 8), (1, gx_r 257)], [.inl 1, gx_r 13], t295, n, 0)) rfl (fun _ => rfl) rfl ?_
      refine ex_go (S := (96, [(2, .inl 1), (0, gx_r 8), (1, gx_r 257)], [.inl 0, .inl 1, gx_r 13], t295, n, 0)) rfl (fun _ => rfl) rfl ?_
      refine gx_apv (d := 2) rfl (fun _ => rfl) g295 rfl rfl rfl (show 1 < 2 from by omega) rfl (ai_in_h (by first | decide | omega) (by first | decide | omega) (by first | decide | omega)) rfl (fun t306 g306 k306 e306 => ?_)
      have k207 : ai_hv t306 8 0 = some (.inl 0) := (e306 8 0 (by first | decide | omega)).trans k196
      have k208 : ai_hv t306 272 5 = some (.inl K) := (e306 272 5 (by first | decide | omega)).trans k197
      have k209 : ai_hv t306 276 0 = some (.inl (B 0)) := (e306 276 0 (by first | decide | omega)).trans k198
      have k210 : ai_hv t306 10 0 = some (.inl (B 0)) := (e306 10 0 (by first | decide | omega)).trans k199
      have k211 : ai_hv t306 11 0 = some (.inl 0) := (e306 11 0 (by first | decide | omega)).trans k200
      have k212 : ai_hv t306 12 0 = some (.inl 0) := (e306 12 0 (by first | decide | omega)).trans k201
      have k213 : ai_hv t306 13 0 = some (.inl 0) := (e306 13 0 (by first | decide | omega)).trans k202
      have k214 : ai_hv t306 14 0 = some (.inl 0) := (e306 14 0 (by first | decide | omega)).trans k203
      have k215 : ai_hv t306 10 1 = some (.inl 0) := (e306 10 1 (by first | decide | omega)).trans k204
      have k216 : ai_hv t306 11 1 = some (.inl 0) := (e306 11 1 (by first | decide | omega)).trans k205
      have k217 : ai_hv t306 12 1 = some (.inl 0) := (e306 12 1 (by first | decide | omega)).trans k295
      refine ex_go (S := (98, [(2, .inl 1), (0, gx_r 8), (1, gx_r 257)], [gx_r 8], t306, n, 0)) rfl (fun _ => rfl) rfl ?_
      refine gxo_ref (a := 8) (c := 14) rfl g306 rfl rfl rfl rfl rfl ?_
      refine ex_go (S := (102, [(2, .inl 1), (0, gx_r 8), (1, gx_r 257)], [.inl 1, gx_r 14], t306, n, 0)) rfl (fun _ => rfl) rfl ?_
      refine ex_go (S := (103, [(2, .inl 1), (0, gx_r 8), (1, gx_r 257)], [.inl 0, .inl 1, gx_r 14], t306, n, 0)) rfl (fun _ => rfl) rfl ?_
      refine gx_ap rfl (fun _ => rfl) g306 rfl rfl rfl (show 1 < 2 from by omega) rfl (ai_in_h (by first | decide | omega) (by first | decide | omega) (by first | decide | omega)) rfl (fun t318 g318 k318 e318 => ?_)
      have k219 : ai_hv t318 8 0 = some (.inl 0) := (e318 8 0 (by first | decide | omega)).trans k207
      have k220 : ai_hv t318 272 5 = some (.inl K) := (e318 272 5 (by first | decide | omega)).trans k208
      have k221 : ai_hv t318 276 0 = some (.inl (B 0)) := (e318 276 0 (by first | decide | omega)).trans k209
      have k222 : ai_hv t318 10 0 = some (.inl (B 0)) := (e318 10 0 (by first | decide | omega)).trans k210
      have k223 : ai_hv t318 11 0 = some (.inl 0) := (e318 11 0 (by first | decide | omega)).trans k211
      have k224 : ai_hv t318 12 0 = some (.inl 0) := (e318 12 0 (by first | decide | omega)).trans k212
      have k225 : ai_hv t318 13 0 = some (.inl 0) := (e318 13 0 (by first | decide | omega)).trans k213
      have k226 : ai_hv t318 14 0 = some (.inl 0) := (e318 14 0 (by first | decide | omega)).trans k214
      have k227 : ai_hv t318 10 1 = some (.inl 0) := (e318 10 1 (by first | decide | omega)).trans k215
      have k228 : ai_hv t318 11 1 = some (.inl 0) := (e318 11 1 (by first | decide | omega)).trans k216
      have k229 : ai_hv t318 12 1 = some (.inl 0) := (e318 12 1 (by first | decide | omega)).trans k217
      have k230 : ai_hv t318 13 1 = some (.inl 0) := (e318 13 1 (by first | decide | omega)).trans k306
      refine ex_go (S := (107, [(2, .inl 2), (0, gx_r 8), (1, gx_r 257)], [], t318, n, 0)) rfl (fun _ => rfl) rfl ?_
      refine ex_go (S := (41, [(2, .inl 2), (0, gx_r 8), (1, gx_r 257)], [], t318, n, 0)) rfl (fun _ => rfl) rfl ?_
      refine ex_go (S := (42, [(2, .inl 2), (0, gx_r 8), (1, gx_r 257)], [.inl 2], t318, n, 0)) rfl (fun _ => rfl) rfl ?_
      refine ex_go (S := (43, [(2, .inl 2), (0, gx_r 8), (1, gx_r 257)], [.inl 2, .inl 2], t318, n, 0)) rfl (fun _ => rfl) rfl ?_
      refine ex_go (S := (110, [(2, .inl 2), (0, gx_r 8), (1, gx_r 257)], [], t318, n, 0)) rfl (fun _ => rfl) rfl ?_
      refine ex_ret (r := (none, t318, n, 0)) rfl (fun _ => rfl) ?_
      refine ⟨_, rfl, t318, rfl, g318, (fun c i h => (e318 c i (by first | decide | omega)).trans ((e306 c i (by first | decide | omega)).trans ((e295 c i (by first | decide | omega)).trans ((e285 c i (by first | decide | omega)).trans ((e276 c i (by first | decide | omega)).trans ((e264 c i (by first | decide | omega)).trans ((e257 c i (by first | decide | omega)).trans ((e251 c i (by first | decide | omega)).trans ((e246 c i (by first | decide | omega)).trans ((e242 c i (by first | decide | omega)).trans ((i102.2 c i (by first | decide | omega)).trans (e101 c i (by first | decide | omega))))))))))))), k219, (fun i hi => (e318 9 i (by first | decide | omega)).trans ((e306 9 i (by first | decide | omega)).trans ((e295 9 i (by first | decide | omega)).trans ((e285 9 i (by first | decide | omega)).trans ((e276 9 i (by first | decide | omega)).trans ((e264 9 i (by first | decide | omega)).trans ((e257 9 i (by first | decide | omega)).trans ((e251 9 i (by first | decide | omega)).trans ((e246 9 i (by first | decide | omega)).trans ((e242 9 i (by first | decide | omega)).trans (i102.1 i hi))))))))))), fun c hc => ?_⟩
      rcases (show c = 0 ∨ c = 1 by omega) with rfl | rfl
      · exact ⟨k222, k223, k224, k225, k226⟩
      · omega
    · refine gx_1f (c := .eq) rfl (by first | decide | omega) hc175 rfl ?_
      refine ex_go (S := (63, [(2, .inl 1), (0, gx_r 8), (1, gx_r 257)], [gx_r 257, .inl 1, gx_r 10], t264, n, 0)) rfl (fun _ => rfl) rfl ?_
      refine gxo_ref (a := 257) (c := 272) rfl g264 rfl rfl rfl rfl rfl ?_
      refine gxo_ref (a := 272) (c := 276) rfl g264 rfl rfl rfl rfl rfl ?_
      refine ex_go (S := (70, [(2, .inl 1), (0, gx_r 8), (1, gx_r 257)], [.inl 1, gx_r 276, .inl 1, gx_r 10], t264, n, 0)) rfl (fun _ => rfl) rfl ?_
      have := hB 1 (by first | decide | omega)
      refine gx_ag (v := .inl (B 1)) (cb := fun c => Nat.beq c 0) rfl (fun _ => rfl) g264 rfl rfl ((e264 276 1 (by first | decide | omega)).trans ((e257 276 1 (by first | decide | omega)).trans ((e251 276 1 (by first | decide | omega)).trans ((e246 276 1 (by first | decide | omega)).trans ((e242 276 1 (by first | decide | omega)).trans ((i102.2 276 1 (by first | decide | omega)).trans ((e101 276 1 (by first | decide | omega)).trans (kB 1 (by first | decide | omega))))))))) (by first | decide | omega) rfl ?_
      refine ex_go (S := (75, [(2, .inl 1), (0, gx_r 8), (1, gx_r 257)], [.inl (B 1), .inl 1, gx_r 10], t264, n, 0)) rfl (fun _ => rfl) rfl ?_
      refine gx_ap rfl (fun _ => rfl) g264 rfl rfl rfl (show 1 < 2 from by omega) rfl (gx_full (by first | decide | omega)) rfl (fun t331 g331 k331 e331 => ?_)
      have k232 : ai_hv t331 8 0 = some (.inl 0) := (e331 8 0 (by first | decide | omega)).trans k165
      have k233 : ai_hv t331 272 5 = some (.inl K) := (e331 272 5 (by first | decide | omega)).trans ((e264 272 5 (by first | decide | omega)).trans ((e257 272 5 (by first | decide | omega)).trans ((e251 272 5 (by first | decide | omega)).trans ((e246 272 5 (by first | decide | omega)).trans ((e242 272 5 (by first | decide | omega)).trans ((i102.2 272 5 (by first | decide | omega)).trans ((e101 272 5 (by first | decide | omega)).trans (kK))))))))
      have k234 : ai_hv t331 276 0 = some (.inl (B 0)) := (e331 276 0 (by first | decide | omega)).trans k167
      have k235 : ai_hv t331 10 0 = some (.inl (B 0)) := (e331 10 0 (by first | decide | omega)).trans k168
      have k236 : ai_hv t331 11 0 = some (.inl 0) := (e331 11 0 (by first | decide | omega)).trans k169
      have k237 : ai_hv t331 12 0 = some (.inl 0) := (e331 12 0 (by first | decide | omega)).trans k170
      have k238 : ai_hv t331 13 0 = some (.inl 0) := (e331 13 0 (by first | decide | omega)).trans k171
      have k239 : ai_hv t331 14 0 = some (.inl 0) := (e331 14 0 (by first | decide | omega)).trans k264
      have k240 : ai_hv t331 276 1 = some (.inl (B 1)) := (e331 276 1 (by first | decide | omega)).trans ((e264 276 1 (by first | decide | omega)).trans ((e257 276 1 (by first | decide | omega)).trans ((e251 276 1 (by first | decide | omega)).trans ((e246 276 1 (by first | decide | omega)).trans ((e242 276 1 (by first | decide | omega)).trans ((i102.2 276 1 (by first | decide | omega)).trans ((e101 276 1 (by first | decide | omega)).trans (kB 1 (by first | decide | omega)))))))))
      refine ex_go (S := (77, [(2, .inl 1), (0, gx_r 8), (1, gx_r 257)], [gx_r 8], t331, n, 0)) rfl (fun _ => rfl) rfl ?_
      refine gxo_ref (a := 8) (c := 11) rfl g331 rfl rfl rfl rfl rfl ?_
      refine ex_go (S := (81, [(2, .inl 1), (0, gx_r 8), (1, gx_r 257)], [.inl 1, gx_r 11], t331, n, 0)) rfl (fun _ => rfl) rfl ?_
      refine ex_go (S := (82, [(2, .inl 1), (0, gx_r 8), (1, gx_r 257)], [.inl 0, .inl 1, gx_r 11], t331, n, 0)) rfl (fun _ => rfl) rfl ?_
      refine gx_ap rfl (fun _ => rfl) g331 rfl rfl rfl (show 1 < 2 from by omega) rfl (gx_full (by first | decide | omega)) rfl (fun t341 g341 k341 e341 => ?_)
      have k242 : ai_hv t341 8 0 = some (.inl 0) := (e341 8 0 (by first | decide | omega)).trans k232
      have k243 : ai_hv t341 272 5 = some (.inl K) := (e341 272 5 (by first | decide | omega)).trans k233
      have k244 : ai_hv t341 276 0 = some (.inl (B 0)) := (e341 276 0 (by first | decide | omega)).trans k234
      have k245 : ai_hv t341 10 0 = some (.inl (B 0)) := (e341 10 0 (by first | decide | omega)).trans k235
      have k246 : ai_hv t341 11 0 = some (.inl 0) := (e341 11 0 (by first | decide | omega)).trans k236
      have k247 : ai_hv t341 12 0 = some (.inl 0) := (e341 12 0 (by first | decide | omega)).trans k237
      have k248 : ai_hv t341 13 0 = some (.inl 0) := (e341 13 0 (by first | decide | omega)).trans k238
      have k249 : ai_hv t341 14 0 = some (.inl 0) := (e341 14 0 (by first | decide | omega)).trans k239
      have k250 : ai_hv t341 276 1 = some (.inl (B 1)) := (e341 276 1 (by first | decide | omega)).trans k240
      have k251 : ai_hv t341 10 1 = some (.inl (B 1)) := (e341 10 1 (by first | decide | omega)).trans k331
      refine ex_go (S := (84, [(2, .inl 1), (0, gx_r 8), (1, gx_r 257)], [gx_r 8], t341, n, 0)) rfl (fun _ => rfl) rfl ?_
      refine gxo_ref (a := 8) (c := 12) rfl g341 rfl rfl rfl rfl rfl ?_
      refine ex_go (S := (88, [(2, .inl 1), (0, gx_r 8), (1, gx_r 257)], [.inl 1, gx_r 12], t341, n, 0)) rfl (fun _ => rfl) rfl ?_
      refine ex_go (S := (89, [(2, .inl 1), (0, gx_r 8), (1, gx_r 257)], [.inl 0, .inl 1, gx_r 12], t341, n, 0)) rfl (fun _ => rfl) rfl ?_
      refine gx_apv (d := 2) rfl (fun _ => rfl) g341 rfl rfl rfl (show 1 < 2 from by omega) rfl (ai_in_h (by first | decide | omega) (by first | decide | omega) (by first | decide | omega)) rfl (fun t352 g352 k352 e352 => ?_)
      have k253 : ai_hv t352 8 0 = some (.inl 0) := (e352 8 0 (by first | decide | omega)).trans k242
      have k254 : ai_hv t352 272 5 = some (.inl K) := (e352 272 5 (by first | decide | omega)).trans k243
      have k255 : ai_hv t352 276 0 = some (.inl (B 0)) := (e352 276 0 (by first | decide | omega)).trans k244
      have k256 : ai_hv t352 10 0 = some (.inl (B 0)) := (e352 10 0 (by first | decide | omega)).trans k245
      have k257 : ai_hv t352 11 0 = some (.inl 0) := (e352 11 0 (by first | decide | omega)).trans k246
      have k258 : ai_hv t352 12 0 = some (.inl 0) := (e352 12 0 (by first | decide | omega)).trans k247
      have k259 : ai_hv t352 13 0 = some (.inl 0) := (e352 13 0 (by first | decide | omega)).trans k248
      have k260 : ai_hv t352 14 0 = some (.inl 0) := (e352 14 0 (by first | decide | omega)).trans k249
      have k261 : ai_hv t352 276 1 = some (.inl (B 1)) := (e352 276 1 (by first | decide | omega)).trans k250
      have k262 : ai_hv t352 10 1 = some (.inl (B 1)) := (e352 10 1 (by first | decide | omega)).trans k251
      have k263 : ai_hv t352 11 1 = some (.inl 0) := (e352 11 1 (by first | decide | omega)).trans k341
      refine ex_go (S := (91, [(2, .inl 1), (0, gx_r 8), (1, gx_r 257)], [gx_r 8], t352, n, 0)) rfl (fun _ => rfl) rfl ?_
      refine gxo_ref (a := 8) (c := 13) rfl g352 rfl rfl rfl rfl rfl ?_
      refine ex_go (S := (95, [(2, .inl 1), (0, gx_r 8), (1, gx_r 257)], [.inl 1, gx_r 13], t352, n, 0)) rfl (fun _ => rfl) rfl ?_
      refine ex_go (S := (96, [(2, .inl 1), (0, gx_r 8), (1, gx_r 257)], [.inl 0, .inl 1, gx_r 13], t352, n, 0)) rfl (fun _ => rfl) rfl ?_
      refine gx_apv (d := 2) rfl (fun _ => rfl) g352 rfl rfl rfl (show 1 < 2 from by omega) rfl (ai_in_h (by first | decide | omega) (by first | decide | omega) (by first | decide | omega)) rfl (fun t364 g364 k364 e364 => ?_)
      have k265 : ai_hv t364 8 0 = some (.inl 0) := (e364 8 0 (by first | decide | omega)).trans k253
      have k266 : ai_hv t364 272 5 = some (.inl K) := (e364 272 5 (by first | decide | omega)).trans k254
      have k267 : ai_hv t364 276 0 = some (.inl (B 0)) := (e364 276 0 (by first | decide | omega)).trans k255
      have k268 : ai_hv t364 10 0 = some (.inl (B 0)) := (e364 10 0 (by first | decide | omega)).trans k256
      have k269 : ai_hv t364 11 0 = some (.inl 0) := (e364 11 0 (by first | decide | omega)).trans k257
      have k270 : ai_hv t364 12 0 = some (.inl 0) := (e364 12 0 (by first | decide | omega)).trans k258
      have k271 : ai_hv t364 13 0 = some (.inl 0) := (e364 13 0 (by first | decide | omega)).trans k259
      have k272 : ai_hv t364 14 0 = some (.inl 0) := (e364 14 0 (by first | decide | omega)).trans k260
      have k273 : ai_hv t364 276 1 = some (.inl (B 1)) := (e364 276 1 (by first | decide | omega)).trans k261
      have k274 : ai_hv t364 10 1 = some (.inl (B 1)) := (e364 10 1 (by first | decide | omega)).trans k262
      have k275 : ai_hv t364 11 1 = some (.inl 0) := (e364 11 1 (by first | decide | omega)).trans k263
      have k276 : ai_hv t364 12 1 = some (.inl 0) := (e364 12 1 (by first | decide | omega)).trans k352
      refine ex_go (S := (98, [(2, .inl 1), (0, gx_r 8), (1, gx_r 257)], [gx_r 8], t364, n, 0)) rfl (fun _ => rfl) rfl ?_
      refine gxo_ref (a := 8) (c := 14) rfl g364 rfl rfl rfl rfl rfl ?_
      refine ex_go (S := (102, [(2, .inl 1), (0, gx_r 8), (1, gx_r 257)], [.inl 1, gx_r 14], t364, n, 0)) rfl (fun _ => rfl) rfl ?_
      refine ex_go (S := (103, [(2, .inl 1), (0, gx_r 8), (1, gx_r 257)], [.inl 0, .inl 1, gx_r 14], t364, n, 0)) rfl (fun _ => rfl) rfl ?_
      refine gx_ap rfl (fun _ => rfl) g364 rfl rfl rfl (show 1 < 2 from by omega) rfl (ai_in_h (by first | decide | omega) (by first | decide | omega) (by first | decide | omega)) rfl (fun t377 g377 k377 e377 => ?_)
      have k278 : ai_hv t377 8 0 = some (.inl 0) := (e377 8 0 (by first | decide | omega)).trans k265
      have k279 : ai_hv t377 272 5 = some (.inl K) := (e377 272 5 (by first | decide | omega)).trans k266
      have k280 : ai_hv t377 276 0 = some (.inl (B 0)) := (e377 276 0 (by first | decide | omega)).trans k267
      have k281 : ai_hv t377 10 0 = some (.inl (B 0)) := (e377 10 0 (by first | decide | omega)).trans k268
      have k282 : ai_hv t377 11 0 = some (.inl 0) := (e377 11 0 (by first | decide | omega)).trans k269
      have k283 : ai_hv t377 12 0 = some (.inl 0) := (e377 12 0 (by first | decide | omega)).trans k270
      have k284 : ai_hv t377 13 0 = some (.inl 0) := (e377 13 0 (by first | decide | omega)).trans k271
      have k285 : ai_hv t377 14 0 = some (.inl 0) := (e377 14 0 (by first | decide | omega)).trans k272
      have k286 : ai_hv t377 276 1 = some (.inl (B 1)) := (e377 276 1 (by first | decide | omega)).trans k273
      have k287 : ai_hv t377 10 1 = some (.inl (B 1)) := (e377 10 1 (by first | decide | omega)).trans k274
      have k288 : ai_hv t377 11 1 = some (.inl 0) := (e377 11 1 (by first | decide | omega)).trans k275
      have k289 : ai_hv t377 12 1 = some (.inl 0) := (e377 12 1 (by first | decide | omega)).trans k276
      have k290 : ai_hv t377 13 1 = some (.inl 0) := (e377 13 1 (by first | decide | omega)).trans k364
      refine ex_go (S := (107, [(2, .inl 2), (0, gx_r 8), (1, gx_r 257)], [], t377, n, 0)) rfl (fun _ => rfl) rfl ?_
      refine ex_go (S := (41, [(2, .inl 2), (0, gx_r 8), (1, gx_r 257)], [], t377, n, 0)) rfl (fun _ => rfl) rfl ?_
      refine ex_go (S := (42, [(2, .inl 2), (0, gx_r 8), (1, gx_r 257)], [.inl 2], t377, n, 0)) rfl (fun _ => rfl) rfl ?_
      refine ex_go (S := (43, [(2, .inl 2), (0, gx_r 8), (1, gx_r 257)], [.inl 2, .inl 2], t377, n, 0)) rfl (fun _ => rfl) rfl ?_
      refine ex_go (S := (110, [(2, .inl 2), (0, gx_r 8), (1, gx_r 257)], [], t377, n, 0)) rfl (fun _ => rfl) rfl ?_
      refine ex_ret (r := (none, t377, n, 0)) rfl (fun _ => rfl) ?_
      refine ⟨_, rfl, t377, rfl, g377, (fun c i h => (e377 c i (by first | decide | omega)).trans ((e364 c i (by first | decide | omega)).trans ((e352 c i (by first | decide | omega)).trans ((e341 c i (by first | decide | omega)).trans ((e331 c i (by first | decide | omega)).trans ((e264 c i (by first | decide | omega)).trans ((e257 c i (by first | decide | omega)).trans ((e251 c i (by first | decide | omega)).trans ((e246 c i (by first | decide | omega)).trans ((e242 c i (by first | decide | omega)).trans ((i102.2 c i (by first | decide | omega)).trans (e101 c i (by first | decide | omega))))))))))))), k278, (fun i hi => (e377 9 i (by first | decide | omega)).trans ((e364 9 i (by first | decide | omega)).trans ((e352 9 i (by first | decide | omega)).trans ((e341 9 i (by first | decide | omega)).trans ((e331 9 i (by first | decide | omega)).trans ((e264 9 i (by first | decide | omega)).trans ((e257 9 i (by first | decide | omega)).trans ((e251 9 i (by first | decide | omega)).trans ((e246 9 i (by first | decide | omega)).trans ((e242 9 i (by first | decide | omega)).trans (i102.1 i hi))))))))))), fun c hc => ?_⟩
      rcases (show c = 0 ∨ c = 1 by omega) with rfl | rfl
      · exact ⟨k281, k282, k283, k284, k285⟩
      · exact ⟨k287, k288, k289, k290, k377⟩
theorem cb_l15_191 (d n : Nat) {tb : en_H} {Q : en_O → Prop} {T : Nat} {P : Nat → Nat} (hT : T ≤ 6) (kT : ai_hv tb 194 5 = some (.inl T)) (kP : ∀ i, i < T → ai_hv tb 197 i = some (.inl (P i))) (hP : ∀ i, i < T → P i ≤ 63) (hQ : ∀ t1, ai_HG ah_G t1 → (∀ i, i < T → ai_hv t1 16 i = some (.inl (P i))) ∧ (∀ c i, ¬ c = 16 → ai_hv t1 c i = ai_hv tb c i) → en_ex none (en_u (d + 1)) (en_code 22) (fun _ => false) (39, [(2, .inl T), (0, gx_r 15), (1, gx_r 191)], [], t1, n, 0) Q) : ∀ j k t0, k + j = T → ai_HG ah_G t0 → (∀ i, i < k → ai_hv t0 16 i = some (.inl (P i))) ∧ (∀ c i, ¬ c = 16 → ai_hv t0 c i = ai_hv tb c i) → en_ex none (en_u (d + 1)) (en_code 22) (fun _ => false) (7, [(2, .inl k), (0, gx_r 15), (1, gx_r 191)], [], t0, n, 0) Q := by
  intro j
  induction j with
  | zero =>
    intro k t0 hk g0 i0
    have hk : k = T := by omega
    subst hk
    have kc := (i0.2 194 5 (by first | decide | omega)).trans kT
    refine ex_go (S := (8, [(2, .inl k), (0, gx_r 15), (1, gx_r 191)], [.inl k], t0, n, 0)) rfl (fun _ => rfl) rfl ?_
    refine ex_go (S := (9, [(2, .inl k), (0, gx_r 15), (1, gx_r 191)], [gx_r 191, .inl k], t0, n, 0)) rfl (fun _ => rfl) rfl ?_
    refine gxo_ref (a := 191) (c := 194) rfl g0 rfl rfl rfl rfl rfl ?_
    refine gxo_get (a := 194) rfl g0 rfl rfl kc rfl ?_
    refine gx_2t (c := .ge) rfl (by first | decide | omega) (by first | decide | omega) (show k ≤ k from by omega) rfl ?_
    exact hQ t0 g0 i0
  | succ j ih =>
    intro k t0 hk g0 i0
    have kc := (i0.2 194 5 (by first | decide | omega)).trans kT
    have kq := (i0.2 197 k (by first | decide | omega)).trans (kP k (by first | decide | omega))
    have hq := hP k (by first | decide | omega)
    refine ex_go (S := (8, [(2, .inl k), (0, gx_r 15), (1, gx_r 191)], [.inl k], t0, n, 0)) rfl (fun _ => rfl) rfl ?_
    refine ex_go (S := (9, [(2, .inl k), (0, gx_r 15), (1, gx_r 191)], [gx_r 191, .inl k], t0, n, 0)) rfl (fun _ => rfl) rfl ?_
    refine gxo_ref (a := 191) (c := 194) rfl g0 rfl rfl rfl rfl rfl ?_
    refine gxo_get (a := 194) rfl g0 rfl rfl kc rfl ?_
    refine gx_2f (c := .ge) rfl (by first | decide | omega) (by first | decide | omega) (show ¬ (T ≤ k) from by omega) rfl ?_
    refine ex_go (S := (19, [(2, .inl k), (0, gx_r 15), (1, gx_r 191)], [gx_r 15], t0, n, 0)) rfl (fun _ => rfl) rfl ?_
    refine gxo_ref (a := 15) (c := 16) rfl g0 rfl rfl rfl rfl rfl ?_
    refine ex_go (S := (23, [(2, .inl k), (0, gx_r 15), (1, gx_r 191)], [.inl k, gx_r 16], t0, n, 0)) rfl (fun _ => rfl) rfl ?_
    refine ex_go (S := (24, [(2, .inl k), (0, gx_r 15), (1, gx_r 191)], [gx_r 191, .inl k, gx_r 16], t0, n, 0)) rfl (fun _ => rfl) rfl ?_
    refine gxo_ref (a := 191) (c := 194) rfl g0 rfl rfl rfl rfl rfl ?_
    refine gxo_ref (a := 194) (c := 197) rfl g0 rfl rfl rfl rfl rfl ?_
    refine ex_go (S := (31, [(2, .inl k), (0, gx_r 15), (1, gx_r 191)], [.inl k, gx_r 197, .inl k, gx_r 16], t0, n, 0)) rfl (fun _ => rfl) rfl ?_
    refine gx_ag (v := .inl (P k)) (cb := fun c => Nat.beq c 0) rfl (fun _ => rfl) g0 rfl rfl kq (by first | decide | omega) rfl ?_
    refine gx_ap rfl (fun _ => rfl) g0 rfl rfl rfl (show k < 6 from by omega) (gx_run1 (show k < 6 from by omega)) (ai_in_h (by first | decide | omega) (by first | decide | omega) (by first | decide | omega)) rfl (fun t101 g101 k101 e101 => ?_)
    have k2 : ai_hv t101 194 5 = some (.inl T) := (e101 194 5 (by first | decide | omega)).trans kc
    have k3 : ai_hv t101 197 k = some (.inl (P k)) := (e101 197 k (by first | decide | omega)).trans kq
    refine gx_iinc (i := 2) (k := 1) rfl (fun _ => rfl) (by first | decide | omega) rfl ?_
    show en_ex _ _ _ _ (36, [(2, .inl (k + 1)), (0, gx_r 15), (1, gx_r 191)], [], t101, n, 0) _
    refine ex_go (S := (7, [(2, .inl (k + 1)), (0, gx_r 15), (1, gx_r 191)], [], t101, n, 0)) rfl (fun _ => rfl) rfl ?_
    refine ih (k + 1) t101 (by first | decide | omega) g101 ⟨fun i hi => ?_, fun c i h => (e101 c i (by first | decide | omega)).trans (i0.2 c i h)⟩
    by_cases e9 : i = k
    · rw [e9]; exact k101
    · exact (e101 16 i (by first | decide | omega)).trans (i0.1 i (by first | decide | omega))
theorem pc_begin15_191 (d n : Nat) {t0 : en_H} (g0 : ai_HG ah_G t0) {T : Nat} {P : Nat → Nat} (hT : T ≤ 6) (kT : ai_hv t0 194 5 = some (.inl T)) (kP : ∀ i, i < T → ai_hv t0 197 i = some (.inl (P i))) (hP : ∀ i, i < T → P i ≤ 63) {K : Nat} {B : Nat → Nat} (hK : K ≤ 2) (kK : ai_hv t0 206 5 = some (.inl K)) (kB : ∀ c, c < K → ai_hv t0 210 c = some (.inl (B c))) (hB : ∀ c, c < K → B c ≤ 9999) : ∃ r, en_u (d + 2) 22 [gx_r 15, gx_r 191] t0 n = some r ∧ ∃ t', r = (none, t', n, 0) ∧ ai_HG ah_G t' ∧ (∀ c i, ¬ (15 ≤ c ∧ c ≤ 21) → ai_hv t' c i = ai_hv t0 c i) ∧ ai_hv t' 15 0 = some (.inl 0) ∧ (∀ i, i < T → ai_hv t' 16 i = some (.inl (P i))) ∧ ∀ c, c < K → ai_hv t' 17 c = some (.inl (B c)) ∧ ai_hv t' 18 c = some (.inl 0) ∧ ai_hv t' 19 c = some (.inl 0) ∧ ai_hv t' 20 c = some (.inl 0) ∧ ai_hv t' 21 c = some (.inl 0) := by
  refine en_u_ex (d := d + 1) rfl ?_
  show en_ex _ _ _ _ (0, [(0, gx_r 15), (1, gx_r 191)], [], t0, n, 0) _
  refine ex_go (S := (1, [(0, gx_r 15), (1, gx_r 191)], [gx_r 15], t0, n, 0)) rfl (fun _ => rfl) rfl ?_
  refine ex_go (S := (2, [(0, gx_r 15), (1, gx_r 191)], [.inl 0, gx_r 15], t0, n, 0)) rfl (fun _ => rfl) rfl ?_
  refine gxo_put (a := 15) rfl g0 rfl rfl rfl (gx_full (by first | decide | omega)) rfl (fun t101 g101 k101 e101 => ?_)
  refine ex_go (S := (6, [(0, gx_r 15), (1, gx_r 191)], [.inl 0], t101, n, 0)) rfl (fun _ => rfl) rfl ?_
  refine ex_go (S := (7, [(2, .inl 0), (0, gx_r 15), (1, gx_r 191)], [], t101, n, 0)) rfl (fun _ => rfl) rfl ?_
  refine cb_l15_191 d n (tb := t101) hT ((e101 194 5 (by first | decide | omega)).trans (kT)) (fun i hi => (e101 197 i (by first | decide | omega)).trans (kP i hi)) hP (fun t102 g102 i102 => ?_) T 0 _ (by first | decide | omega) g101 ⟨fun i hi => absurd hi (Nat.not_lt_zero i), fun _ _ _ => rfl⟩
  have k3 : ai_hv t102 15 0 = some (.inl 0) := (i102.2 15 0 (by first | decide | omega)).trans k101
  refine ex_go (S := (40, [(2, .inl T), (0, gx_r 15), (1, gx_r 191)], [.inl 0], t102, n, 0)) rfl (fun _ => rfl) rfl ?_
  refine ex_go (S := (41, [(2, .inl 0), (0, gx_r 15), (1, gx_r 191)], [], t102, n, 0)) rfl (fun _ => rfl) rfl ?_
  refine ex_go (S := (42, [(2, .inl 0), (0, gx_r 15), (1, gx_r 191)], [.inl 0], t102, n, 0)) rfl (fun _ => rfl) rfl ?_
  refine ex_go (S := (43, [(2, .inl 0), (0, gx_r 15), (1, gx_r 191)], [.inl 2, .inl 0], t102, n, 0)) rfl (fun _ => rfl) rfl ?_
  refine ex_go (S := (46, [(2, .inl 0), (0, gx_r 15), (1, gx_r 191)], [], t102, n, 0)) rfl (fun _ => rfl) rfl ?_
  refine ex_go (S := (47, [(2, .inl 0), (0, gx_r 15), (1, gx_r 191)], [gx_r 15], t102, n, 0)) rfl (fun _ => rfl) rfl ?_
  refine gxo_ref (a := 15) (c := 17) rfl g102 rfl rfl rfl rfl rfl ?_
  refine ex_go (S := (51, [(2, .inl 0), (0, gx_r 15), (1, gx_r 191)], [.inl 0, gx_r 17], t102, n, 0)) rfl (fun _ => rfl) rfl ?_
  refine ex_go (S := (52, [(2, .inl 0), (0, gx_r 15), (1, gx_r 191)], [gx_r 191, .inl 0, gx_r 17], t102, n, 0)) rfl (fun _ => rfl) rfl ?_
  refine gxo_ref (a := 191) (c := 206) rfl g102 rfl rfl rfl rfl rfl ?_
  refine ex_go (S := (56, [(2, .inl 0), (0, gx_r 15), (1, gx_r 191)], [.inl 0, gx_r 206, .inl 0, gx_r 17], t102, n, 0)) rfl (fun _ => rfl) rfl ?_
  obtain ⟨_, r4, b5, rfl, b5b, q6⟩ := pz_holds206 (d) n (x := 0) g102 (by first | decide | omega) ((i102.2 206 5 (by first | decide | omega)).trans ((e101 206 5 (by first | decide | omega)).trans (kK))) (by first | decide | omega)
  refine gx_callo (a := 206) rfl rfl g102 rfl rfl rfl r4 rfl ?_
  show en_ex _ _ _ _ (59, [(2, .inl 0), (0, gx_r 15), (1, gx_r 191)], [.inl b5, .inl 0, gx_r 17], t102, n, 0) _
  by_cases hc7 : b5 = 0
  · refine gx_1t (c := .eq) rfl (by first | decide | omega) hc7 rfl ?_
    refine ex_go (S := (75, [(2, .inl 0), (0, gx_r 15), (1, gx_r 191)], [.inl 0, .inl 0, gx_r 17], t102, n, 0)) rfl (fun _ => rfl) rfl ?_
    refine gx_ap rfl (fun _ => rfl) g102 rfl rfl rfl (show 0 < 2 from by omega) rfl (gx_full (by first | decide | omega)) rfl (fun t108 g108 k108 e108 => ?_)
    have k9 : ai_hv t108 15 0 = some (.inl 0) := (e108 15 0 (by first | decide | omega)).trans k3
    have k10 : ai_hv t108 206 5 = some (.inl K) := (e108 206 5 (by first | decide | omega)).trans ((i102.2 206 5 (by first | decide | omega)).trans ((e101 206 5 (by first | decide | omega)).trans (kK)))
    refine ex_go (S := (77, [(2, .inl 0), (0, gx_r 15), (1, gx_r 191)], [gx_r 15], t108, n, 0)) rfl (fun _ => rfl) rfl ?_
    refine gxo_ref (a := 15) (c := 18) rfl g108 rfl rfl rfl rfl rfl ?_
    refine ex_go (S := (81, [(2, .inl 0), (0, gx_r 15), (1, gx_r 191)], [.inl 0, gx_r 18], t108, n, 0)) rfl (fun _ => rfl) rfl ?_
    refine ex_go (S := (82, [(2, .inl 0), (0, gx_r 15), (1, gx_r 191)], [.inl 0, .inl 0, gx_r 18], t108, n, 0)) rfl (fun _ => rfl) rfl ?_
    refine gx_ap rfl (fun _ => rfl) g108 rfl rfl rfl (show 0 < 2 from by omega) rfl (gx_full (by first | decide | omega)) rfl (fun t111 g111 k111 e111 => ?_)
    have k12 : ai_hv t111 15 0 = some (.inl 0) := (e111 15 0 (by first | decide | omega)).trans k9
    have k13 : ai_hv t111 206 5 = some (.inl K) := (e111 206 5 (by first | decide | omega)).trans k10
    have k14 : ai_hv t111 17 0 = some (.inl 0) := (e111 17 0 (by first | decide | omega)).trans k108
    refine ex_go (S := (84, [(2, .inl 0), (0, gx_r 15), (1, gx_r 191)], [gx_r 15], t111, n, 0)) rfl (fun _ => rfl) rfl ?_
    refine gxo_ref (a := 15) (c := 19) rfl g111 rfl rfl rfl rfl rfl ?_
    refine ex_go (S := (88, [(2, .inl 0), (0, gx_r 15), (1, gx_r 191)], [.inl 0, gx_r 19], t111, n, 0)) rfl (fun _ => rfl) rfl ?_
    refine ex_go (S := (89, [(2, .inl 0), (0, gx_r 15), (1, gx_r 191)], [.inl 0, .inl 0, gx_r 19], t111, n, 0)) rfl (fun _ => rfl) rfl ?_
    refine gx_apv (d := 2) rfl (fun _ => rfl) g111 rfl rfl rfl (show 0 < 2 from by omega) rfl (ai_in_h (by first | decide | omega) (by first | decide | omega) (by first | decide | omega)) rfl (fun t115 g115 k115 e115 => ?_)
    have k16 : ai_hv t115 15 0 = some (.inl 0) := (e115 15 0 (by first | decide | omega)).trans k12
    have k17 : ai_hv t115 206 5 = some (.inl K) := (e115 206 5 (by first | decide | omega)).trans k13
    have k18 : ai_hv t115 17 0 = some (.inl 0) := (e115 17 0 (by first | decide | omega)).trans k14
    have k19 : ai_hv t115 18 0 = some (.inl 0) := (e115 18 0 (by first | decide | omega)).trans k111
    refine ex_go (S := (91, [(2, .inl 0), (0, gx_r 15), (1, gx_r 191)], [gx_r 15], t115, n, 0)) rfl (fun _ => rfl) rfl ?_
    refine gxo_ref (a := 15) (c := 20) rfl g115 rfl rfl rfl rfl rfl ?_
    refine ex_go (S := (95, [(2, .inl 0), (0, gx_r 15), (1, gx_r 191)], [.inl 0, gx_r 20], t115, n, 0)) rfl (fun _ => rfl) rfl ?_
    refine ex_go (S := (96, [(2, .inl 0), (0, gx_r 15), (1, gx_r 191)], [.inl 0, .inl 0, gx_r 20], t115, n, 0)) rfl (fun _ => rfl) rfl ?_
    refine gx_apv (d := 2) rfl (fun _ => rfl) g115 rfl rfl rfl (show 0 < 2 from by omega) rfl (ai_in_h (by first | decide | omega) (by first | decide | omega) (by first | decide | omega)) rfl (fun t120 g120 k120 e120 => ?_)
    have k21 : ai_hv t120 15 0 = some (.inl 0) := (e120 15 0 (by first | decide | omega)).trans k16
    have k22 : ai_hv t120 206 5 = some (.inl K) := (e120 206 5 (by first | decide | omega)).trans k17
    have k23 : ai_hv t120 17 0 = some (.inl 0) := (e120 17 0 (by first | decide | omega)).trans k18
    have k24 : ai_hv t120 18 0 = some (.inl 0) := (e120 18 0 (by first | decide | omega)).trans k19
    have k25 : ai_hv t120 19 0 = some (.inl 0) := (e120 19 0 (by first | decide | omega)).trans k115
    refine ex_go (S := (98, [(2, .inl 0), (0, gx_r 15), (1, gx_r 191)], [gx_r 15], t120, n, 0)) rfl (fun _ => rfl) rfl ?_
    refine gxo_ref (a := 15) (c := 21) rfl g120 rfl rfl rfl rfl rfl ?_
    refine ex_go (S := (102, [(2, .inl 0), (0, gx_r 15), (1, gx_r 191)], [.inl 0, gx_r 21], t120, n, 0)) rfl (fun _ => rfl) rfl ?_
    refine ex_go (S := (103, [(2, .inl 0), (0, gx_r 15), (1, gx_r 191)], [.inl 0, .inl 0, gx_r 21], t120, n, 0)) rfl (fun _ => rfl) rfl ?_
    refine gx_ap rfl (fun _ => rfl) g120 rfl rfl rfl (show 0 < 2 from by omega) rfl (ai_in_h (by first | decide | omega) (by first | decide | omega) (by first | decide | omega)) rfl (fun t126 g126 k126 e126 => ?_)
    have k27 : ai_hv t126 15 0 = some (.inl 0) := (e126 15 0 (by first | decide | omega)).trans k21
    have k28 : ai_hv t126 206 5 = some (.inl K) := (e126 206 5 (by first | decide | omega)).trans k22
    have k29 : ai_hv t126 17 0 = some (.inl 0) := (e126 17 0 (by first | decide | omega)).trans k23
    have k30 : ai_hv t126 18 0 = some (.inl 0) := (e126 18 0 (by first | decide | omega)).trans k24
    have k31 : ai_hv t126 19 0 = some (.inl 0) := (e126 19 0 (by first | decide | omega)).trans k25
    have k32 : ai_hv t126 20 0 = some (.inl 0) := (e126 20 0 (by first | decide | omega)).trans k120
    refine ex_go (S := (107, [(2, .inl 1), (0, gx_r 15), (1, gx_r 191)], [], t126, n, 0)) rfl (fun _ => rfl) rfl ?_
    refine ex_go (S := (41, [(2, .inl 1), (0, gx_r 15), (1, gx_r 191)], [], t126, n, 0)) rfl (fun _ => rfl) rfl ?_
    refine ex_go (S := (42, [(2, .inl 1), (0, gx_r 15), (1, gx_r 191)], [.inl 1], t126, n, 0)) rfl (fun _ => rfl) rfl ?_
    refine ex_go (S := (43, [(2, .inl 1), (0, gx_r 15), (1, gx_r 191)], [.inl 2, .inl 1], t126, n, 0)) rfl (fun _ => rfl) rfl ?_
    refine ex_go (S := (46, [(2, .inl 1), (0, gx_r 15), (1, gx_r 191)], [], t126, n, 0)) rfl (fun _ => rfl) rfl ?_
    refine ex_go (S := (47, [(2, .inl 1), (0, gx_r 15), (1, gx_r 191)], [gx_r 15], t126, n, 0)) rfl (fun _ => rfl) rfl ?_
    refine gxo_ref (a := 15) (c := 17) rfl g126 rfl rfl rfl rfl rfl ?_
    refine ex_go (S := (51, [(2, .inl 1), (0, gx_r 15), (1, gx_r 191)], [.inl 1, gx_r 17], t126, n, 0)) rfl (fun _ => rfl) rfl ?_
    refine ex_go (S := (52, [(2, .inl 1), (0, gx_r 15), (1, gx_r 191)], [gx_r 191, .inl 1, gx_r 17], t126, n, 0)) rfl (fun _ => rfl) rfl ?_
    refine gxo_ref (a := 191) (c := 206) rfl g126 rfl rfl rfl rfl rfl ?_
    refine ex_go (S := (56, [(2, .inl 1), (0, gx_r 15), (1, gx_r 191)], [.inl 1, gx_r 206, .inl 1, gx_r 17], t126, n, 0)) rfl (fun _ => rfl) rfl ?_
    obtain ⟨_, r33, b34, rfl, b34b, q35⟩ := pz_holds206 (d) n (x := 1) g126 (by first | decide | omega) ((e126 206 5 (by first | decide | omega)).trans ((e120 206 5 (by first | decide | omega)).trans ((e115 206 5 (by first | decide | omega)).trans ((e111 206 5 (by first | decide | omega)).trans ((e108 206 5 (by first | decide | omega)).trans ((i102.2 206 5 (by first | decide | omega)).trans ((e101 206 5 (by first | decide | omega)).trans (kK)))))))) (by first | decide | omega)
    refine gx_callo (a := 206) rfl rfl g126 rfl rfl rfl r33 rfl ?_
    show en_ex _ _ _ _ (59, [(2, .inl 1), (0, gx_r 15), (1, gx_r 191)], [.inl b34, .inl 1, gx_r 17], t126, n, 0) _
    by_cases hc36 : b34 = 0
    · refine gx_1t (c := .eq) rfl (by first | decide | omega) hc36 rfl ?_
      refine ex_go (S := (75, [(2, .inl 1), (0, gx_r 15), (1, gx_r 191)], [.inl 0, .inl 1, gx_r 17], t126, n, 0)) rfl (fun _ => rfl) rfl ?_
      refine gx_ap rfl (fun _ => rfl) g126 rfl rfl rfl (show 1 < 2 from by omega) rfl (gx_full (by first | decide | omega)) rfl (fun t137 g137 k137 e137 => ?_)
      have k38 : ai_hv t137 15 0 = some (.inl 0) := (e137 15 0 (by first | decide | omega)).trans k27
      have k39 : ai_hv t137 206 5 = some (.inl K) := (e137 206 5 (by first | decide | omega)).trans ((e126 206 5 (by first | decide | omega)).trans ((e120 206 5 (by first | decide | omega)).trans ((e115 206 5 (by first | decide | omega)).trans ((e111 206 5 (by first | decide | omega)).trans ((e108 206 5 (by first | decide | omega)).trans ((i102.2 206 5 (by first | decide | omega)).trans ((e101 206 5 (by first | decide | omega)).trans (kK))))))))
      have k40 : ai_hv t137 17 0 = some (.inl 0) := (e137 17 0 (by first | decide | omega)).trans k29
      have k41 : ai_hv t137 18 0 = some (.inl 0) := (e137 18 0 (by first | decide | omega)).trans k30
      have k42 : ai_hv t137 19 0 = some (.inl 0) := (e137 19 0 (by first | decide | omega)).trans k31
      have k43 : ai_hv t137 20 0 = some (.inl 0) := (e137 20 0 (by first | decide | omega)).trans k32
      have k44 : ai_hv t137 21 0 = some (.inl 0) := (e137 21 0 (by first | decide | omega)).trans k126
      refine ex_go (S := (77, [(2, .inl 1), (0, gx_r 15), (1, gx_r 191)], [gx_r 15], t137, n, 0)) rfl (fun _ => rfl) rfl ?_
      refine gxo_ref (a := 15) (c := 18) rfl g137 rfl rfl rfl rfl rfl ?_
      refine ex_go (S := (81, [(2, .inl 1), (0, gx_r 15), (1, gx_r 191)], [.inl 1, gx_r 18], t137, n, 0)) rfl (fun _ => rfl) rfl ?_
      refine ex_go (S := (82, [(2, .inl 1), (0, gx_r 15), (1, gx_r 191)], [.inl 0, .inl 1, gx_r 18], t137, n, 0)) rfl (fun _ => rfl) rfl ?_
      refine gx_ap rfl (fun _ => rfl) g137 rfl rfl rfl (show 1 < 2 from by omega) rfl (gx_full (by first | decide | omega)) rfl (fun t145 g145 k145 e145 => ?_)
      have k46 : ai_hv t145 15 0 = some (.inl 0) := (e145 15 0 (by first | decide | omega)).trans k38
      have k47 : ai_hv t145 206 5 = some (.inl K) := (e145 206 5 (by first | decide | omega)).trans k39
      have k48 : ai_hv t145 17 0 = some (.inl 0) := (e145 17 0 (by first | decide | omega)).trans k40
      have k49 : ai_hv t145 18 0 = some (.inl 0) := (e145 18 0 (by first | decide | omega)).trans k41
      have k50 : ai_hv t145 19 0 = some (.inl 0) := (e145 19 0 (by first | decide | omega)).trans k42
      have k51 : ai_hv t145 20 0 = some (.inl 0) := (e145 20 0 (by first | decide | omega)).trans k43
      have k52 : ai_hv t145 21 0 = some (.inl 0) := (e145 21 0 (by first | decide | omega)).trans k44
      have k53 : ai_hv t145 17 1 = some (.inl 0) := (e145 17 1 (by first | decide | omega)).trans k137
      refine ex_go (S := (84, [(2, .inl 1), (0, gx_r 15), (1, gx_r 191)], [gx_r 15], t145, n, 0)) rfl (fun _ => rfl) rfl ?_
      refine gxo_ref (a := 15) (c := 19) rfl g145 rfl rfl rfl rfl rfl ?_
      refine ex_go (S := (88, [(2, .inl 1), (0, gx_r 15), (1, gx_r 191)], [.inl 1, gx_r 19], t145, n, 0)) rfl (fun _ => rfl) rfl ?_
      refine ex_go (S := (89, [(2, .inl 1), (0, gx_r 15), (1, gx_r 191)], [.inl 0, .inl 1, gx_r 19], t145, n, 0)) rfl (fun _ => rfl) rfl ?_
      refine gx_apv (d := 2) rfl (fun _ => rfl) g145 rfl rfl rfl (show 1 < 2 from by omega) rfl (ai_in_h (by first | decide | omega) (by first | decide | omega) (by first | decide | omega)) rfl (fun t154 g154 k154 e154 => ?_)
      have k55 : ai_hv t154 15 0 = some (.inl 0) := (e154 15 0 (by first | decide | omega)).trans k46
      have k56 : ai_hv t154 206 5 = some (.inl K) := (e154 206 5 (by first | decide | omega)).trans k47
      have k57 : ai_hv t154 17 0 = some (.inl 0) := (e154 17 0 (by first | decide | omega)).trans k48
      have k58 : ai_hv t154 18 0 = some (.inl 0) := (e154 18 0 (by first | decide | omega)).trans k49
      have k59 : ai_hv t154 19 0 = some (.inl 0) := (e154 19 0 (by first | decide | omega)).trans k50
      have k60 : ai_hv t154 20 0 = some (.inl 0) := (e154 20 0 (by first | decide | omega)).trans k51
      have k61 : ai_hv t154 21 0 = some (.inl 0) := (e154 21 0 (by first | decide | omega)).trans k52
      have k62 : ai_hv t154 17 1 = some (.inl 0) := (e154 17 1 (by first | decide | omega)).trans k53
      have k63 : ai_hv t154 18 1 = some (.inl 0) := (e154 18 1 (by first | decide | omega)).trans k145
      refine ex_go (S := (91, [(2, .inl 1), (0, gx_r 15), (1, gx_r 191)], [gx_r 15], t154, n, 0)) rfl (fun _ => rfl) rfl ?_
      refine gxo_ref (a := 15) (c := 20) rfl g154 rfl rfl rfl rfl rfl ?_
      refine ex_go (S := (95, [(2, .inl 1), (0, gx_r 15), (1, gx_r 191)], [.inl 1, gx_r 20], t154, n, 0)) rfl (fun _ => rfl) rfl ?_
      refine ex_go (S := (96, [(2, .inl 1), (0, gx_r 15), (1, gx_r 191)], [.inl 0, .inl 1, gx_r 20], t154, n, 0)) rfl (fun _ => rfl) rfl ?_
      refine gx_apv (d := 2) rfl (fun _ => rfl) g154 rfl rfl rfl (show 1 < 2 from by omega) rfl (ai_in_h (by first | decide | omega) (by first | decide | omega) (by first | decide | omega)) rfl (fun t164 g164 k164 e164 => ?_)
      have k65 : ai_hv t164 15 0 = some (.inl 0) := (e164 15 0 (by first | decide | omega)).trans k55
      have k66 : ai_hv t164 206 5 = some (.inl K) := (e164 206 5 (by first | decide | omega)).trans k56
      have k67 : ai_hv t164 17 0 = some (.inl 0) := (e164 17 0 (by first | decide | omega)).trans k57
      have k68 : ai_hv t164 18 0 = some (.inl 0) := (e164 18 0 (by first | decide | omega)).trans k58
      have k69 : ai_hv t164 19 0 = some (.inl 0) := (e164 19 0 (by first | decide | omega)).trans k59
      have k70 : ai_hv t164 20 0 = some (.inl 0) := (e164 20 0 (by first | decide | omega)).trans k60
      have k71 : ai_hv t164 21 0 = some (.inl 0) := (e164 21 0 (by first | decide | omega)).trans k61
      have k72 : ai_hv t164 17 1 = some (.inl 0) := (e164 17 1 (by first | decide | omega)).trans k62
      have k73 : ai_hv t164 18 1 = some (.inl 0) := (e164 18 1 (by first | decide | omega)).trans k63
      have k74 : ai_hv t164 19 1 = some (.inl 0) := (e164 19 1 (by first | decide | omega)).trans k154
      refine ex_go (S := (98, [(2, .inl 1), (0, gx_r 15), (1, gx_r 191)], [gx_r 15], t164, n, 0)) rfl (fun _ => rfl) rfl ?_
      refine gxo_ref (a := 15) (c := 21) rfl g164 rfl rfl rfl rfl rfl ?_
      refine ex_go (S := (102, [(2, .inl 1), (0, gx_r 15), (1, gx_r 191)], [.inl 1, gx_r 21], t164, n, 0)) rfl (fun _ => rfl) rfl ?_
      refine ex_go (S := (103, [(2, .inl 1), (0, gx_r 15), (1, gx_r 191)], [.inl 0, .inl 1, gx_r 21], t164, n, 0)) rfl (fun _ => rfl) rfl ?_
      refine gx_ap rfl (fun _ => rfl) g164 rfl rfl rfl (show 1 < 2 from by omega) rfl (ai_in_h (by first | decide | omega) (by first | decide | omega) (by first | decide | omega)) rfl (fun t175 g175 k175 e175 => ?_)
      have k76 : ai_hv t175 15 0 = some (.inl 0) := (e175 15 0 (by first | decide | omega)).trans k65
      have k77 : ai_hv t175 206 5 = some (.inl K) := (e175 206 5 (by first | decide | omega)).trans k66
      have k78 : ai_hv t175 17 0 = some (.inl 0) := (e175 17 0 (by first | decide | omega)).trans k67
      have k79 : ai_hv t175 18 0 = some (.inl 0) := (e175 18 0 (by first | decide | omega)).trans k68
      have k80 : ai_hv t175 19 0 = some (.inl 0) := (e175 19 0 (by first | decide | omega)).trans k69
      have k81 : ai_hv t175 20 0 = some (.inl 0) := (e175 20 0 (by first | decide | omega)).trans k70
      have k82 : ai_hv t175 21 0 = some (.inl 0) := (e175 21 0 (by first | decide | omega)).trans k71
      have k83 : ai_hv t175 17 1 = some (.inl 0) := (e175 17 1 (by first | decide | omega)).trans k72
      have k84 : ai_hv t175 18 1 = some (.inl 0) := (e175 18 1 (by first | decide | omega)).trans k73
      have k85 : ai_hv t175 19 1 = some (.inl 0) := (e175 19 1 (by first | decide | omega)).trans k74
      have k86 : ai_hv t175 20 1 = some (.inl 0) := (e175 20 1 (by first | decide | omega)).trans k164
      refine ex_go (S := (107, [(2, .inl 2), (0, gx_r 15), (1, gx_r 191)], [], t175, n, 0)) rfl (fun _ => rfl) rfl ?_
      refine ex_go (S := (41, [(2, .inl 2), (0, gx_r 15), (1, gx_r 191)], [], t175, n, 0)) rfl (fun _ => rfl) rfl ?_
      refine ex_go (S := (42, [(2, .inl 2), (0, gx_r 15), (1, gx_r 191)], [.inl 2], t175, n, 0)) rfl (fun _ => rfl) rfl ?_
      refine ex_go (S := (43, [(2, .inl 2), (0, gx_r 15), (1, gx_r 191)], [.inl 2, .inl 2], t175, n, 0)) rfl (fun _ => rfl) rfl ?_
      refine ex_go (S := (110, [(2, .inl 2), (0, gx_r 15), (1, gx_r 191)], [], t175, n, 0)) rfl (fun _ => rfl) rfl ?_
      refine ex_ret (r := (none, t175, n, 0)) rfl (fun _ => rfl) ?_
      refine ⟨_, rfl, t175, rfl, g175, (fun c i h => (e175 c i (by first | decide | omega)).trans ((e164 c i (by first | decide | omega)).trans ((e154 c i (by first | decide | omega)).trans ((e145 c i (by first | decide | omega)).trans ((e137 c i (by first | decide | omega)).trans ((e126 c i (by first | decide | omega)).trans ((e120 c i (by first | decide | omega)).trans ((e115 c i (by first | decide | omega)).trans ((e111 c i (by first | decide | omega)).trans ((e108 c i (by first | decide | omega)).trans ((i102.2 c i (by first | decide | omega)).trans (e101 c i (by first | decide | omega))))))))))))), k76, (fun i hi => (e175 16 i (by first | decide | omega)).trans ((e164 16 i (by first | decide | omega)).trans ((e154 16 i (by first | decide | omega)).trans ((e145 16 i (by first | decide | omega)).trans ((e137 16 i (by first | decide | omega)).trans ((e126 16 i (by first | decide | omega)).trans ((e120 16 i (by first | decide | omega)).trans ((e115 16 i (by first | decide | omega)).trans ((e111 16 i (by first | decide | omega)).trans ((e108 16 i (by first | decide | omega)).trans (i102.1 i hi))))))))))), fun c hc => ?_⟩
      rcases (show c = 0 ∨ c = 1 by omega) with rfl | rfl
      · omega
      · omega
    · refine gx_1f (c := .eq) rfl (by first | decide | omega) hc36 rfl ?_
      refine ex_go (S := (63, [(2, .inl 1), (0, gx_r 15), (1, gx_r 191)], [gx_r 191, .inl 1, gx_r 17], t126, n, 0)) rfl (fun _ => rfl) rfl ?_
      refine gxo_ref (a := 191) (c := 206) rfl g126 rfl rfl rfl rfl rfl ?_
      refine gxo_ref (a := 206) (c := 210) rfl g126 rfl rfl rfl rfl rfl ?_
      refine ex_go (S := (70, [(2, .inl 1), (0, gx_r 15), (1, gx_r 191)], [.inl 1, gx_r 210, .inl 1, gx_r 17], t126, n, 0)) rfl (fun _ => rfl) rfl ?_
      have := hB 1 (by first | decide | omega)
      refine gx_ag (v := .inl (B 1)) (cb := fun c => Nat.beq c 0) rfl (fun _ => rfl) g126 rfl rfl ((e126 210 1 (by first | decide | omega)).trans ((e120 210 1 (by first | decide | omega)).trans ((e115 210 1 (by first | decide | omega)).trans ((e111 210 1 (by first | decide | omega)).trans ((e108 210 1 (by first | decide | omega)).trans ((i102.2 210 1 (by first | decide | omega)).trans ((e101 210 1 (by first | decide | omega)).trans (kB 1 (by first | decide | omega))))))))) (by first | decide | omega) rfl ?_
      refine ex_go (S := (75, [(2, .inl 1), (0, gx_r 15), (1, gx_r 191)], [.inl (B 1), .inl 1, gx_r 17], t126, n, 0)) rfl (fun _ => rfl) rfl ?_
      refine gx_ap rfl (fun _ => rfl) g126 rfl rfl rfl (show 1 < 2 from by omega) rfl (gx_full (by first | decide | omega)) rfl (fun t187 g187 k187 e187 => ?_)
      have k88 : ai_hv t187 15 0 = some (.inl 0) := (e187 15 0 (by first | decide | omega)).trans k27
      have k89 : ai_hv t187 206 5 = some (.inl K) := (e187 206 5 (by first | decide | omega)).trans ((e126 206 5 (by first | decide | omega)).trans ((e120 206 5 (by first | decide | omega)).trans ((e115 206 5 (by first | decide | omega)).trans ((e111 206 5 (by first | decide | omega)).trans ((e108 206 5 (by first | decide | omega)).trans ((i102.2 206 5 (by first | decide | omega)).trans ((e101 206 5 (by first | decide | omega)).trans (kK))))))))
      have k90 : ai_hv t187 17 0 = some (.inl 0) := (e187 17 0 (by first | decide | omega)).trans k29
      have k91 : ai_hv t187 18 0 = some (.inl 0) := (e187 18 0 (by first | decide | omega)).trans k30
      have k92 : ai_hv t187 19 0 = some (.inl 0) := (e187 19 0 (by first | decide | omega)).trans k31
      have k93 : ai_hv t187 20 0 = some (.inl 0) := (e187 20 0 (by first | decide | omega)).trans k32
      have k94 : ai_hv t187 21 0 = some (.inl 0) := (e187 21 0 (by first | decide | omega)).trans k126
      have k95 : ai_hv t187 210 1 = some (.inl (B 1)) := (e187 210 1 (by first | decide | omega)).trans ((e126 210 1 (by first | decide | omega)).trans ((e120 210 1 (by first | decide | omega)).trans ((e115 210 1 (by first | decide | omega)).trans ((e111 210 1 (by first | decide | omega)).trans ((e108 210 1 (by first | decide | omega)).trans ((i102.2 210 1 (by first | decide | omega)).trans ((e101 210 1 (by first | decide | omega)).trans (kB 1 (by first | decide | omega)))))))))
      refine ex_go (S := (77, [(2, .inl 1), (0, gx_r 15), (1, gx_r 191)], [gx_r 15], t187, n, 0)) rfl (fun _ => rfl) rfl ?_
      refine gxo_ref (a := 15) (c := 18) rfl g187 rfl rfl rfl rfl rfl ?_
      refine ex_go (S := (81, [(2, .inl 1), (0, gx_r 15), (1, gx_r 191)], [.inl 1, gx_r 18], t187, n, 0)) rfl (fun _ => rfl) rfl ?_
      refine ex_go (S := (82, [(2, .inl 1), (0, gx_r 15), (1, gx_r 191)], [.inl 0, .inl 1, gx_r 18], t187, n, 0)) rfl (fun _ => rfl) rfl ?_
      refine gx_ap rfl (fun _ => rfl) g187 rfl rfl rfl (show 1 < 2 from by omega) rfl (gx_full (by first | decide | omega)) rfl (fun t196 g196 k196 e196 => ?_)
      have k97 : ai_hv t196 15 0 = some (.inl 0) := (e196 15 0 (by first | decide | omega)).trans k88
      have k98 : ai_hv t196 206 5 = some (.inl K) := (e196 206 5 (by first | decide | omega)).trans k89
      have k99 : ai_hv t196 17 0 = some (.inl 0) := (e196 17 0 (by first | decide | omega)).trans k90
      have k100 : ai_hv t196 18 0 = some (.inl 0) := (e196 18 0 (by first | decide | omega)).trans k91
      have k101 : ai_hv t196 19 0 = some (.inl 0) := (e196 19 0 (by first | decide | omega)).trans k92
      have k102 : ai_hv t196 20 0 = some (.inl 0) := (e196 20 0 (by first | decide | omega)).trans k93
      have k103 : ai_hv t196 21 0 = some (.inl 0) := (e196 21 0 (by first | decide | omega)).trans k94
      have k104 : ai_hv t196 210 1 = some (.inl (B 1)) := (e196 210 1 (by first | decide | omega)).trans k95
      have k105 : ai_hv t196 17 1 = some (.inl (B 1)) := (e196 17 1 (by first | decide | omega)).trans k187
      refine ex_go (S := (84, [(2, .inl 1), (0, gx_r 15), (1, gx_r 191)], [gx_r 15], t196, n, 0)) rfl (fun _ => rfl) rfl ?_
      refine gxo_ref (a := 15) (c := 19) rfl g196 rfl rfl rfl rfl rfl ?_
      refine ex_go (S := (88, [(2, .inl 1), (0, gx_r 15), (1, gx_r 191)], [.inl 1, gx_r 19], t196, n, 0)) rfl (fun _ => rfl) rfl ?_
      refine ex_go (S := (89, [(2, .inl 1), (0, gx_r 15), (1, gx_r 191)], [.inl 0, .inl 1, gx_r 19], t196, n, 0)) rfl (fun _ => rfl) rfl ?_
      refine gx_apv (d := 2) rfl (fun _ => rfl) g196 rfl rfl rfl (show 1 < 2 from by omega) rfl (ai_in_h (by first | decide | omega) (by first | decide | omega) (by first | decide | omega)) rfl (fun t206 g206 k206 e206 => ?_)
      have k107 : ai_hv t206 15 0 = some (.inl 0) := (e206 15 0 (by first | decide | omega)).trans k97
      have k108 : ai_hv t206 206 5 = some (.inl K) := (e206 206 5 (by first | decide | omega)).trans k98
      have k109 : ai_hv t206 17 0 = some (.inl 0) := (e206 17 0 (by first | decide | omega)).trans k99
      have k110 : ai_hv t206 18 0 = some (.inl 0) := (e206 18 0 (by first | decide | omega)).trans k100
      have k111 : ai_hv t206 19 0 = some (.inl 0) := (e206 19 0 (by first | decide | omega)).trans k101
      have k112 : ai_hv t206 20 0 = some (.inl 0) := (e206 20 0 (by first | decide | omega)).trans k102
      have k113 : ai_hv t206 21 0 = some (.inl 0) := (e206 21 0 (by first | decide | omega)).trans k103
      have k114 : ai_hv t206 210 1 = some (.inl (B 1)) := (e206 210 1 (by first | decide | omega)).trans k104
      have k115 : ai_hv t206 17 1 = some (.inl (B 1)) := (e206 17 1 (by first | decide | omega)).trans k105
      have k116 : ai_hv t206 18 1 = some (.inl 0) := (e206 18 1 (by first | decide | omega)).trans k196
      refine ex_go (S := (91, [(2, .inl 1), (0, gx_r 15), (1, gx_r 191)], [gx_r 15], t206, n, 0)) rfl (fun _ => rfl) rfl ?_
      refine gxo_ref (a := 15) (c := 20) rfl g206 rfl rfl rfl rfl rfl ?_
      refine ex_go (S := (95, [(2, .inl 1), (0, gx_r 15), (1, gx_r 191)], [.inl 1, gx_r 20], t206, n, 0)) rfl (fun _ => rfl) rfl ?_
      refine ex_go (S := (96, [(2, .inl 1), (0, gx_r 15), (1, gx_r 191)], [.inl 0, .inl 1, gx_r 20], t206, n, 0)) rfl (fun _ => rfl) rfl ?_
      refine gx_apv (d := 2) rfl (fun _ => rfl) g206 rfl rfl rfl (show 1 < 2 from by omega) rfl (ai_in_h (by first | decide | omega) (by first | decide | omega) (by first | decide | omega)) rfl (fun t217 g217 k217 e217 => ?_)
      have k118 : ai_hv t217 15 0 = some (.inl 0) := (e217 15 0 (by first | decide | omega)).trans k107
      have k119 : ai_hv t217 206 5 = some (.inl K) := (e217 206 5 (by first | decide | omega)).trans k108
      have k120 : ai_hv t217 17 0 = some (.inl 0) := (e217 17 0 (by first | decide | omega)).trans k109
      have k121 : ai_hv t217 18 0 = some (.inl 0) := (e217 18 0 (by first | decide | omega)).trans k110
      have k122 : ai_hv t217 19 0 = some (.inl 0) := (e217 19 0 (by first | decide | omega)).trans k111
      have k123 : ai_hv t217 20 0 = some (.inl 0) := (e217 20 0 (by first | decide | omega)).trans k112
      have k124 : ai_hv t217 21 0 = some (.inl 0) := (e217 21 0 (by first | decide | omega)).trans k113
      have k125 : ai_hv t217 210 1 = some (.inl (B 1)) := (e217 210 1 (by first | decide | omega)).trans k114
      have k126 : ai_hv t217 17 1 = some (.inl (B 1)) := (e217 17 1 (by first | decide | omega)).trans k115
      have k127 : ai_hv t217 18 1 = some (.inl 0) := (e217 18 1 (by first | decide | omega)).trans k116
      have k128 : ai_hv t217 19 1 = some (.inl 0) := (e217 19 1 (by first | decide | omega)).trans k206
      refine ex_go (S := (98, [(2, .inl 1), (0, gx_r 15), (1, gx_r 191)], [gx_r 15], t217, n, 0)) rfl (fun _ => rfl) rfl ?_
      refine gxo_ref (a := 15) (c := 21) rfl g217 rfl rfl rfl rfl rfl ?_
      refine ex_go (S := (102, [(2, .inl 1), (0, gx_r 15), (1, gx_r 191)], [.inl 1, gx_r 21], t217, n, 0)) rfl (fun _ => rfl) rfl ?_
      refine ex_go (S := (103, [(2, .inl 1), (0, gx_r 15), (1, gx_r 191)], [.inl 0, .inl 1, gx_r 21], t217, n, 0)) rfl (fun _ => rfl) rfl ?_
      refine gx_ap rfl (fun _ => rfl) g217 rfl rfl rfl (show 1 < 2 from by omega) rfl (ai_in_h (by first | decide | omega) (by first | decide | omega) (by first | decide | omega)) rfl (fun t229 g229 k229 e229 => ?_)
      have k130 : ai_hv t229 15 0 = some (.inl 0) := (e229 15 0 (by first | decide | omega)).trans k118
      have k131 : ai_hv t229 206 5 = some (.inl K) := (e229 206 5 (by first | decide | omega)).trans k119
      have k132 : ai_hv t229 17 0 = some (.inl 0) := (e229 17 0 (by first | decide | omega)).trans k120
      have k133 : ai_hv t229 18 0 = some (.inl 0) := (e229 18 0 (by first | decide | omega)).trans k121
      have k134 : ai_hv t229 19 0 = some (.inl 0) := (e229 19 0 (by first | decide | omega)).trans k122
      have k135 : ai_hv t229 20 0 = some (.inl 0) := (e229 20 0 (by first | decide | omega)).trans k123
      have k136 : ai_hv t229 21 0 = some (.inl 0) := (e229 21 0 (by first | decide | omega)).trans k124
      have k137 : ai_hv t229 210 1 = some (.inl (B 1)) := (e229 210 1 (by first | decide | omega)).trans k125
      have k138 : ai_hv t229 17 1 = some (.inl (B 1)) := (e229 17 1 (by first | decide | omega)).trans k126
      have k139 : ai_hv t229 18 1 = some (.inl 0) := (e229 18 1 (by first | decide | omega)).trans k127
      have k140 : ai_hv t229 19 1 = some (.inl 0) := (e229 19 1 (by first | decide | omega)).trans k128
      have k141 : ai_hv t229 20 1 = some (.inl 0) := (e229 20 1 (by first | decide | omega)).trans k217
      refine ex_go (S := (107, [(2, .inl 2), (0, gx_r 15), (1, gx_r 191)], [], t229, n, 0)) rfl (fun _ => rfl) rfl ?_
      refine ex_go (S := (41, [(2, .inl 2), (0, gx_r 15), (1, gx_r 191)], [], t229, n, 0)) rfl (fun _ => rfl) rfl ?_
      refine ex_go (S := (42, [(2, .inl 2), (0, gx_r 15), (1, gx_r 191)], [.inl 2], t229, n, 0)) rfl (fun _ => rfl) rfl ?_
      refine ex_go (S := (43, [(2, .inl 2), (0, gx_r 15), (1, gx_r 191)], [.inl 2, .inl 2], t229, n, 0)) rfl (fun _ => rfl) rfl ?_
      refine ex_go (S := (110, [(2, .inl 2), (0, gx_r 15), (1, gx_r 191)], [], t229, n, 0)) rfl (fun _ => rfl) rfl ?_
      refine ex_ret (r := (none, t229, n, 0)) rfl (fun _ => rfl) ?_
      refine ⟨_, rfl, t229, rfl, g229, (fun c i h => (e229 c i (by first | decide | omega)).trans ((e217 c i (by first | decide | omega)).trans ((e206 c i (by first | decide | omega)).trans ((e196 c i (by first | decide | omega)).trans ((e187 c i (by first | decide | omega)).trans ((e126 c i (by first | decide | omega)).trans ((e120 c i (by first | decide | omega)).trans ((e115 c i (by first | decide | omega)).trans ((e111 c i (by first | decide | omega)).trans ((e108 c i (by first | decide | omega)).trans ((i102.2 c i (by first | decide | omega)).trans (e101 c i (by first | decide | omega))))))))))))), k130, (fun i hi => (e229 16 i (by first | decide | omega)).trans ((e217 16 i (by first | decide | omega)).trans ((e206 16 i (by first | decide | omega)).trans ((e196 16 i (by first | decide | omega)).trans ((e187 16 i (by first | decide | omega)).trans ((e126 16 i (by first | decide | omega)).trans ((e120 16 i (by first | decide | omega)).trans ((e115 16 i (by first | decide | omega)).trans ((e111 16 i (by first | decide | omega)).trans ((e108 16 i (by first | decide | omega)).trans (i102.1 i hi))))))))))), fun c hc => ?_⟩
      rcases (show c = 0 ∨ c = 1 by omega) with rfl | rfl
      · omega
      · exact ⟨k138, k139, k140, k141, k229⟩
  · refine gx_1f (c := .eq) rfl (by first | decide | omega) hc7 rfl ?_
    refine ex_go (S := (63, [(2, .inl 0), (0, gx_r 15), (1, gx_r 191)], [gx_r 191, .inl 0, gx_r 17], t102, n, 0)) rfl (fun _ => rfl) rfl ?_
    refine gxo_ref (a := 191) (c := 206) rfl g102 rfl rfl rfl rfl rfl ?_
    refine gxo_ref (a := 206) (c := 210) rfl g102 rfl rfl rfl rfl rfl ?_
    refine ex_go (S := (70, [(2, .inl 0), (0, gx_r 15), (1, gx_r 191)], [.inl 0, gx_r 210, .inl 0, gx_r 17], t102, n, 0)) rfl (fun _ => rfl) rfl ?_
    have := hB 0 (by first | decide | omega)
    refine gx_ag (v := .inl (B 0)) (cb := fun c => Nat.beq c 0) rfl (fun _ => rfl) g102 rfl rfl ((i102.2 210 0 (by first | decide | omega)).trans ((e101 210 0 (by first | decide | omega)).trans (kB 0 (by first | decide | omega)))) (by first | decide | omega) rfl ?_
    refine ex_go (S := (75, [(2, .inl 0), (0, gx_r 15), (1, gx_r 191)], [.inl (B 0), .inl 0, gx_r 17], t102, n, 0)) rfl (fun _ => rfl) rfl ?_
    refine gx_ap rfl (fun _ => rfl) g102 rfl rfl rfl (show 0 < 2 from by omega) rfl (gx_full (by first | decide | omega)) rfl (fun t242 g242 k242 e242 => ?_)
    have k143 : ai_hv t242 15 0 = some (.inl 0) := (e242 15 0 (by first | decide | omega)).trans k3
    have k144 : ai_hv t242 206 5 = some (.inl K) := (e242 206 5 (by first | decide | omega)).trans ((i102.2 206 5 (by first | decide | omega)).trans ((e101 206 5 (by first | decide | omega)).trans (kK)))
    have k145 : ai_hv t242 210 0 = some (.inl (B 0)) := (e242 210 0 (by first | decide | omega)).trans ((i102.2 210 0 (by first | decide | omega)).trans ((e101 210 0 (by first | decide | omega)).trans (kB 0 (by first | decide | omega))))
    refine ex_go (S := (77, [(2, .inl 0), (0, gx_r 15), (1, gx_r 191)], [gx_r 15], t242, n, 0)) rfl (fun _ => rfl) rfl ?_
    refine gxo_ref (a := 15) (c := 18) rfl g242 rfl rfl rfl rfl rfl ?_
    refine ex_go (S := (81, [(2, .inl 0), (0, gx_r 15), (1, gx_r 191)], [.inl 0, gx_r 18], t242, n, 0)) rfl (fun _ => rfl) rfl ?_
    refine ex_go (S := (82, [(2, .inl 0), (0, gx_r 15), (1, gx_r 191)], [.inl 0, .inl 0, gx_r 18], t242, n, 0)) rfl (fun _ => rfl) rfl ?_
    refine gx_ap rfl (fun _ => rfl) g242 rfl rfl rfl (show 0 < 2 from by omega) rfl (gx_full (by first | decide | omega)) rfl (fun t246 g246 k246 e246 => ?_)
    have k147 : ai_hv t246 15 0 = some (.inl 0) := (e246 15 0 (by first | decide | omega)).trans k143
    have k148 : ai_hv t246 206 5 = some (.inl K) := (e246 206 5 (by first | decide | omega)).trans k144
    have k149 : ai_hv t246 210 0 = some (.inl (B 0)) := (e246 210 0 (by first | decide | omega)).trans k145
    have k150 : ai_hv t246 17 0 = some (.inl (B 0)) := (e246 17 0 (by first | decide | omega)).trans k242
    refine ex_go (S := (84, [(2, .inl 0), (0, gx_r 15), (1, gx_r 191)], [gx_r 15], t246, n, 0)) rfl (fun _ => rfl) rfl ?_
    refine gxo_ref (a := 15) (c := 19) rfl g246 rfl rfl rfl rfl rfl ?_
    refine ex_go (S := (88, [(2, .inl 0), (0, gx_r 15), (1, gx_r 191)], [.inl 0, gx_r 19], t246, n, 0)) rfl (fun _ => rfl) rfl ?_
    refine ex_go (S := (89, [(2, .inl 0), (0, gx_r 15), (1, gx_r 191)], [.inl 0, .inl 0, gx_r 19], t246, n, 0)) rfl (fun _ => rfl) rfl ?_
    refine gx_apv (d := 2) rfl (fun _ => rfl) g246 rfl rfl rfl (show 0 < 2 from by omega) rfl (ai_in_h (by first | decide | omega) (by first | decide | omega) (by first | decide | omega)) rfl (fun t251 g251 k251 e251 => ?_)
    have k152 : ai_hv t251 15 0 = some (.inl 0) := (e251 15 0 (by first | decide | omega)).trans k147
    have k153 : ai_hv t251 206 5 = some (.inl K) := (e251 206 5 (by first | decide | omega)).trans k148
    have k154 : ai_hv t251 210 0 = some (.inl (B 0)) := (e251 210 0 (by first | decide | omega)).trans k149
    have k155 : ai_hv t251 17 0 = some (.inl (B 0)) := (e251 17 0 (by first | decide | omega)).trans k150
    have k156 : ai_hv t251 18 0 = some (.inl 0) := (e251 18 0 (by first | decide | omega)).trans k246
    refine ex_go (S := (91, [(2, .inl 0), (0, gx_r 15), (1, gx_r 191)], [gx_r 15], t251, n, 0)) rfl (fun _ => rfl) rfl ?_
    refine gxo_ref (a := 15) (c := 20) rfl g251 rfl rfl rfl rfl rfl ?_
    refine ex_go (S := (95, [(2, .inl 0), (0, gx_r 15), (1, gx_r 191)], [.inl 0, gx_r 20], t251, n, 0)) rfl (fun _ => rfl) rfl ?_
    refine ex_go (S := (96, [(2, .inl 0), (0, gx_r 15), (1, gx_r 191)], [.inl 0, .inl 0, gx_r 20], t251, n, 0)) rfl (fun _ => rfl) rfl ?_
    refine gx_apv (d := 2) rfl (fun _ => rfl) g251 rfl rfl rfl (show 0 < 2 from by omega) rfl (ai_in_h (by first | decide | omega) (by first | decide | omega) (by first | decide | omega)) rfl (fun t257 g257 k257 e257 => ?_)
    have k158 : ai_hv t257 15 0 = some (.inl 0) := (e257 15 0 (by first | decide | omega)).trans k152
    have k159 : ai_hv t257 206 5 = some (.inl K) := (e257 206 5 (by first | decide | omega)).trans k153
    have k160 : ai_hv t257 210 0 = some (.inl (B 0)) := (e257 210 0 (by first | decide | omega)).trans k154
    have k161 : ai_hv t257 17 0 = some (.inl (B 0)) := (e257 17 0 (by first | decide | omega)).trans k155
    have k162 : ai_hv t257 18 0 = some (.inl 0) := (e257 18 0 (by first | decide | omega)).trans k156
    have k163 : ai_hv t257 19 0 = some (.inl 0) := (e257 19 0 (by first | decide | omega)).trans k251
    refine ex_go (S := (98, [(2, .inl 0), (0, gx_r 15), (1, gx_r 191)], [gx_r 15], t257, n, 0)) rfl (fun _ => rfl) rfl ?_
    refine gxo_ref (a := 15) (c := 21) rfl g257 rfl rfl rfl rfl rfl ?_
    refine ex_go (S := (102, [(2, .inl 0), (0, gx_r 15), (1, gx_r 191)], [.inl 0, gx_r 21], t257, n, 0)) rfl (fun _ => rfl) rfl ?_
    refine ex_go (S := (103, [(2, .inl 0), (0, gx_r 15), (1, gx_r 191)], [.inl 0, .inl 0, gx_r 21], t257, n, 0)) rfl (fun _ => rfl) rfl ?_
    refine gx_ap rfl (fun _ => rfl) g257 rfl rfl rfl (show 0 < 2 from by omega) rfl (ai_in_h (by first | decide | omega) (by first | decide | omega) (by first | decide | omega)) rfl (fun t264 g264 k264 e264 => ?_)
    have k165 : ai_hv t264 15 0 = some (.inl 0) := (e264 15 0 (by first | decide | omega)).trans k158
    have k166 : ai_hv t264 206 5 = some (.inl K) := (e264 206 5 (by first | decide | omega)).trans k159
    have k167 : ai_hv t264 210 0 = some (.inl (B 0)) := (e264 210 0 (by first | decide | omega)).trans k160
    have k168 : ai_hv t264 17 0 = some (.inl (B 0)) := (e264 17 0 (by first | decide | omega)).trans k161
    have k169 : ai_hv t264 18 0 = some (.inl 0) := (e264 18 0 (by first | decide | omega)).trans k162
    have k170 : ai_hv t264 19 0 = some (.inl 0) := (e264 19 0 (by first | decide | omega)).trans k163
    have k171 : ai_hv t264 20 0 = some (.inl 0) := (e264 20 0 (by first | decide | omega)).trans k257
    refine ex_go (S := (107, [(2, .inl 1), (0, gx_r 15), (1, gx_r 191)], [], t264, n, 0)) rfl (fun _ => rfl) rfl ?_
    refine ex_go (S := (41, [(2, .inl 1), (0, gx_r 15), (1, gx_r 191)], [], t264, n, 0)) rfl (fun _ => rfl) rfl ?_
    refine ex_go (S := (42, [(2, .inl 1), (0, gx_r 15), (1, gx_r 191)], [.inl 1], t264, n, 0)) rfl (fun _ => rfl) rfl ?_
    refine ex_go (S := (43, [(2, .inl 1), (0, gx_r 15), (1, gx_r 191)], [.inl 2, .inl 1], t264, n, 0)) rfl (fun _ => rfl) rfl ?_
    refine ex_go (S := (46, [(2, .inl 1), (0, gx_r 15), (1, gx_r 191)], [], t264, n, 0)) rfl (fun _ => rfl) rfl ?_
    refine ex_go (S := (47, [(2, .inl 1), (0, gx_r 15), (1, gx_r 191)], [gx_r 15], t264, n, 0)) rfl (fun _ => rfl) rfl ?_
    refine gxo_ref (a := 15) (c := 17) rfl g264 rfl rfl rfl rfl rfl ?_
    refine ex_go (S := (51, [(2, .inl 1), (0, gx_r 15), (1, gx_r 191)], [.inl 1, gx_r 17], t264, n, 0)) rfl (fun _ => rfl) rfl ?_
    refine ex_go (S := (52, [(2, .inl 1), (0, gx_r 15), (1, gx_r 191)], [gx_r 191, .inl 1, gx_r 17], t264, n, 0)) rfl (fun _ => rfl) rfl ?_
    refine gxo_ref (a := 191) (c := 206) rfl g264 rfl rfl rfl rfl rfl ?_
    refine ex_go (S := (56, [(2, .inl 1), (0, gx_r 15), (1, gx_r 191)], [.inl 1, gx_r 206, .inl 1, gx_r 17], t264, n, 0)) rfl (fun _ => rfl) rfl ?_
    obtain ⟨_, r172, b173, rfl, b173b, q174⟩ := pz_holds206 (d) n (x := 1) g264 (by first | decide | omega) ((e264 206 5 (by first | decide | omega)).trans ((e257 206 5 (by first | decide | omega)).trans ((e251 206 5 (by first | decide | omega)).trans ((e246 206 5 (by first | decide | omega)).trans ((e242 206 5 (by first | decide | omega)).trans ((i102.2 206 5 (by first | decide | omega)).trans ((e101 206 5 (by first | decide | omega)).trans (kK)))))))) (by first | decide | omega)
    refine gx_callo (a := 206) rfl rfl g264 rfl rfl rfl r172 rfl ?_
    show en_ex _ _ _ _ (59, [(2, .inl 1), (0, gx_r 15), (1, gx_r 191)], [.inl b173, .inl 1, gx_r 17], t264, n, 0) _
    by_cases hc175 : b173 = 0
    · refine gx_1t (c := .eq) rfl (by first | decide | omega) hc175 rfl ?_
      refine ex_go (S := (75, [(2, .inl 1), (0, gx_r 15), (1, gx_r 191)], [.inl 0, .inl 1, gx_r 17], t264, n, 0)) rfl (fun _ => rfl) rfl ?_
      refine gx_ap rfl (fun _ => rfl) g264 rfl rfl rfl (show 1 < 2 from by omega) rfl (gx_full (by first | decide | omega)) rfl (fun t276 g276 k276 e276 => ?_)
      have k177 : ai_hv t276 15 0 = some (.inl 0) := (e276 15 0 (by first | decide | omega)).trans k165
      have k178 : ai_hv t276 206 5 = some (.inl K) := (e276 206 5 (by first | decide | omega)).trans ((e264 206 5 (by first | decide | omega)).trans ((e257 206 5 (by first | decide | omega)).trans ((e251 206 5 (by first | decide | omega)).trans ((e246 206 5 (by first | decide | omega)).trans ((e242 206 5 (by first | decide | omega)).trans ((i102.2 206 5 (by first | decide | omega)).trans ((e101 206 5 (by first | decide | omega)).trans (kK))))))))
      have k179 : ai_hv t276 210 0 = some (.inl (B 0)) := (e276 210 0 (by first | decide | omega)).trans k167
      have k180 : ai_hv t276 17 0 = some (.inl (B 0)) := (e276 17 0 (by first | decide | omega)).trans k168
      have k181 : ai_hv t276 18 0 = some (.inl 0) := (e276 18 0 (by first | decide | omega)).trans k169
      have k182 : ai_hv t276 19 0 = some (.inl 0) := (e276 19 0 (by first | decide | omega)).trans k170
      have k183 : ai_hv t276 20 0 = some (.inl 0) := (e276 20 0 (by first | decide | omega)).trans k171
      have k184 : ai_hv t276 21 0 = some (.inl 0) := (e276 21 0 (by first | decide | omega)).trans k264
      refine ex_go (S := (77, [(2, .inl 1), (0, gx_r 15), (1, gx_r 191)], [gx_r 15], t276, n, 0)) rfl (fun _ => rfl) rfl ?_
      refine gxo_ref (a := 15) (c := 18) rfl g276 rfl rfl rfl rfl rfl ?_
      refine ex_go (S := (81, [(2, .inl 1), (0, gx_r 15), (1, gx_r 191)], [.inl 1, gx_r 18], t276, n, 0)) rfl (fun _ => rfl) rfl ?_
      refine ex_go (S := (82, [(2, .inl 1), (0, gx_r 15), (1, gx_r 191)], [.inl 0, .inl 1, gx_r 18], t276, n, 0)) rfl (fun _ => rfl) rfl ?_
      refine gx_ap rfl (fun _ => rfl) g276 rfl rfl rfl (show 1 < 2 from by omega) rfl (gx_full (by first | decide | omega)) rfl (fun t285 g285 k285 e285 => ?_)
      have k186 : ai_hv t285 15 0 = some (.inl 0) := (e285 15 0 (by first | decide | omega)).trans k177
      have k187 : ai_hv t285 206 5 = some (.inl K) := (e285 206 5 (by first | decide | omega)).trans k178
      have k188 : ai_hv t285 210 0 = some (.inl (B 0)) := (e285 210 0 (by first | decide | omega)).trans k179
      have k189 : ai_hv t285 17 0 = some (.inl (B 0)) := (e285 17 0 (by first | decide | omega)).trans k180
      have k190 : ai_hv t285 18 0 = some (.inl 0) := (e285 18 0 (by first | decide | omega)).trans k181
      have k191 : ai_hv t285 19 0 = some (.inl 0) := (e285 19 0 (by first | decide | omega)).trans k182
      have k192 : ai_hv t285 20 0 = some (.inl 0) := (e285 20 0 (by first | decide | omega)).trans k183
      have k193 : ai_hv t285 21 0 = some (.inl 0) := (e285 21 0 (by first | decide | omega)).trans k184
      have k194 : ai_hv t285 17 1 = some (.inl 0) := (e285 17 1 (by first | decide | omega)).trans k276
      refine ex_go (S := (84, [(2, .inl 1), (0, gx_r 15), (1, gx_r 191)], [gx_r 15], t285, n, 0)) rfl (fun _ => rfl) rfl ?_
      refine gxo_ref (a := 15) (c := 19) rfl g285 rfl rfl rfl rfl rfl ?_
      refine ex_go (S := (88, [(2, .inl 1), (0, gx_r 15), (1, gx_r 191)], [.inl 1, gx_r 19], t285, n, 0)) rfl (fun _ => rfl) rfl ?_
      refine ex_go (S := (89, [(2, .inl 1), (0, gx_r 15), (1, gx_r 191)], [.inl 0, .inl 1, gx_r 19], t285, n, 0)) rfl (fun _ => rfl) rfl ?_
      refine gx_apv (d := 2) rfl (fun _ => rfl) g285 rfl rfl rfl (show 1 < 2 from by omega) rfl (ai_in_h (by first | decide | omega) (by first | decide | omega) (by first | decide | omega)) rfl (fun t295 g295 k295 e295 => ?_)
      have k196 : ai_hv t295 15 0 = some (.inl 0) := (e295 15 0 (by first | decide | omega)).trans k186
      have k197 : ai_hv t295 206 5 = some (.inl K) := (e295 206 5 (by first | decide | omega)).trans k187
      have k198 : ai_hv t295 210 0 = some (.inl (B 0)) := (e295 210 0 (by first | decide | omega)).trans k188
      have k199 : ai_hv t295 17 0 = some (.inl (B 0)) := (e295 17 0 (by first | decide | omega)).trans k189
      have k200 : ai_hv t295 18 0 = some (.inl 0) := (e295 18 0 (by first | decide | omega)).trans k190
      have k201 : ai_hv t295 19 0 = some (.inl 0) := (e295 19 0 (by first | decide | omega)).trans k191
      have k202 : ai_hv t295 20 0 = some (.inl 0) := (e295 20 0 (by first | decide | omega)).trans k192
      have k203 : ai_hv t295 21 0 = some (.inl 0) := (e295 21 0 (by first | decide | omega)).trans k193
      have k204 : ai_hv t295 17 1 = some (.inl 0) := (e295 17 1 (by first | decide | omega)).trans k194
      have k205 : ai_hv t295 18 1 = some (.inl 0) := (e295 18 1 (by first | decide | omega)).trans k285
      refine ex_go (S := (91, [(2, .inl 1), (0, gx_r 15), (1, gx_r 191)], [gx_r 15], t295, n, 0)) rfl (fun _ => rfl) rfl ?_
      refine gxo_ref (a := 15) (c := 20) rfl g295 rfl rfl rfl rfl rfl ?_
      refine ex_go (S := (95, [(2, .inl 1), (0, gx_r 15), (1, gx_r 191)], [.inl 1, gx_r 20], t295, n, 0)) rfl (fun _ => rfl) rfl ?_
      refine ex_go (S := (96, [(2, .inl 1), (0, gx_r 15), (1, gx_r 191)], [.inl 0, .inl 1, gx_r 20], t295, n, 0)) rfl (fun _ => rfl) rfl ?_
      refine gx_apv (d := 2) rfl (fun _ => rfl) g295 rfl rfl rfl (show 1 < 2 from by omega) rfl (ai_in_h (by first | decide | omega) (by first | decide | omega) (by first | decide | omega)) rfl (fun t306 g306 k306 e306 => ?_)
      have k207 : ai_hv t306 15 0 = some (.inl 0) := (e306 15 0 (by first | decide | omega)).trans k196
      have k208 : ai_hv t306 206 5 = some (.inl K) := (e306 206 5 (by first | decide | omega)).trans k197
      have k209 : ai_hv t306 210 0 = some (.inl (B 0)) := (e306 210 0 (by first | decide | omega)).trans k198
      have k210 : ai_hv t306 17 0 = some (.inl (B 0)) := (e306 17 0 (by first | decide | omega)).trans k199
      have k211 : ai_hv t306 18 0 = some (.inl 0) := (e306 18 0 (by first | decide | omega)).trans k200
      have k212 : ai_hv t306 19 0 = some (.inl 0) := (e306 19 0 (by first | decide | omega)).trans k201
      have k213 : ai_hv t306 20 0 = some (.inl 0) := (e306 20 0 (by first | decide | omega)).trans k202
      have k214 : ai_hv t306 21 0 = some (.inl 0) := (e306 21 0 (by first | decide | omega)).trans k203
      have k215 : ai_hv t306 17 1 = some (.inl 0) := (e306 17 1 (by first | decide | omega)).trans k204
      have k216 : ai_hv t306 18 1 = some (.inl 0) := (e306 18 1 (by first | decide | omega)).trans k205
      have k217 : ai_hv t306 19 1 = some (.inl 0) := (e306 19 1 (by first | decide | omega)).trans k295
      refine ex_go (S := (98, [(2, .inl 1), (0, gx_r 15), (1, gx_r 191)], [gx_r 15], t306, n, 0)) rfl (fun _ => rfl) rfl ?_
      refine gxo_ref (a := 15) (c := 21) rfl g306 rfl rfl rfl rfl rfl ?_
      refine ex_go (S := (102, [(2, .inl 1), (0, gx_r 15), (1, gx_r 191)], [.inl 1, gx_r 21], t306, n, 0)) rfl (fun _ => rfl) rfl ?_
      refine ex_go (S := (103, [(2, .inl 1), (0, gx_r 15), (1, gx_r 191)], [.inl 0, .inl 1, gx_r 21], t306, n, 0)) rfl (fun _ => rfl) rfl ?_
      refine gx_ap rfl (fun _ => rfl) g306 rfl rfl rfl (show 1 < 2 from by omega) rfl (ai_in_h (by first | decide | omega) (by first | decide | omega) (by first | decide | omega)) rfl (fun t318 g318 k318 e318 => ?_)
      have k219 : ai_hv t318 15 0 = some (.inl 0) := (e318 15 0 (by first | decide | omega)).trans k207
      have k220 : ai_hv t318 206 5 = some (.inl K) := (e318 206 5 (by first | decide | omega)).trans k208
      have k221 : ai_hv t318 210 0 = some (.inl (B 0)) := (e318 210 0 (by first | decide | omega)).trans k209
      have k222 : ai_hv t318 17 0 = some (.inl (B 0)) := (e318 17 0 (by first | decide | omega)).trans k210
      have k223 : ai_hv t318 18 0 = some (.inl 0) := (e318 18 0 (by first | decide | omega)).trans k211
      have k224 : ai_hv t318 19 0 = some (.inl 0) := (e318 19 0 (by first | decide | omega)).trans k212
      have k225 : ai_hv t318 20 0 = some (.inl 0) := (e318 20 0 (by first | decide | omega)).trans k213
      have k226 : ai_hv t318 21 0 = some (.inl 0) := (e318 21 0 (by first | decide | omega)).trans k214
      have k227 : ai_hv t318 17 1 = some (.inl 0) := (e318 17 1 (by first | decide | omega)).trans k215
      have k228 : ai_hv t318 18 1 = some (.inl 0) := (e318 18 1 (by first | decide | omega)).trans k216
      have k229 : ai_hv t318 19 1 = some (.inl 0) := (e318 19 1 (by first | decide | omega)).trans k217
      have k230 : ai_hv t318 20 1 = some (.inl 0) := (e318 20 1 (by first | decide | omega)).trans k306
      refine ex_go (S := (107, [(2, .inl 2), (0, gx_r 15), (1, gx_r 191)], [], t318, n, 0)) rfl (fun _ => rfl) rfl ?_
      refine ex_go (S := (41, [(2, .inl 2), (0, gx_r 15), (1, gx_r 191)], [], t318, n, 0)) rfl (fun _ => rfl) rfl ?_
      refine ex_go (S := (42, [(2, .inl 2), (0, gx_r 15), (1, gx_r 191)], [.inl 2], t318, n, 0)) rfl (fun _ => rfl) rfl ?_
      refine ex_go (S := (43, [(2, .inl 2), (0, gx_r 15), (1, gx_r 191)], [.inl 2, .inl 2], t318, n, 0)) rfl (fun _ => rfl) rfl ?_
      refine ex_go (S := (110, [(2, .inl 2), (0, gx_r 15), (1, gx_r 191)], [], t318, n, 0)) rfl (fun _ => rfl) rfl ?_
      refine ex_ret (r := (none, t318, n, 0)) rfl (fun _ => rfl) ?_
      refine ⟨_, rfl, t318, rfl, g318, (fun c i h => (e318 c i (by first | decide | omega)).trans ((e306 c i (by first | decide | omega)).trans ((e295 c i (by first | decide | omega)).trans ((e285 c i (by first | decide | omega)).trans ((e276 c i (by first | decide | omega)).trans ((e264 c i (by first | decide | omega)).trans ((e257 c i (by first | decide | omega)).trans ((e251 c i (by first | decide | omega)).trans ((e246 c i (by first | decide | omega)).trans ((e242 c i (by first | decide | omega)).trans ((i102.2 c i (by first | decide | omega)).trans (e101 c i (by first | decide | omega))))))))))))), k219, (fun i hi => (e318 16 i (by first | decide | omega)).trans ((e306 16 i (by first | decide | omega)).trans ((e295 16 i (by first | decide | omega)).trans ((e285 16 i (by first | decide | omega)).trans ((e276 16 i (by first | decide | omega)).trans ((e264 16 i (by first | decide | omega)).trans ((e257 16 i (by first | decide | omega)).trans ((e251 16 i (by first | decide | omega)).trans ((e246 16 i (by first | decide | omega)).trans ((e242 16 i (by first | decide | omega)).trans (i102.1 i hi))))))))))), fun c hc => ?_⟩
      rcases (show c = 0 ∨ c = 1 by omega) with rfl | rfl
      · exact ⟨k222, k223, k224, k225, k226⟩
      · omega
    · refine gx_1f (c := .eq) rfl (by first | decide | omega) hc175 rfl ?_
      refine ex_go (S := (63, [(2, .inl 1), (0, gx_r 15), (1, gx_r 191)], [gx_r 191, .inl 1, gx_r 17], t264, n, 0)) rfl (fun _ => rfl) rfl ?_
      refine gxo_ref (a := 191) (c := 206) rfl g264 rfl rfl rfl rfl rfl ?_
      refine gxo_ref (a := 206) (c := 210) rfl g264 rfl rfl rfl rfl rfl ?_
      refine ex_go (S := (70, [(2, .inl 1), (0, gx_r 15), (1, gx_r 191)], [.inl 1, gx_r 210, .inl 1, gx_r 17], t264, n, 0)) rfl (fun _ => rfl) rfl ?_
      have := hB 1 (by first | decide | omega)
      refine gx_ag (v := .inl (B 1)) (cb := fun c => Nat.beq c 0) rfl (fun _ => rfl) g264 rfl rfl ((e264 210 1 (by first | decide | omega)).trans ((e257 210 1 (by first | decide | omega)).trans ((e251 210 1 (by first | decide | omega)).trans ((e246 210 1 (by first | decide | omega)).trans ((e242 210 1 (by first | decide | omega)).trans ((i102.2 210 1 (by first | decide | omega)).trans ((e101 210 1 (by first | decide | omega)).trans (kB 1 (by first | decide | omega))))))))) (by first | decide | omega) rfl ?_
      refine ex_go (S := (75, [(2, .inl 1), (0, gx_r 15), (1, gx_r 191)], [.inl (B 1), .inl 1, gx_r 17], t264, n, 0)) rfl (fun _ => rfl) rfl ?_
      refine gx_ap rfl (fun _ => rfl) g264 rfl rfl rfl (show 1 < 2 from by omega) rfl (gx_full (by first | decide | omega)) rfl (fun t331 g331 k331 e331 => ?_)
      have k232 : ai_hv t331 15 0 = some (.inl 0) := (e331 15 0 (by first | decide | omega)).trans k165
      have k233 : ai_hv t331 206 5 = some (.inl K) := (e331 206 5 (by first | decide | omega)).trans ((e264 206 5 (by first | decide | omega)).trans ((e257 206 5 (by first | decide | omega)).trans ((e251 206 5 (by first | decide | omega)).trans ((e246 206 5 (by first | decide | omega)).trans ((e242 206 5 (by first | decide | omega)).trans ((i102.2 206 5 (by first | decide | omega)).trans ((e101 206 5 (by first | decide | omega)).trans (kK))))))))
      have k234 : ai_hv t331 210 0 = some (.inl (B 0)) := (e331 210 0 (by first | decide | omega)).trans k167
      have k235 : ai_hv t331 17 0 = some (.inl (B 0)) := (e331 17 0 (by first | decide | omega)).trans k168
      have k236 : ai_hv t331 18 0 = some (.inl 0) := (e331 18 0 (by first | decide | omega)).trans k169
      have k237 : ai_hv t331 19 0 = some (.inl 0) := (e331 19 0 (by first | decide | omega)).trans k170
      have k238 : ai_hv t331 20 0 = some (.inl 0) := (e331 20 0 (by first | decide | omega)).trans k171
      have k239 : ai_hv t331 21 0 = some (.inl 0) := (e331 21 0 (by first | decide | omega)).trans k264
      have k240 : ai_hv t331 210 1 = some (.inl (B 1)) := (e331 210 1 (by first | decide | omega)).trans ((e264 210 1 (by first | decide | omega)).trans ((e257 210 1 (by first | decide | omega)).trans ((e251 210 1 (by first | decide | omega)).trans ((e246 210 1 (by first | decide | omega)).trans ((e242 210 1 (by first | decide | omega)).trans ((i102.2 210 1 (by first | decide | omega)).trans ((e101 210 1 (by first | decide | omega)).trans (kB 1 (by first | decide | omega)))))))))
      refine ex_go (S := (77, [(2, .inl 1), (0, gx_r 15), (1, gx_r 191)], [gx_r 15], t331, n, 0)) rfl (fun _ => rfl) rfl ?_
      refine gxo_ref (a := 15) (c := 18) rfl g331 rfl rfl rfl rfl rfl ?_
      refine ex_go (S := (81, [(2, .inl 1), (0, gx_r 15), (1, gx_r 191)], [.inl 1, gx_r 18], t331, n, 0)) rfl (fun _ => rfl) rfl ?_
      refine ex_go (S := (82, [(2, .inl 1), (0, gx_r 15), (1, gx_r 191)], [.inl 0, .inl 1, gx_r 18], t331, n, 0)) rfl (fun _ => rfl) rfl ?_
      refine gx_ap rfl (fun _ => rfl) g331 rfl rfl rfl (show 1 < 2 from by omega) rfl (gx_full (by first | decide | omega)) rfl (fun t341 g341 k341 e341 => ?_)
      have k242 : ai_hv t341 15 0 = some (.inl 0) := (e341 15 0 (by first | decide | omega)).trans k232
      have k243 : ai_hv t341 206 5 = some (.inl K) := (e341 206 5 (by first | decide | omega)).trans k233
      have k244 : ai_hv t341 210 0 = some (.inl (B 0)) := (e341 210 0 (by first | decide | omega)).trans k234
      have k245 : ai_hv t341 17 0 = some (.inl (B 0)) := (e341 17 0 (by first | decide | omega)).trans k235
      have k246 : ai_hv t341 18 0 = some (.inl 0) := (e341 18 0 (by first | decide | omega)).trans k236
      have k247 : ai_hv t341 19 0 = some (.inl 0) := (e341 19 0 (by first | decide | omega)).trans k237
      have k248 : ai_hv t341 20 0 = some (.inl 0) := (e341 20 0 (by first | decide | omega)).trans k238
      have k249 : ai_hv t341 21 0 = some (.inl 0) := (e341 21 0 (by first | decide | omega)).trans k239
      have k250 : ai_hv t341 210 1 = some (.inl (B 1)) := (e341 210 1 (by first | decide | omega)).trans k240
      have k251 : ai_hv t341 17 1 = some (.inl (B 1)) := (e341 17 1 (by first | decide | omega)).trans k331
      refine ex_go (S := (84, [(2, .inl 1), (0, gx_r 15), (1, gx_r 191)], [gx_r 15], t341, n, 0)) rfl (fun _ => rfl) rfl ?_
      refine gxo_ref (a := 15) (c := 19) rfl g341 rfl rfl rfl rfl rfl ?_
      refine ex_go (S := (88, [(2, .inl 1), (0, gx_r 15), (1, gx_r 191)], [.inl 1, gx_r 19], t341, n, 0)) rfl (fun _ => rfl) rfl ?_
      refine ex_go (S := (89, [(2, .inl 1), (0, gx_r 15), (1, gx_r 191)], [.inl 0, .inl 1, gx_r 19], t341, n, 0)) rfl (fun _ => rfl) rfl ?_
      refine gx_apv (d := 2) rfl (fun _ => rfl) g341 rfl rfl rfl (show 1 < 2 from by omega) rfl (ai_in_h (by first | decide | omega) (by first | decide | omega) (by first | decide | omega)) rfl (fun t352 g352 k352 e352 => ?_)
      have k253 : ai_hv t352 15 0 = some (.inl 0) := (e352 15 0 (by first | decide | omega)).trans k242
      have k254 : ai_hv t352 206 5 = some (.inl K) := (e352 206 5 (by first | decide | omega)).trans k243
      have k255 : ai_hv t352 210 0 = some (.inl (B 0)) := (e352 210 0 (by first | decide | omega)).trans k244
      have k256 : ai_hv t352 17 0 = some (.inl (B 0)) := (e352 17 0 (by first | decide | omega)).trans k245
      have k257 : ai_hv t352 18 0 = some (.inl 0) := (e352 18 0 (by first | decide | omega)).trans k246
      have k258 : ai_hv t352 19 0 = some (.inl 0) := (e352 19 0 (by first | decide | omega)).trans k247
      have k259 : ai_hv t352 20 0 = some (.inl 0) := (e352 20 0 (by first | decide | omega)).trans k248
      have k260 : ai_hv t352 21 0 = some (.inl 0) := (e352 21 0 (by first | decide | omega)).trans k249
      have k261 : ai_hv t352 210 1 = some (.inl (B 1)) := (e352 210 1 (by first | decide | omega)).trans k250
      have k262 : ai_hv t352 17 1 = some (.inl (B 1)) := (e352 17 1 (by first | decide | omega)).trans k251
      have k263 : ai_hv t352 18 1 = some (.inl 0) := (e352 18 1 (by first | decide | omega)).trans k341
      refine ex_go (S := (91, [(2, .inl 1), (0, gx_r 15), (1, gx_r 191)], [gx_r 15], t352, n, 0)) rfl (fun _ => rfl) rfl ?_
      refine gxo_ref (a := 15) (c := 20) rfl g352 rfl rfl rfl rfl rfl ?_
      refine ex_go (S := (95, [(2, .inl 1), (0, gx_r 15), (1, gx_r 191)], [.inl 1, gx_r 20], t352, n, 0)) rfl (fun _ => rfl) rfl ?_
      refine ex_go (S := (96, [(2, .inl 1), (0, gx_r 15), (1, gx_r 191)], [.inl 0, .inl 1, gx_r 20], t352, n, 0)) rfl (fun _ => rfl) rfl ?_
      refine gx_apv (d := 2) rfl (fun _ => rfl) g352 rfl rfl rfl (show 1 < 2 from by omega) rfl (ai_in_h (by first | decide | omega) (by first | decide | omega) (by first | decide | omega)) rfl (fun t364 g364 k364 e364 => ?_)
      have k265 : ai_hv t364 15 0 = some (.inl 0) := (e364 15 0 (by first | decide | omega)).trans k253
      have k266 : ai_hv t364 206 5 = some (.inl K) := (e364 206 5 (by first | decide | omega)).trans k254
      have k267 : ai_hv t364 210 0 = some (.inl (B 0)) := (e364 210 0 (by first | decide | omega)).trans k255
      have k268 : ai_hv t364 17 0 = some (.inl (B 0)) := (e364 17 0 (by first | decide | omega)).trans k256
      have k269 : ai_hv t364 18 0 = some (.inl 0) := (e364 18 0 (by first | decide | omega)).trans k257
      have k270 : ai_hv t364 19 0 = some (.inl 0) := (e364 19 0 (by first | decide | omega)).trans k258
      have k271 : ai_hv t364 20 0 = some (.inl 0) := (e364 20 0 (by first | decide | omega)).trans k259
      have k272 : ai_hv t364 21 0 = some (.inl 0) := (e364 21 0 (by first | decide | omega)).trans k260
      have k273 : ai_hv t364 210 1 = some (.inl (B 1)) := (e364 210 1 (by first | decide | omega)).trans k261
      have k274 : ai_hv t364 17 1 = some (.inl (B 1)) := (e364 17 1 (by first | decide | omega)).trans k262
      have k275 : ai_hv t364 18 1 = some (.inl 0) := (e364 18 1 (by first | decide | omega)).trans k263
      have k276 : ai_hv t364 19 1 = some (.inl 0) := (e364 19 1 (by first | decide | omega)).trans k352
      refine ex_go (S := (98, [(2, .inl 1), (0, gx_r 15), (1, gx_r 191)], [gx_r 15], t364, n, 0)) rfl (fun _ => rfl) rfl ?_
      refine gxo_ref (a := 15) (c := 21) rfl g364 rfl rfl rfl rfl rfl ?_
      refine ex_go (S := (102, [(2, .inl 1), (0, gx_r 15), (1, gx_r 191)], [.inl 1, gx_r 21], t364, n, 0)) rfl (fun _ => rfl) rfl ?_
      refine ex_go (S := (103, [(2, .inl 1), (0, gx_r 15), (1, gx_r 191)], [.inl 0, .inl 1, gx_r 21], t364, n, 0)) rfl (fun _ => rfl) rfl ?_
      refine gx_ap rfl (fun _ => rfl) g364 rfl rfl rfl (show 1 < 2 from by omega) rfl (ai_in_h (by first | decide | omega) (by first | decide | omega) (by first | decide | omega)) rfl (fun t377 g377 k377 e377 => ?_)
      have k278 : ai_hv t377 15 0 = some (.inl 0) := (e377 15 0 (by first | decide | omega)).trans k265
      have k279 : ai_hv t377 206 5 = some (.inl K) := (e377 206 5 (by first | decide | omega)).trans k266
      have k280 : ai_hv t377 210 0 = some (.inl (B 0)) := (e377 210 0 (by first | decide | omega)).trans k267
      have k281 : ai_hv t377 17 0 = some (.inl (B 0)) := (e377 17 0 (by first | decide | omega)).trans k268
      have k282 : ai_hv t377 18 0 = some (.inl 0) := (e377 18 0 (by first | decide | omega)).trans k269
      have k283 : ai_hv t377 19 0 = some (.inl 0) := (e377 19 0 (by first | decide | omega)).trans k270
      have k284 : ai_hv t377 20 0 = some (.inl 0) := (e377 20 0 (by first | decide | omega)).trans k271
      have k285 : ai_hv t377 21 0 = some (.inl 0) := (e377 21 0 (by first | decide | omega)).trans k272
      have k286 : ai_hv t377 210 1 = some (.inl (B 1)) := (e377 210 1 (by first | decide | omega)).trans k273
      have k287 : ai_hv t377 17 1 = some (.inl (B 1)) := (e377 17 1 (by first | decide | omega)).trans k274
      have k288 : ai_hv t377 18 1 = some (.inl 0) := (e377 18 1 (by first | decide | omega)).trans k275
      have k289 : ai_hv t377 19 1 = some (.inl 0) := (e377 19 1 (by first | decide | omega)).trans k276
      have k290 : ai_hv t377 20 1 = some (.inl 0) := (e377 20 1 (by first | decide | omega)).trans k364
      refine ex_go (S := (107, [(2, .inl 2), (0, gx_r 15), (1, gx_r 191)], [], t377, n, 0)) rfl (fun _ => rfl) rfl ?_
      refine ex_go (S := (41, [(2, .inl 2), (0, gx_r 15), (1, gx_r 191)], [], t377, n, 0)) rfl (fun _ => rfl) rfl ?_
      refine ex_go (S := (42, [(2, .inl 2), (0, gx_r 15), (1, gx_r 191)], [.inl 2], t377, n, 0)) rfl (fun _ => rfl) rfl ?_
      refine ex_go (S := (43, [(2, .inl 2), (0, gx_r 15), (1, gx_r 191)], [.inl 2, .inl 2], t377, n, 0)) rfl (fun _ => rfl) rfl ?_
      refine ex_go (S := (110, [(2, .inl 2), (0, gx_r 15), (1, gx_r 191)], [], t377, n, 0)) rfl (fun _ => rfl) rfl ?_
      refine ex_ret (r := (none, t377, n, 0)) rfl (fun _ => rfl) ?_
      refine ⟨_, rfl, t377, rfl, g377, (fun c i h => (e377 c i (by first | decide | omega)).trans ((e364 c i (by first | decide | omega)).trans ((e352 c i (by first | decide | omega)).trans ((e341 c i (by first | decide | omega)).trans ((e331 c i (by first | decide | omega)).trans ((e264 c i (by first | decide | omega)).trans ((e257 c i (by first | decide | omega)).trans ((e251 c i (by first | decide | omega)).trans ((e246 c i (by first | decide | omega)).trans ((e242 c i (by first | decide | omega)).trans ((i102.2 c i (by first | decide | omega)).trans (e101 c i (by first | decide | omega))))))))))))), k278, (fun i hi => (e377 16 i (by first | decide | omega)).trans ((e364 16 i (by first | decide | omega)).trans ((e352 16 i (by first | decide | omega)).trans ((e341 16 i (by first | decide | omega)).trans ((e331 16 i (by first | decide | omega)).trans ((e264 16 i (by first | decide | omega)).trans ((e257 16 i (by first | decide | omega)).trans ((e251 16 i (by first | decide | omega)).trans ((e246 16 i (by first | decide | omega)).trans ((e242 16 i (by first | decide | omega)).trans (i102.1 i hi))))))))))), fun c hc => ?_⟩
      rcases (show c = 0 ∨ c = 1 by omega) with rfl | rfl
      · exact ⟨k281, k282, k283, k284, k285⟩
      · exact ⟨k287, k288, k289, k290, k377⟩
theorem cb_l15_257 (d n : Nat) {tb : en_H} {Q : en_O → Prop} {T : Nat} {P : Nat → Nat} (hT : T ≤ 6) (kT : ai_hv tb 260 5 = some (.inl T)) (kP : ∀ i, i < T → ai_hv tb 263 i = some (.inl (P i))) (hP : ∀ i, i < T → P i ≤ 63) (hQ : ∀ t1, ai_HG ah_G t1 → (∀ i, i < T → ai_hv t1 16 i = some (.inl (P i))) ∧ (∀ c i, ¬ c = 16 → ai_hv t1 c i = ai_hv tb c i) → en_ex none (en_u (d + 1)) (en_code 22) (fun _ => false) (39, [(2, .inl T), (0, gx_r 15), (1, gx_r 257)], [], t1, n, 0) Q) : ∀ j k t0, k + j = T → ai_HG ah_G t0 → (∀ i, i < k → ai_hv t0 16 i = some (.inl (P i))) ∧ (∀ c i, ¬ c = 16 → ai_hv t0 c i = ai_hv tb c i) → en_ex none (en_u (d + 1)) (en_code 22) (fun _ => false) (7, [(2, .inl k), (0, gx_r 15), (1, gx_r 257)], [], t0, n, 0) Q := by
  intro j
  induction j with
  | zero =>
    intro k t0 hk g0 i0
    have hk : k = T := by omega
    subst hk
    have kc := (i0.2 260 5 (by first | decide | omega)).trans kT
    refine ex_go (S := (8, [(2, .inl k), (0, gx_r 15), (1, gx_r 257)], [.inl k], t0, n, 0)) rfl (fun _ => rfl) rfl ?_
    refine ex_go (S := (9, [(2, .inl k), (0, gx_r 15), (1, gx_r 257)], [gx_r 257, .inl k], t0, n, 0)) rfl (fun _ => rfl) rfl ?_
    refine gxo_ref (a := 257) (c := 260) rfl g0 rfl rfl rfl rfl rfl ?_
    refine gxo_get (a := 260) rfl g0 rfl rfl kc rfl ?_
    refine gx_2t (c := .ge) rfl (by first | decide | omega) (by first | decide | omega) (show k ≤ k from by omega) rfl ?_
    exact hQ t0 g0 i0
  | succ j ih =>
    intro k t0 hk g0 i0
    have kc := (i0.2 260 5 (by first | decide | omega)).trans kT
    have kq := (i0.2 263 k (by first | decide | omega)).trans (kP k (by first | decide | omega))
    have hq := hP k (by first | decide | omega)
    refine ex_go (S := (8, [(2, .inl k), (0, gx_r 15), (1, gx_r 257)], [.inl k], t0, n, 0)) rfl (fun _ => rfl) rfl ?_
    refine ex_go (S := (9, [(2, .inl k), (0, gx_r 15), (1, gx_r 257)], [gx_r 257, .inl k], t0, n, 0)) rfl (fun _ => rfl) rfl ?_
    refine gxo_ref (a := 257) (c := 260) rfl g0 rfl rfl rfl rfl rfl ?_
    refine gxo_get (a := 260) rfl g0 rfl rfl kc rfl ?_
    refine gx_2f (c := .ge) rfl (by first | decide | omega) (by first | decide | omega) (show ¬ (T ≤ k) from by omega) rfl ?_
    refine ex_go (S := (19, [(2, .inl k), (0, gx_r 15), (1, gx_r 257)], [gx_r 15], t0, n, 0)) rfl (fun _ => rfl) rfl ?_
    refine gxo_ref (a := 15) (c := 16) rfl g0 rfl rfl rfl rfl rfl ?_
    refine ex_go (S := (23, [(2, .inl k), (0, gx_r 15), (1, gx_r 257)], [.inl k, gx_r 16], t0, n, 0)) rfl (fun _ => rfl) rfl ?_
    refine ex_go (S := (24, [(2, .inl k), (0, gx_r 15), (1, gx_r 257)], [gx_r 257, .inl k, gx_r 16], t0, n, 0)) rfl (fun _ => rfl) rfl ?_
    refine gxo_ref (a := 257) (c := 260) rfl g0 rfl rfl rfl rfl rfl ?_
    refine gxo_ref (a := 260) (c := 263) rfl g0 rfl rfl rfl rfl rfl ?_
    refine ex_go (S := (31, [(2, .inl k), (0, gx_r 15), (1, gx_r 257)], [.inl k, gx_r 263, .inl k, gx_r 16], t0, n, 0)) rfl (fun _ => rfl) rfl ?_
    refine gx_ag (v := .inl (P k)) (cb := fun c => Nat.beq c 0) rfl (fun _ => rfl) g0 rfl rfl kq (by first | decide | omega) rfl ?_
    refine gx_ap rfl (fun _ => rfl) g0 rfl rfl rfl (show k < 6 from by omega) (gx_run1 (show k < 6 from by omega)) (ai_in_h (by first | decide | omega) (by first | decide | omega) (by first | decide | omega)) rfl (fun t101 g101 k101 e101 => ?_)
    have k2 : ai_hv t101 260 5 = some (.inl T) := (e101 260 5 (by first | decide | omega)).trans kc
    have k3 : ai_hv t101 263 k = some (.inl (P k)) := (e101 263 k (by first | decide | omega)).trans kq
    refine gx_iinc (i := 2) (k := 1) rfl (fun _ => rfl) (by first | decide | omega) rfl ?_
    show en_ex _ _ _ _ (36, [(2, .inl (k + 1)), (0, gx_r 15), (1, gx_r 257)], [], t101, n, 0) _
    refine ex_go (S := (7, [(2, .inl (k + 1)), (0, gx_r 15), (1, gx_r 257)], [], t101, n, 0)) rfl (fun _ => rfl) rfl ?_
    refine ih (k + 1) t101 (by first | decide | omega) g101 ⟨fun i hi => ?_, fun c i h => (e101 c i (by first | decide | omega)).trans (i0.2 c i h)⟩
    by_cases e9 : i = k
    · rw [e9]; exact k101
    · exact (e101 16 i (by first | decide | omega)).trans (i0.1 i (by first | decide | omega))
theorem pc_begin15_257 (d n : Nat) {t0 : en_H} (g0 : ai_HG ah_G t0) {T : Nat} {P : Nat → Nat} (hT : T ≤ 6) (kT : ai_hv t0 260 5 = some (.inl T)) (kP : ∀ i, i < T → ai_hv t0 263 i = some (.inl (P i))) (hP : ∀ i, i < T → P i ≤ 63) {K : Nat} {B : Nat → Nat} (hK : K ≤ 2) (kK : ai_hv t0 272 5 = some (.inl K)) (kB : ∀ c, c < K → ai_hv t0 276 c = some (.inl (B c))) (hB : ∀ c, c < K → B c ≤ 9999) : ∃ r, en_u (d + 2) 22 [gx_r 15, gx_r 257] t0 n = some r ∧ ∃ t', r = (none, t', n, 0) ∧ ai_HG ah_G t' ∧ (∀ c i, ¬ (15 ≤ c ∧ c ≤ 21) → ai_hv t' c i = ai_hv t0 c i) ∧ ai_hv t' 15 0 = some (.inl 0) ∧ (∀ i, i < T → ai_hv t' 16 i = some (.inl (P i))) ∧ ∀ c, c < K → ai_hv t' 17 c = some (.inl (B c)) ∧ ai_hv t' 18 c = some (.inl 0) ∧ ai_hv t' 19 c = some (.inl 0) ∧ ai_hv t' 20 c = some (.inl 0) ∧ ai_hv t' 21 c = some (.inl 0) := by
  refine en_u_ex (d := d + 1) rfl ?_
  show en_ex _ _ _ _ (0, [(0, gx_r 15), (1, gx_r 257)], [], t0, n, 0) _
  refine ex_go (S := (1, [(0, gx_r 15), (1, gx_r 257)], [gx_r 15], t0, n, 0)) rfl (fun _ => rfl) rfl ?_
  refine ex_go (S := (2, [(0, gx_r 15), (1, gx_r 257)], [.inl 0, gx_r 15], t0, n, 0)) rfl (fun _ => rfl) rfl ?_
  refine gxo_put (a := 15) rfl g0 rfl rfl rfl (gx_full (by first | decide | omega)) rfl (fun t101 g101 k101 e101 => ?_)
  refine ex_go (S := (6, [(0, gx_r 15), (1, gx_r 257)], [.inl 0], t101, n, 0)) rfl (fun _ => rfl) rfl ?_
  refine ex_go (S := (7, [(2, .inl 0), (0, gx_r 15), (1, gx_r 257)], [], t101, n, 0)) rfl (fun _ => rfl) rfl ?_
  refine cb_l15_257 d n (tb := t101) hT ((e101 260 5 (by first | decide | omega)).trans (kT)) (fun i hi => (e101 263 i (by first | decide | omega)).trans (kP i hi)) hP (fun t102 g102 i102 => ?_) T 0 _ (by first | decide | omega) g101 ⟨fun i hi => absurd hi (Nat.not_lt_zero i), fun _ _ _ => rfl⟩
  have k3 : ai_hv t102 15 0 = some (.inl 0) := (i102.2 15 0 (by first | decide | omega)).trans k101
  refine ex_go (S := (40, [(2, .inl T), (0, gx_r 15), (1, gx_r 257)], [.inl 0], t102, n, 0)) rfl (fun _ => rfl) rfl ?_
  refine ex_go (S := (41, [(2, .inl 0), (0, gx_r 15), (1, gx_r 257)], [], t102, n, 0)) rfl (fun _ => rfl) rfl ?_
  refine ex_go (S := (42, [(2, .inl 0), (0, gx_r 15), (1, gx_r 257)], [.inl 0], t102, n, 0)) rfl (fun _ => rfl) rfl ?_
  refine ex_go (S := (43, [(2, .inl 0), (0, gx_r 15), (1, gx_r 257)], [.inl 2, .inl 0], t102, n, 0)) rfl (fun _ => rfl) rfl ?_
  refine ex_go (S := (46, [(2, .inl 0), (0, gx_r 15), (1, gx_r 257)], [], t102, n, 0)) rfl (fun _ => rfl) rfl ?_
  refine ex_go (S := (47, [(2, .inl 0), (0, gx_r 15), (1, gx_r 257)], [gx_r 15], t102, n, 0)) rfl (fun _ => rfl) rfl ?_
  refine gxo_ref (a := 15) (c := 17) rfl g102 rfl rfl rfl rfl rfl ?_
  refine ex_go (S := (51, [(2, .inl 0), (0, gx_r 15), (1, gx_r 257)], [.inl 0, gx_r 17], t102, n, 0)) rfl (fun _ => rfl) rfl ?_
  refine ex_go (S := (52, [(2, .inl 0), (0, gx_r 15), (1, gx_r 257)], [gx_r 257, .inl 0, gx_r 17], t102, n, 0)) rfl (fun _ => rfl) rfl ?_
  refine gxo_ref (a := 257) (c := 272) rfl g102 rfl rfl rfl rfl rfl ?_
  refine ex_go (S := (56, [(2, .inl 0), (0, gx_r 15), (1, gx_r 257)], [.inl 0, gx_r 272, .inl 0, gx_r 17], t102, n, 0)) rfl (fun _ => rfl) rfl ?_
  obtain ⟨_, r4, b5, rfl, b5b, q6⟩ := pz_holds272 (d) n (x := 0) g102 (by first | decide | omega) ((i102.2 272 5 (by first | decide | omega)).trans ((e101 272 5 (by first | decide | omega)).trans (kK))) (by first | decide | omega)
  refine gx_callo (a := 272) rfl rfl g102 rfl rfl rfl r4 rfl ?_
  show en_ex _ _ _ _ (59, [(2, .inl 0), (0, gx_r 15), (1, gx_r 257)], [.inl b5, .inl 0, gx_r 17], t102, n, 0) _
  by_cases hc7 : b5 = 0
  · refine gx_1t (c := .eq) rfl (by first | decide | omega) hc7 rfl ?_
    refine ex_go (S := (75, [(2, .inl 0), (0, gx_r 15), (1, gx_r 257)], [.inl 0, .inl 0, gx_r 17], t102, n, 0)) rfl (fun _ => rfl) rfl ?_
    refine gx_ap rfl (fun _ => rfl) g102 rfl rfl rfl (show 0 < 2 from by omega) rfl (gx_full (by first | decide | omega)) rfl (fun t108 g108 k108 e108 => ?_)
    have k9 : ai_hv t108 15 0 = some (.inl 0) := (e108 15 0 (by first | decide | omega)).trans k3
    have k10 : ai_hv t108 272 5 = some (.inl K) := (e108 272 5 (by first | decide | omega)).trans ((i102.2 272 5 (by first | decide | omega)).trans ((e101 272 5 (by first | decide | omega)).trans (kK)))
    refine ex_go (S := (77, [(2, .inl 0), (0, gx_r 15), (1, gx_r 257)], [gx_r 15], t108, n, 0)) rfl (fun _ => rfl) rfl ?_
    refine gxo_ref (a := 15) (c := 18) rfl g108 rfl rfl rfl rfl rfl ?_
    refine ex_go (S := (81, [(2, .inl 0), (0, gx_r 15), (1, gx_r 257)], [.inl 0, gx_r 18], t108, n, 0)) rfl (fun _ => rfl) rfl ?_
    refine ex_go (S := (82, [(2, .inl 0), (0, gx_r 15), (1, gx_r 257)], [.inl 0, .inl 0, gx_r 18], t108, n, 0)) rfl (fun _ => rfl) rfl ?_
    refine gx_ap rfl (fun _ => rfl) g108 rfl rfl rfl (show 0 < 2 from by omega) rfl (gx_full (by first | decide | omega)) rfl (fun t111 g111 k111 e111 => ?_)
    have k12 : ai_hv t111 15 0 = some (.inl 0) := (e111 15 0 (by first | decide | omega)).trans k9
    have k13 : ai_hv t111 272 5 = some (.inl K) := (e111 272 5 (by first | decide | omega)).trans k10
    have k14 : ai_hv t111 17 0 = some (.inl 0) := (e111 17 0 (by first | decide | omega)).trans k108
    refine ex_go (S := (84, [(2, .inl 0), (0, gx_r 15), (1, gx_r 257)], [gx_r 15], t111, n, 0)) rfl (fun _ => rfl) rfl ?_
    refine gxo_ref (a := 15) (c := 19) rfl g111 rfl rfl rfl rfl rfl ?_
    refine ex_go (S := (88, [(2, .inl 0), (0, gx_r 15), (1, gx_r 257)], [.inl 0, gx_r 19], t111, n, 0)) rfl (fun _ => rfl) rfl ?_
    refine ex_go (S := (89, [(2, .inl 0), (0, gx_r 15), (1, gx_r 257)], [.inl 0, .inl 0, gx_r 19], t111, n, 0)) rfl (fun _ => rfl) rfl ?_
    refine gx_apv (d := 2) rfl (fun _ => rfl) g111 rfl rfl rfl (show 0 < 2 from by omega) rfl (ai_in_h (by first | decide | omega) (by first | decide | omega) (by first | decide | omega)) rfl (fun t115 g115 k115 e115 => ?_)
    have k16 : ai_hv t115 15 0 = some (.inl 0) := (e115 15 0 (by first | decide | omega)).trans k12
    have k17 : ai_hv t115 272 5 = some (.inl K) := (e115 272 5 (by first | decide | omega)).trans k13
    have k18 : ai_hv t115 17 0 = some (.inl 0) := (e115 17 0 (by first | decide | omega)).trans k14
    have k19 : ai_hv t115 18 0 = some (.inl 0) := (e115 18 0 (by first | decide | omega)).trans k111
    refine ex_go (S := (91, [(2, .inl 0), (0, gx_r 15), (1, gx_r 257)], [gx_r 15], t115, n, 0)) rfl (fun _ => rfl) rfl ?_
    refine gxo_ref (a := 15) (c := 20) rfl g115 rfl rfl rfl rfl rfl ?_
    refine ex_go (S := (95, [(2, .inl 0), (0, gx_r 15), (1, gx_r 257)], [.inl 0, gx_r 20], t115, n, 0)) rfl (fun _ => rfl) rfl ?_
    refine ex_go (S := (96, [(2, .inl 0), (0, gx_r 15), (1, gx_r 257)], [.inl 0, .inl 0, gx_r 20], t115, n, 0)) rfl (fun _ => rfl) rfl ?_
    refine gx_apv (d := 2) rfl (fun _ => rfl) g115 rfl rfl rfl (show 0 < 2 from by omega) rfl (ai_in_h (by first | decide | omega) (by first | decide | omega) (by first | decide | omega)) rfl (fun t120 g120 k120 e120 => ?_)
    have k21 : ai_hv t120 15 0 = some (.inl 0) := (e120 15 0 (by first | decide | omega)).trans k16
    have k22 : ai_hv t120 272 5 = some (.inl K) := (e120 272 5 (by first | decide | omega)).trans k17
    have k23 : ai_hv t120 17 0 = some (.inl 0) := (e120 17 0 (by first | decide | omega)).trans k18
    have k24 : ai_hv t120 18 0 = some (.inl 0) := (e120 18 0 (by first | decide | omega)).trans k19
    have k25 : ai_hv t120 19 0 = some (.inl 0) := (e120 19 0 (by first | decide | omega)).trans k115
    refine ex_go (S := (98, [(2, .inl 0), (0, gx_r 15), (1, gx_r 257)], [gx_r 15], t120, n, 0)) rfl (fun _ => rfl) rfl ?_
    refine gxo_ref (a := 15) (c := 21) rfl g120 rfl rfl rfl rfl rfl ?_
    refine ex_go (S := (102, [(2, .inl 0), (0, gx_r 15), (1, gx_r 257)], [.inl 0, gx_r 21], t120, n, 0)) rfl (fun _ => rfl) rfl ?_
    refine ex_go (S := (103, [(2, .inl 0), (0, gx_r 15), (1, gx_r 257)], [.inl 0, .inl 0, gx_r 21], t120, n, 0)) rfl (fun _ => rfl) rfl ?_
    refine gx_ap rfl (fun _ => rfl) g120 rfl rfl rfl (show 0 < 2 from by omega) rfl (ai_in_h (by first | decide | omega) (by first | decide | omega) (by first | decide | omega)) rfl (fun t126 g126 k126 e126 => ?_)
    have k27 : ai_hv t126 15 0 = some (.inl 0) := (e126 15 0 (by first | decide | omega)).trans k21
    have k28 : ai_hv t126 272 5 = some (.inl K) := (e126 272 5 (by first | decide | omega)).trans k22
    have k29 : ai_hv t126 17 0 = some (.inl 0) := (e126 17 0 (by first | decide | omega)).trans k23
    have k30 : ai_hv t126 18 0 = some (.inl 0) := (e126 18 0 (by first | decide | omega)).trans k24
    have k31 : ai_hv t126 19 0 = some (.inl 0) := (e126 19 0 (by first | decide | omega)).trans k25
    have k32 : ai_hv t126 20 0 = some (.inl 0) := (e126 20 0 (by first | decide | omega)).trans k120
    refine ex_go (S := (107, [(2, .inl 1), (0, gx_r 15), (1, gx_r 257)], [], t126, n, 0)) rfl (fun _ => rfl) rfl ?_
    refine ex_go (S := (41, [(2, .inl 1), (0, gx_r 15), (1, gx_r 257)], [], t126, n, 0)) rfl (fun _ => rfl) rfl ?_
    refine ex_go (S := (42, [(2, .inl 1), (0, gx_r 15), (1, gx_r 257)], [.inl 1], t126, n, 0)) rfl (fun _ => rfl) rfl ?_
    refine ex_go (S := (43, [(2, .inl 1), (0, gx_r 15), (1, gx_r 257)], [.inl 2, .inl 1], t126, n, 0)) rfl (fun _ => rfl) rfl ?_
    refine ex_go (S := (46, [(2, .inl 1), (0, gx_r 15), (1, gx_r 257)], [], t126, n, 0)) rfl (fun _ => rfl) rfl ?_
    refine ex_go (S := (47, [(2, .inl 1), (0, gx_r 15), (1, gx_r 257)], [gx_r 15], t126, n, 0)) rfl (fun _ => rfl) rfl ?_
    refine gxo_ref (a := 15) (c := 17) rfl g126 rfl rfl rfl rfl rfl ?_
    refine ex_go (S := (51, [(2, .inl 1), (0, gx_r 15), (1, gx_r 257)], [.inl 1, gx_r 17], t126, n, 0)) rfl (fun _ => rfl) rfl ?_
    refine ex_go (S := (52, [(2, .inl 1), (0, gx_r 15), (1, gx_r 257)], [gx_r 257, .inl 1, gx_r 17], t126, n, 0)) rfl (fun _ => rfl) rfl ?_
    refine gxo_ref (a := 257) (c := 272) rfl g126 rfl rfl rfl rfl rfl ?_
    refine ex_go (S := (56, [(2, .inl 1), (0, gx_r 15), (1, gx_r 257)], [.inl 1, gx_r 272, .inl 1, gx_r 17], t126, n, 0)) rfl (fun _ => rfl) rfl ?_
    obtain ⟨_, r33, b34, rfl, b34b, q35⟩ := pz_holds272 (d) n (x := 1) g126 (by first | decide | omega) ((e126 272 5 (by first | decide | omega)).trans ((e120 272 5 (by first | decide | omega)).trans ((e115 272 5 (by first | decide | omega)).trans ((e111 272 5 (by first | decide | omega)).trans ((e108 272 5 (by first | decide | omega)).trans ((i102.2 272 5 (by first | decide | omega)).trans ((e101 272 5 (by first | decide | omega)).trans (kK)))))))) (by first | decide | omega)
    refine gx_callo (a := 272) rfl rfl g126 rfl rfl rfl r33 rfl ?_
    show en_ex _ _ _ _ (59, [(2, .inl 1), (0, gx_r 15), (1, gx_r 257)], [.inl b34, .inl 1, gx_r 17], t126, n, 0) _
    by_cases hc36 : b34 = 0
    · refine gx_1t (c := .eq) rfl (by first | decide | omega) hc36 rfl ?_
      refine ex_go (S := (75, [(2, .inl 1), (0, gx_r 15), (1, gx_r 257)], [.inl 0, .inl 1, gx_r 17], t126, n, 0)) rfl (fun _ => rfl) rfl ?_
      refine gx_ap rfl (fun _ => rfl) g126 rfl rfl rfl (show 1 < 2 from by omega) rfl (gx_full (by first | decide | omega)) rfl (fun t137 g137 k137 e137 => ?_)
      have k38 : ai_hv t137 15 0 = some (.inl 0) := (e137 15 0 (by first | decide | omega)).trans k27
      have k39 : ai_hv t137 272 5 = some (.inl K) := (e137 272 5 (by first | decide | omega)).trans ((e126 272 5 (by first | decide | omega)).trans ((e120 272 5 (by first | decide | omega)).trans ((e115 272 5 (by first | decide | omega)).trans ((e111 272 5 (by first | decide | omega)).trans ((e108 272 5 (by first | decide | omega)).trans ((i102.2 272 5 (by first | decide | omega)).trans ((e101 272 5 (by first | decide | omega)).trans (kK))))))))
      have k40 : ai_hv t137 17 0 = some (.inl 0) := (e137 17 0 (by first | decide | omega)).trans k29
      have k41 : ai_hv t137 18 0 = some (.inl 0) := (e137 18 0 (by first | decide | omega)).trans k30
      have k42 : ai_hv t137 19 0 = some (.inl 0) := (e137 19 0 (by first | decide | omega)).trans k31
      have k43 : ai_hv t137 20 0 = some (.inl 0) := (e137 20 0 (by first | decide | omega)).trans k32
      have k44 : ai_hv t137 21 0 = some (.inl 0) := (e137 21 0 (by first | decide | omega)).trans k126
      refine ex_go (S := (77, [(2, .inl 1), (0, gx_r 15), (1, gx_r 257)], [gx_r 15], t137, n, 0)) rfl (fun _ => rfl) rfl ?_
      refine gxo_ref (a := 15) (c := 18) rfl g137 rfl rfl rfl rfl rfl ?_
      refine ex_go (S := (81, [(2, .inl 1), (0, gx_r 15), (1, gx_r 257)], [.inl 1, gx_r 18], t137, n, 0)) rfl (fun _ => rfl) rfl ?_
      refine ex_go (S := (82, [(2, .inl 1), (0, gx_r 15), (1, gx_r 257)], [.inl 0, .inl 1, gx_r 18], t137, n, 0)) rfl (fun _ => rfl) rfl ?_
      refine gx_ap rfl (fun _ => rfl) g137 rfl rfl rfl (show 1 < 2 from by omega) rfl (gx_full (by first | decide | omega)) rfl (fun t145 g145 k145 e145 => ?_)
      have k46 : ai_hv t145 15 0 = some (.inl 0) := (e145 15 0 (by first | decide | omega)).trans k38
      have k47 : ai_hv t145 272 5 = some (.inl K) := (e145 272 5 (by first | decide | omega)).trans k39
      have k48 : ai_hv t145 17 0 = some (.inl 0) := (e145 17 0 (by first | decide | omega)).trans k40
      have k49 : ai_hv t145 18 0 = some (.inl 0) := (e145 18 0 (by first | decide | omega)).trans k41
      have k50 : ai_hv t145 19 0 = some (.inl 0) := (e145 19 0 (by first | decide | omega)).trans k42
      have k51 : ai_hv t145 20 0 = some (.inl 0) := (e145 20 0 (by first | decide | omega)).trans k43
      have k52 : ai_hv t145 21 0 = some (.inl 0) := (e145 21 0 (by first | decide | omega)).trans k44
      have k53 : ai_hv t145 17 1 = some (.inl 0) := (e145 17 1 (by first | decide | omega)).trans k137
      refine ex_go (S := (84, [(2, .inl 1), (0, gx_r 15), (1, gx_r 257)], [gx_r 15], t145, n, 0)) rfl (fun _ => rfl) rfl ?_
      refine gxo_ref (a := 15) (c := 19) rfl g145 rfl rfl rfl rfl rfl ?_
      refine ex_go (S := (88, [(2, .inl 1), (0, gx_r 15), (1, gx_r 257)], [.inl 1, gx_r 19], t145, n, 0)) rfl (fun _ => rfl) rfl ?_
      refine ex_go (S := (89, [(2, .inl 1), (0, gx_r 15), (1, gx_r 257)], [.inl 0, .inl 1, gx_r 19], t145, n, 0)) rfl (fun _ => rfl) rfl ?_
      refine gx_apv (d := 2) rfl (fun _ => rfl) g145 rfl rfl rfl (show 1 < 2 from by omega) rfl (ai_in_h (by first | decide | omega) (by first | decide | omega) (by first | decide | omega)) rfl (fun t154 g154 k154 e154 => ?_)
      have k55 : ai_hv t154 15 0 = some (.inl 0) := (e154 15 0 (by first | decide | omega)).trans k46
      have k56 : ai_hv t154 272 5 = some (.inl K) := (e154 272 5 (by first | decide | omega)).trans k47
      have k57 : ai_hv t154 17 0 = some (.inl 0) := (e154 17 0 (by first | decide | omega)).trans k48
      have k58 : ai_hv t154 18 0 = some (.inl 0) := (e154 18 0 (by first | decide | omega)).trans k49
      have k59 : ai_hv t154 19 0 = some (.inl 0) := (e154 19 0 (by first | decide | omega)).trans k50
      have k60 : ai_hv t154 20 0 = some (.inl 0) := (e154 20 0 (by first | decide | omega)).trans k51
      have k61 : ai_hv t154 21 0 = some (.inl 0) := (e154 21 0 (by first | decide | omega)).trans k52
      have k62 : ai_hv t154 17 1 = some (.inl 0) := (e154 17 1 (by first | decide | omega)).trans k53
      have k63 : ai_hv t154 18 1 = some (.inl 0) := (e154 18 1 (by first | decide | omega)).trans k145
      refine ex_go (S := (91, [(2, .inl 1), (0, gx_r 15), (1, gx_r 257)], [gx_r 15], t154, n, 0)) rfl (fun _ => rfl) rfl ?_
      refine gxo_ref (a := 15) (c := 20) rfl g154 rfl rfl rfl rfl rfl ?_
      refine ex_go (S := (95, [(2, .inl 1), (0, gx_r 15), (1, gx_r 257)], [.inl 1, gx_r 20], t154, n, 0)) rfl (fun _ => rfl) rfl ?_
      refine ex_go (S := (96, [(2, .inl 1), (0, gx_r 15), (1, gx_r 257)], [.inl 0, .inl 1, gx_r 20], t154, n, 0)) rfl (fun _ => rfl) rfl ?_
      refine gx_apv (d := 2) rfl (fun _ => rfl) g154 rfl rfl rfl (show 1 < 2 from by omega) rfl (ai_in_h (by first | decide | omega) (by first | decide | omega) (by first | decide | omega)) rfl (fun t164 g164 k164 e164 => ?_)
      have k65 : ai_hv t164 15 0 = some (.inl 0) := (e164 15 0 (by first | decide | omega)).trans k55
      have k66 : ai_hv t164 272 5 = some (.inl K) := (e164 272 5 (by first | decide | omega)).trans k56
      have k67 : ai_hv t164 17 0 = some (.inl 0) := (e164 17 0 (by first | decide | omega)).trans k57
      have k68 : ai_hv t164 18 0 = some (.inl 0) := (e164 18 0 (by first | decide | omega)).trans k58
      have k69 : ai_hv t164 19 0 = some (.inl 0) := (e164 19 0 (by first | decide | omega)).trans k59
      have k70 : ai_hv t164 20 0 = some (.inl 0) := (e164 20 0 (by first | decide | omega)).trans k60
      have k71 : ai_hv t164 21 0 = some (.inl 0) := (e164 21 0 (by first | decide | omega)).trans k61
      have k72 : ai_hv t164 17 1 = some (.inl 0) := (e164 17 1 (by first | decide | omega)).trans k62
      have k73 : ai_hv t164 18 1 = some (.inl 0) := (e164 18 1 (by first | decide | omega)).trans k63
      have k74 : ai_hv t164 19 1 = some (.inl 0) := (e164 19 1 (by first | decide | omega)).trans k154
      refine ex_go (S := (98, [(2, .inl 1), (0, gx_r 15), (1, gx_r 257)], [gx_r 15], t164, n, 0)) rfl (fun _ => rfl) rfl ?_
      refine gxo_ref (a := 15) (c := 21) rfl g164 rfl rfl rfl rfl rfl ?_
      refine ex_go (S := (102, [(2, .inl 1), (0, gx_r 15), (1, gx_r 257)], [.inl 1, gx_r 21], t164, n, 0)) rfl (fun _ => rfl) rfl ?_
      refine ex_go (S := (103, [(2, .inl 1), (0, gx_r 15), (1, gx_r 257)], [.inl 0, .inl 1, gx_r 21], t164, n, 0)) rfl (fun _ => rfl) rfl ?_
      refine gx_ap rfl (fun _ => rfl) g164 rfl rfl rfl (show 1 < 2 from by omega) rfl (ai_in_h (by first | decide | omega) (by first | decide | omega) (by first | decide | omega)) rfl (fun t175 g175 k175 e175 => ?_)
      have k76 : ai_hv t175 15 0 = some (.inl 0) := (e175 15 0 (by first | decide | omega)).trans k65
      have k77 : ai_hv t175 272 5 = some (.inl K) := (e175 272 5 (by first | decide | omega)).trans k66
      have k78 : ai_hv t175 17 0 = some (.inl 0) := (e175 17 0 (by first | decide | omega)).trans k67
      have k79 : ai_hv t175 18 0 = some (.inl 0) := (e175 18 0 (by first | decide | omega)).trans k68
      have k80 : ai_hv t175 19 0 = some (.inl 0) := (e175 19 0 (by first | decide | omega)).trans k69
      have k81 : ai_hv t175 20 0 = some (.inl 0) := (e175 20 0 (by first | decide | omega)).trans k70
      have k82 : ai_hv t175 21 0 = some (.inl 0) := (e175 21 0 (by first | decide | omega)).trans k71
      have k83 : ai_hv t175 17 1 = some (.inl 0) := (e175 17 1 (by first | decide | omega)).trans k72
      have k84 : ai_hv t175 18 1 = some (.inl 0) := (e175 18 1 (by first | decide | omega)).trans k73
      have k85 : ai_hv t175 19 1 = some (.inl 0) := (e175 19 1 (by first | decide | omega)).trans k74
      have k86 : ai_hv t175 20 1 = some (.inl 0) := (e175 20 1 (by first | decide | omega)).trans k164
      refine ex_go (S := (107, [(2, .inl 2), (0, gx_r 15), (1, gx_r 257)], [], t175, n, 0)) rfl (fun _ => rfl) rfl ?_
      refine ex_go (S := (41, [(2, .inl 2), (0, gx_r 15), (1, gx_r 257)], [], t175, n, 0)) rfl (fun _ => rfl) rfl ?_
      refine ex_go (S := (42, [(2, .inl 2), (0, gx_r 15), (1, gx_r 257)], [.inl 2], t175, n, 0)) rfl (fun _ => rfl) rfl ?_
      refine ex_go (S := (43, [(2, .inl 2), (0, gx_r 15), (1, gx_r 257)], [.inl 2, .inl 2], t175, n, 0)) rfl (fun _ => rfl) rfl ?_
      refine ex_go (S := (110, [(2, .inl 2), (0, gx_r 15), (1, gx_r 257)], [], t175, n, 0)) rfl (fun _ => rfl) rfl ?_
      refine ex_ret (r := (none, t175, n, 0)) rfl (fun _ => rfl) ?_
      refine ⟨_, rfl, t175, rfl, g175, (fun c i h => (e175 c i (by first | decide | omega)).trans ((e164 c i (by first | decide | omega)).trans ((e154 c i (by first | decide | omega)).trans ((e145 c i (by first | decide | omega)).trans ((e137 c i (by first | decide | omega)).trans ((e126 c i (by first | decide | omega)).trans ((e120 c i (by first | decide | omega)).trans ((e115 c i (by first | decide | omega)).trans ((e111 c i (by first | decide | omega)).trans ((e108 c i (by first | decide | omega)).trans ((i102.2 c i (by first | decide | omega)).trans (e101 c i (by first | decide | omega))))))))))))), k76, (fun i hi => (e175 16 i (by first | decide | omega)).trans ((e164 16 i (by first | decide | omega)).trans ((e154 16 i (by first | decide | omega)).trans ((e145 16 i (by first | decide | omega)).trans ((e137 16 i (by first | decide | omega)).trans ((e126 16 i (by first | decide | omega)).trans ((e120 16 i (by first | decide | omega)).trans ((e115 16 i (by first | decide | omega)).trans ((e111 16 i (by first | decide | omega)).trans ((e108 16 i (by first | decide | omega)).trans (i102.1 i hi))))))))))), fun c hc => ?_⟩
      rcases (show c = 0 ∨ c = 1 by omega) with rfl | rfl
      · omega
      · omega
    · refine gx_1f (c := .eq) rfl (by first | decide | omega) hc36 rfl ?_
      refine ex_go (S := (63, [(2, .inl 1), (0, gx_r 15), (1, gx_r 257)], [gx_r 257, .inl 1, gx_r 17], t126, n, 0)) rfl (fun _ => rfl) rfl ?_
      refine gxo_ref (a := 257) (c := 272) rfl g126 rfl rfl rfl rfl rfl ?_
      refine gxo_ref (a := 272) (c := 276) rfl g126 rfl rfl rfl rfl rfl ?_
      refine ex_go (S := (70, [(2, .inl 1), (0, gx_r 15), (1, gx_r 257)], [.inl 1, gx_r 276, .inl 1, gx_r 17], t126, n, 0)) rfl (fun _ => rfl) rfl ?_
      have := hB 1 (by first | decide | omega)
      refine gx_ag (v := .inl (B 1)) (cb := fun c => Nat.beq c 0) rfl (fun _ => rfl) g126 rfl rfl ((e126 276 1 (by first | decide | omega)).trans ((e120 276 1 (by first | decide | omega)).trans ((e115 276 1 (by first | decide | omega)).trans ((e111 276 1 (by first | decide | omega)).trans ((e108 276 1 (by first | decide | omega)).trans ((i102.2 276 1 (by first | decide | omega)).trans ((e101 276 1 (by first | decide | omega)).trans (kB 1 (by first | decide | omega))))))))) (by first | decide | omega) rfl ?_
      refine ex_go (S := (75, [(2, .inl 1), (0, gx_r 15), (1, gx_r 257)], [.inl (B 1), .inl 1, gx_r 17], t126, n, 0)) rfl (fun _ => rfl) rfl ?_
      refine gx_ap rfl (fun _ => rfl) g126 rfl rfl rfl (show 1 < 2 from by omega) rfl (gx_full (by first | decide | omega)) rfl (fun t187 g187 k187 e187 => ?_)
      have k88 : ai_hv t187 15 0 = some (.inl 0) := (e187 15 0 (by first | decide | omega)).trans k27
      have k89 : ai_hv t187 272 5 = some (.inl K) := (e187 272 5 (by first | decide | omega)).trans ((e126 272 5 (by first | decide | omega)).trans ((e120 272 5 (by first | decide | omega)).trans ((e115 272 5 (by first | decide | omega)).trans ((e111 272 5 (by first | decide | omega)).trans ((e108 272 5 (by first | decide | omega)).trans ((i102.2 272 5 (by first | decide | omega)).trans ((e101 272 5 (by first | decide | omega)).trans (kK))))))))
      have k90 : ai_hv t187 17 0 = some (.inl 0) := (e187 17 0 (by first | decide | omega)).trans k29
      have k91 : ai_hv t187 18 0 = some (.inl 0) := (e187 18 0 (by first | decide | omega)).trans k30
      have k92 : ai_hv t187 19 0 = some (.inl 0) := (e187 19 0 (by first | decide | omega)).trans k31
      have k93 : ai_hv t187 20 0 = some (.inl 0) := (e187 20 0 (by first | decide | omega)).trans k32
      have k94 : ai_hv t187 21 0 = some (.inl 0) := (e187 21 0 (by first | decide | omega)).trans k126
      have k95 : ai_hv t187 276 1 = some (.inl (B 1)) := (e187 276 1 (by first | decide | omega)).trans ((e126 276 1 (by first | decide | omega)).trans ((e120 276 1 (by first | decide | omega)).trans ((e115 276 1 (by first | decide | omega)).trans ((e111 276 1 (by first | decide | omega)).trans ((e108 276 1 (by first | decide | omega)).trans ((i102.2 276 1 (by first | decide | omega)).trans ((e101 276 1 (by first | decide | omega)).trans (kB 1 (by first | decide | omega)))))))))
      refine ex_go (S := (77, [(2, .inl 1), (0, gx_r 15), (1, gx_r 257)], [gx_r 15], t187, n, 0)) rfl (fun _ => rfl) rfl ?_
      refine gxo_ref (a := 15) (c := 18) rfl g187 rfl rfl rfl rfl rfl ?_
      refine ex_go (S := (81, [(2, .inl 1), (0, gx_r 15), (1, gx_r 257)], [.inl 1, gx_r 18], t187, n, 0)) rfl (fun _ => rfl) rfl ?_
      refine ex_go (S := (82, [(2, .inl 1), (0, gx_r 15), (1, gx_r 257)], [.inl 0, .inl 1, gx_r 18], t187, n, 0)) rfl (fun _ => rfl) rfl ?_
      refine gx_ap rfl (fun _ => rfl) g187 rfl rfl rfl (show 1 < 2 from by omega) rfl (gx_full (by first | decide | omega)) rfl (fun t196 g196 k196 e196 => ?_)
      have k97 : ai_hv t196 15 0 = some (.inl 0) := (e196 15 0 (by first | decide | omega)).trans k88
      have k98 : ai_hv t196 272 5 = some (.inl K) := (e196 272 5 (by first | decide | omega)).trans k89
      have k99 : ai_hv t196 17 0 = some (.inl 0) := (e196 17 0 (by first | decide | omega)).trans k90
      have k100 : ai_hv t196 18 0 = some (.inl 0) := (e196 18 0 (by first | decide | omega)).trans k91
      have k101 : ai_hv t196 19 0 = some (.inl 0) := (e196 19 0 (by first | decide | omega)).trans k92
      have k102 : ai_hv t196 20 0 = some (.inl 0) := (e196 20 0 (by first | decide | omega)).trans k93
      have k103 : ai_hv t196 21 0 = some (.inl 0) := (e196 21 0 (by first | decide | omega)).trans k94
      have k104 : ai_hv t196 276 1 = some (.inl (B 1)) := (e196 276 1 (by first | decide | omega)).trans k95
      have k105 : ai_hv t196 17 1 = some (.inl (B 1)) := (e196 17 1 (by first | decide | omega)).trans k187
      refine ex_go (S := (84, [(2, .inl 1), (0, gx_r 15), (1, gx_r 257)], [gx_r 15], t196, n, 0)) rfl (fun _ => rfl) rfl ?_
      refine gxo_ref (a := 15) (c := 19) rfl g196 rfl rfl rfl rfl rfl ?_
      refine ex_go (S := (88, [(2, .inl 1), (0, gx_r 15), (1, gx_r 257)], [.inl 1, gx_r 19], t196, n, 0)) rfl (fun _ => rfl) rfl ?_
      refine ex_go (S := (89, [(2, .inl 1), (0, gx_r 15), (1, gx_r 257)], [.inl 0, .inl 1, gx_r 19], t196, n, 0)) rfl (fun _ => rfl) rfl ?_
      refine gx_apv (d := 2) rfl (fun _ => rfl) g196 rfl rfl rfl (show 1 < 2 from by omega) rfl (ai_in_h (by first | decide | omega) (by first | decide | omega) (by first | decide | omega)) rfl (fun t206 g206 k206 e206 => ?_)
      have k107 : ai_hv t206 15 0 = some (.inl 0) := (e206 15 0 (by first | decide | omega)).trans k97
      have k108 : ai_hv t206 272 5 = some (.inl K) := (e206 272 5 (by first | decide | omega)).trans k98
      have k109 : ai_hv t206 17 0 = some (.inl 0) := (e206 17 0 (by first | decide | omega)).trans k99
      have k110 : ai_hv t206 18 0 = some (.inl 0) := (e206 18 0 (by first | decide | omega)).trans k100
      have k111 : ai_hv t206 19 0 = some (.inl 0) := (e206 19 0 (by first | decide | omega)).trans k101
      have k112 : ai_hv t206 20 0 = some (.inl 0) := (e206 20 0 (by first | decide | omega)).trans k102
      have k113 : ai_hv t206 21 0 = some (.inl 0) := (e206 21 0 (by first | decide | omega)).trans k103
      have k114 : ai_hv t206 276 1 = some (.inl (B 1)) := (e206 276 1 (by first | decide | omega)).trans k104
      have k115 : ai_hv t206 17 1 = some (.inl (B 1)) := (e206 17 1 (by first | decide | omega)).trans k105
      have k116 : ai_hv t206 18 1 = some (.inl 0) := (e206 18 1 (by first | decide | omega)).trans k196
      refine ex_go (S := (91, [(2, .inl 1), (0, gx_r 15), (1, gx_r 257)], [gx_r 15], t206, n, 0)) rfl (fun _ => rfl) rfl ?_
      refine gxo_ref (a := 15) (c := 20) rfl g206 rfl rfl rfl rfl rfl ?_
      refine ex_go (S := (95, [(2, .inl 1), (0, gx_r 15), (1, gx_r 257)], [.inl 1, gx_r 20], t206, n, 0)) rfl (fun _ => rfl) rfl ?_
      refine ex_go (S := (96, [(2, .inl 1), (0, gx_r 15), (1, gx_r 257)], [.inl 0, .inl 1, gx_r 20], t206, n, 0)) rfl (fun _ => rfl) rfl ?_
      refine gx_apv (d := 2) rfl (fun _ => rfl) g206 rfl rfl rfl (show 1 < 2 from by omega) rfl (ai_in_h (by first | decide | omega) (by first | decide | omega) (by first | decide | omega)) rfl (fun t217 g217 k217 e217 => ?_)
      have k118 : ai_hv t217 15 0 = some (.inl 0) := (e217 15 0 (by first | decide | omega)).trans k107
      have k119 : ai_hv t217 272 5 = some (.inl K) := (e217 272 5 (by first | decide | omega)).trans k108
      have k120 : ai_hv t217 17 0 = some (.inl 0) := (e217 17 0 (by first | decide | omega)).trans k109
      have k121 : ai_hv t217 18 0 = some (.inl 0) := (e217 18 0 (by first | decide | omega)).trans k110
      have k122 : ai_hv t217 19 0 = some (.inl 0) := (e217 19 0 (by first | decide | omega)).trans k111
      have k123 : ai_hv t217 20 0 = some (.inl 0) := (e217 20 0 (by first | decide | omega)).trans k112
      have k124 : ai_hv t217 21 0 = some (.inl 0) := (e217 21 0 (by first | decide | omega)).trans k113
      have k125 : ai_hv t217 276 1 = some (.inl (B 1)) := (e217 276 1 (by first | decide | omega)).trans k114
      have k126 : ai_hv t217 17 1 = some (.inl (B 1)) := (e217 17 1 (by first | decide | omega)).trans k115
      have k127 : ai_hv t217 18 1 = some (.inl 0) := (e217 18 1 (by first | decide | omega)).trans k116
      have k128 : ai_hv t217 19 1 = some (.inl 0) := (e217 19 1 (by first | decide | omega)).trans k206
      refine ex_go (S := (98, [(2, .inl 1), (0, gx_r 15), (1, gx_r 257)], [gx_r 15], t217, n, 0)) rfl (fun _ => rfl) rfl ?_
      refine gxo_ref (a := 15) (c := 21) rfl g217 rfl rfl rfl rfl rfl ?_
      refine ex_go (S := (102, [(2, .inl 1), (0, gx_r 15), (1, gx_r 257)], [.inl 1, gx_r 21], t217, n, 0)) rfl (fun _ => rfl) rfl ?_
      refine ex_go (S := (103, [(2, .inl 1), (0, gx_r 15), (1, gx_r 257)], [.inl 0, .inl 1, gx_r 21], t217, n, 0)) rfl (fun _ => rfl) rfl ?_
      refine gx_ap rfl (fun _ => rfl) g217 rfl rfl rfl (show 1 < 2 from by omega) rfl (ai_in_h (by first | decide | omega) (by first | decide | omega) (by first | decide | omega)) rfl (fun t229 g229 k229 e229 => ?_)
      have k130 : ai_hv t229 15 0 = some (.inl 0) := (e229 15 0 (by first | decide | omega)).trans k118
      have k131 : ai_hv t229 272 5 = some (.inl K) := (e229 272 5 (by first | decide | omega)).trans k119
      have k132 : ai_hv t229 17 0 = some (.inl 0) := (e229 17 0 (by first | decide | omega)).trans k120
      have k133 : ai_hv t229 18 0 = some (.inl 0) := (e229 18 0 (by first | decide | omega)).trans k121
      have k134 : ai_hv t229 19 0 = some (.inl 0) := (e229 19 0 (by first | decide | omega)).trans k122
      have k135 : ai_hv t229 20 0 = some (.inl 0) := (e229 20 0 (by first | decide | omega)).trans k123
      have k136 : ai_hv t229 21 0 = some (.inl 0) := (e229 21 0 (by first | decide | omega)).trans k124
      have k137 : ai_hv t229 276 1 = some (.inl (B 1)) := (e229 276 1 (by first | decide | omega)).trans k125
      have k138 : ai_hv t229 17 1 = some (.inl (B 1)) := (e229 17 1 (by first | decide | omega)).trans k126
      have k139 : ai_hv t229 18 1 = some (.inl 0) := (e229 18 1 (by first | decide | omega)).trans k127
      have k140 : ai_hv t229 19 1 = some (.inl 0) := (e229 19 1 (by first | decide | omega)).trans k128
      have k141 : ai_hv t229 20 1 = some (.inl 0) := (e229 20 1 (by first | decide | omega)).trans k217
      refine ex_go (S := (107, [(2, .inl 2), (0, gx_r 15), (1, gx_r 257)], [], t229, n, 0)) rfl (fun _ => rfl) rfl ?_
      refine ex_go (S := (41, [(2, .inl 2), (0, gx_r 15), (1, gx_r 257)], [], t229, n, 0)) rfl (fun _ => rfl) rfl ?_
      refine ex_go (S := (42, [(2, .inl 2), (0, gx_r 15), (1, gx_r 257)], [.inl 2], t229, n, 0)) rfl (fun _ => rfl) rfl ?_
      refine ex_go (S := (43, [(2, .inl 2), (0, gx_r 15), (1, gx_r 257)], [.inl 2, .inl 2], t229, n, 0)) rfl (fun _ => rfl) rfl ?_
      refine ex_go (S := (110, [(2, .inl 2), (0, gx_r 15), (1, gx_r 257)], [], t229, n, 0)) rfl (fun _ => rfl) rfl ?_
      refine ex_ret (r := (none, t229, n, 0)) rfl (fun _ => rfl) ?_
      refine ⟨_, rfl, t229, rfl, g229, (fun c i h => (e229 c i (by first | decide | omega)).trans ((e217 c i (by first | decide | omega)).trans ((e206 c i (by first | decide | omega)).trans ((e196 c i (by first | decide | omega)).trans ((e187 c i (by first | decide | omega)).trans ((e126 c i (by first | decide | omega)).trans ((e120 c i (by first | decide | omega)).trans ((e115 c i (by first | decide | omega)).trans ((e111 c i (by first | decide | omega)).trans ((e108 c i (by first | decide | omega)).trans ((i102.2 c i (by first | decide | omega)).trans (e101 c i (by first | decide | omega))))))))))))), k130, (fun i hi => (e229 16 i (by first | decide | omega)).trans ((e217 16 i (by first | decide | omega)).trans ((e206 16 i (by first | decide | omega)).trans ((e196 16 i (by first | decide | omega)).trans ((e187 16 i (by first | decide | omega)).trans ((e126 16 i (by first | decide | omega)).trans ((e120 16 i (by first | decide | omega)).trans ((e115 16 i (by first | decide | omega)).trans ((e111 16 i (by first | decide | omega)).trans ((e108 16 i (by first | decide | omega)).trans (i102.1 i hi))))))))))), fun c hc => ?_⟩
      rcases (show c = 0 ∨ c = 1 by omega) with rfl | rfl
      · omega
      · exact ⟨k138, k139, k140, k141, k229⟩
  · refine gx_1f (c := .eq) rfl (by first | decide | omega) hc7 rfl ?_
    refine ex_go (S := (63, [(2, .inl 0), (0, gx_r 15), (1, gx_r 257)], [gx_r 257, .inl 0, gx_r 17], t102, n, 0)) rfl (fun _ => rfl) rfl ?_
    refine gxo_ref (a := 257) (c := 272) rfl g102 rfl rfl rfl rfl rfl ?_
    refine gxo_ref (a := 272) (c := 276) rfl g102 rfl rfl rfl rfl rfl ?_
    refine ex_go (S := (70, [(2, .inl 0), (0, gx_r 15), (1, gx_r 257)], [.inl 0, gx_r 276, .inl 0, gx_r 17], t102, n, 0)) rfl (fun _ => rfl) rfl ?_
    have := hB 0 (by first | decide | omega)
    refine gx_ag (v := .inl (B 0)) (cb := fun c => Nat.beq c 0) rfl (fun _ => rfl) g102 rfl rfl ((i102.2 276 0 (by first | decide | omega)).trans ((e101 276 0 (by first | decide | omega)).trans (kB 0 (by first | decide | omega)))) (by first | decide | omega) rfl ?_
    refine ex_go (S := (75, [(2, .inl 0), (0, gx_r 15), (1, gx_r 257)], [.inl (B 0), .inl 0, gx_r 17], t102, n, 0)) rfl (fun _ => rfl) rfl ?_
    refine gx_ap rfl (fun _ => rfl) g102 rfl rfl rfl (show 0 < 2 from by omega) rfl (gx_full (by first | decide | omega)) rfl (fun t242 g242 k242 e242 => ?_)
    have k143 : ai_hv t242 15 0 = some (.inl 0) := (e242 15 0 (by first | decide | omega)).trans k3
    have k144 : ai_hv t242 272 5 = some (.inl K) := (e242 272 5 (by first | decide | omega)).trans ((i102.2 272 5 (by first | decide | omega)).trans ((e101 272 5 (by first | decide | omega)).trans (kK)))
    have k145 : ai_hv t242 276 0 = some (.inl (B 0)) := (e242 276 0 (by first | decide | omega)).trans ((i102.2 276 0 (by first | decide | omega)).trans ((e101 276 0 (by first | decide | omega)).trans (kB 0 (by first | decide | omega))))
    refine ex_go (S := (77, [(2, .inl 0), (0, gx_r 15), (1, gx_r 257)], [gx_r 15], t242, n, 0)) rfl (fun _ => rfl) rfl ?_
    refine gxo_ref (a := 15) (c := 18) rfl g242 rfl rfl rfl rfl rfl ?_
    refine ex_go (S := (81, [(2, .inl 0), (0, gx_r 15), (1, gx_r 257)], [.inl 0, gx_r 18], t242, n, 0)) rfl (fun _ => rfl) rfl ?_
    refine ex_go (S := (82, [(2, .inl 0), (0, gx_r 15), (1, gx_r 257)], [.inl 0, .inl 0, gx_r 18], t242, n, 0)) rfl (fun _ => rfl) rfl ?_
    refine gx_ap rfl (fun _ => rfl) g242 rfl rfl rfl (show 0 < 2 from by omega) rfl (gx_full (by first | decide | omega)) rfl (fun t246 g246 k246 e246 => ?_)
    have k147 : ai_hv t246 15 0 = some (.inl 0) := (e246 15 0 (by first | decide | omega)).trans k143
    have k148 : ai_hv t246 272 5 = some (.inl K) := (e246 272 5 (by first | decide | omega)).trans k144
    have k149 : ai_hv t246 276 0 = some (.inl (B 0)) := (e246 276 0 (by first | decide | omega)).trans k145
    have k150 : ai_hv t246 17 0 = some (.inl (B 0)) := (e246 17 0 (by first | decide | omega)).trans k242
    refine ex_go (S := (84, [(2, .inl 0), (0, gx_r 15), (1, gx_r 257)], [gx_r 15], t246, n, 0)) rfl (fun _ => rfl) rfl ?_
    refine gxo_ref (a := 15) (c := 19) rfl g246 rfl rfl rfl rfl rfl ?_
    refine ex_go (S := (88, [(2, .inl 0), (0, gx_r 15), (1, gx_r 257)], [.inl 0, gx_r 19], t246, n, 0)) rfl (fun _ => rfl) rfl ?_
    refine ex_go (S := (89, [(2, .inl 0), (0, gx_r 15), (1, gx_r 257)], [.inl 0, .inl 0, gx_r 19], t246, n, 0)) rfl (fun _ => rfl) rfl ?_
    refine gx_apv (d := 2) rfl (fun _ => rfl) g246 rfl rfl rfl (show 0 < 2 from by omega) rfl (ai_in_h (by first | decide | omega) (by first | decide | omega) (by first | decide | omega)) rfl (fun t251 g251 k251 e251 => ?_)
    have k152 : ai_hv t251 15 0 = some (.inl 0) := (e251 15 0 (by first | decide | omega)).trans k147
    have k153 : ai_hv t251 272 5 = some (.inl K) := (e251 272 5 (by first | decide | omega)).trans k148
    have k154 : ai_hv t251 276 0 = some (.inl (B 0)) := (e251 276 0 (by first | decide | omega)).trans k149
    have k155 : ai_hv t251 17 0 = some (.inl (B 0)) := (e251 17 0 (by first | decide | omega)).trans k150
    have k156 : ai_hv t251 18 0 = some (.inl 0) := (e251 18 0 (by first | decide | omega)).trans k246
    refine ex_go (S := (91, [(2, .inl 0), (0, gx_r 15), (1, gx_r 257)], [gx_r 15], t251, n, 0)) rfl (fun _ => rfl) rfl ?_
    refine gxo_ref (a := 15) (c := 20) rfl g251 rfl rfl rfl rfl rfl ?_
    refine ex_go (S := (95, [(2, .inl 0), (0, gx_r 15), (1, gx_r 257)], [.inl 0, gx_r 20], t251, n, 0)) rfl (fun _ => rfl) rfl ?_
    refine ex_go (S := (96, [(2, .inl 0), (0, gx_r 15), (1, gx_r 257)], [.inl 0, .inl 0, gx_r 20], t251, n, 0)) rfl (fun _ => rfl) rfl ?_
    refine gx_apv (d := 2) rfl (fun _ => rfl) g251 rfl rfl rfl (show 0 < 2 from by omega) rfl (ai_in_h (by first | decide | omega) (by first | decide | omega) (by first | decide | omega)) rfl (fun t257 g257 k257 e257 => ?_)
    have k158 : ai_hv t257 15 0 = some (.inl 0) := (e257 15 0 (by first | decide | omega)).trans k152
    have k159 : ai_hv t257 272 5 = some (.inl K) := (e257 272 5 (by first | decide | omega)).trans k153
    have k160 : ai_hv t257 276 0 = some (.inl (B 0)) := (e257 276 0 (by first | decide | omega)).trans k154
    have k161 : ai_hv t257 17 0 = some (.inl (B 0)) := (e257 17 0 (by first | decide | omega)).trans k155
    have k162 : ai_hv t257 18 0 = some (.inl 0) := (e257 18 0 (by first | decide | omega)).trans k156
    have k163 : ai_hv t257 19 0 = some (.inl 0) := (e257 19 0 (by first | decide | omega)).trans k251
    refine ex_go (S := (98, [(2, .inl 0), (0, gx_r 15), (1, gx_r 257)], [gx_r 15], t257, n, 0)) rfl (fun _ => rfl) rfl ?_
    refine gxo_ref (a := 15) (c := 21) rfl g257 rfl rfl rfl rfl rfl ?_
    refine ex_go (S := (102, [(2, .inl 0), (0, gx_r 15), (1, gx_r 257)], [.inl 0, gx_r 21], t257, n, 0)) rfl (fun _ => rfl) rfl ?_
    refine ex_go (S := (103, [(2, .inl 0), (0, gx_r 15), (1, gx_r 257)], [.inl 0, .inl 0, gx_r 21], t257, n, 0)) rfl (fun _ => rfl) rfl ?_
    refine gx_ap rfl (fun _ => rfl) g257 rfl rfl rfl (show 0 < 2 from by omega) rfl (ai_in_h (by first | decide | omega) (by first | decide | omega) (by first | decide | omega)) rfl (fun t264 g264 k264 e264 => ?_)
    have k165 : ai_hv t264 15 0 = some (.inl 0) := (e264 15 0 (by first | decide | omega)).trans k158
    have k166 : ai_hv t264 272 5 = some (.inl K) := (e264 272 5 (by first | decide | omega)).trans k159
    have k167 : ai_hv t264 276 0 = some (.inl (B 0)) := (e264 276 0 (by first | decide | omega)).trans k160
    have k168 : ai_hv t264 17 0 = some (.inl (B 0)) := (e264 17 0 (by first | decide | omega)).trans k161
    have k169 : ai_hv t264 18 0 = some (.inl 0) := (e264 18 0 (by first | decide | omega)).trans k162
    have k170 : ai_hv t264 19 0 = some (.inl 0) := (e264 19 0 (by first | decide | omega)).trans k163
    have k171 : ai_hv t264 20 0 = some (.inl 0) := (e264 20 0 (by first | decide | omega)).trans k257
    refine ex_go (S := (107, [(2, .inl 1), (0, gx_r 15), (1, gx_r 257)], [], t264, n, 0)) rfl (fun _ => rfl) rfl ?_
    refine ex_go (S := (41, [(2, .inl 1), (0, gx_r 15), (1, gx_r 257)], [], t264, n, 0)) rfl (fun _ => rfl) rfl ?_
    refine ex_go (S := (42, [(2, .inl 1), (0, gx_r 15), (1, gx_r 257)], [.inl 1], t264, n, 0)) rfl (fun _ => rfl) rfl ?_
    refine ex_go (S := (43, [(2, .inl 1), (0, gx_r 15), (1, gx_r 257)], [.inl 2, .inl 1], t264, n, 0)) rfl (fun _ => rfl) rfl ?_
    refine ex_go (S := (46, [(2, .inl 1), (0, gx_r 15), (1, gx_r 257)], [], t264, n, 0)) rfl (fun _ => rfl) rfl ?_
    refine ex_go (S := (47, [(2, .inl 1), (0, gx_r 15), (1, gx_r 257)], [gx_r 15], t264, n, 0)) rfl (fun _ => rfl) rfl ?_
    refine gxo_ref (a := 15) (c := 17) rfl g264 rfl rfl rfl rfl rfl ?_
    refine ex_go (S := (51, [(2, .inl 1), (0, gx_r 15), (1, gx_r 257)], [.inl 1, gx_r 17], t264, n, 0)) rfl (fun _ => rfl) rfl ?_
    refine ex_go (S := (52, [(2, .inl 1), (0, gx_r 15), (1, gx_r 257)], [gx_r 257, .inl 1, gx_r 17], t264, n, 0)) rfl (fun _ => rfl) rfl ?_
    refine gxo_ref (a := 257) (c := 272) rfl g264 rfl rfl rfl rfl rfl ?_
    refine ex_go (S := (56, [(2, .inl 1), (0, gx_r 15), (1, gx_r 257)], [.inl 1, gx_r 272, .inl 1, gx_r 17], t264, n, 0)) rfl (fun _ => rfl) rfl ?_
    obtain ⟨_, r172, b173, rfl, b173b, q174⟩ := pz_holds272 (d) n (x := 1) g264 (by first | decide | omega) ((e264 272 5 (by first | decide | omega)).trans ((e257 272 5 (by first | decide | omega)).trans ((e251 272 5 (by first | decide | omega)).trans ((e246 272 5 (by first | decide | omega)).trans ((e242 272 5 (by first | decide | omega)).trans ((i102.2 272 5 (by first | decide | omega)).trans ((e101 272 5 (by first | decide | omega)).trans (kK)))))))) (by first | decide | omega)
    refine gx_callo (a := 272) rfl rfl g264 rfl rfl rfl r172 rfl ?_
    show en_ex _ _ _ _ (59, [(2, .inl 1), (0, gx_r 15), (1, gx_r 257)], [.inl b173, .inl 1, gx_r 17], t264, n, 0) _
    by_cases hc175 : b173 = 0
    · refine gx_1t (c := .eq) rfl (by first | decide | omega) hc175 rfl ?_
      refine ex_go (S := (75, [(2, .inl 1), (0, gx_r 15), (1, gx_r 257)], [.inl 0, .inl 1, gx_r 17], t264, n, 0)) rfl (fun _ => rfl) rfl ?_
      refine gx_ap rfl (fun _ => rfl) g264 rfl rfl rfl (show 1 < 2 from by omega) rfl (gx_full (by first | decide | omega)) rfl (fun t276 g276 k276 e276 => ?_)
      have k177 : ai_hv t276 15 0 = some (.inl 0) := (e276 15 0 (by first | decide | omega)).trans k165
      have k178 : ai_hv t276 272 5 = some (.inl K) := (e276 272 5 (by first | decide | omega)).trans ((e264 272 5 (by first | decide | omega)).trans ((e257 272 5 (by first | decide | omega)).trans ((e251 272 5 (by first | decide | omega)).trans ((e246 272 5 (by first | decide | omega)).trans ((e242 272 5 (by first | decide | omega)).trans ((i102.2 272 5 (by first | decide | omega)).trans ((e101 272 5 (by first | decide | omega)).trans (kK))))))))
      have k179 : ai_hv t276 276 0 = some (.inl (B 0)) := (e276 276 0 (by first | decide | omega)).trans k167
      have k180 : ai_hv t276 17 0 = some (.inl (B 0)) := (e276 17 0 (by first | decide | omega)).trans k168
      have k181 : ai_hv t276 18 0 = some (.inl 0) := (e276 18 0 (by first | decide | omega)).trans k169
      have k182 : ai_hv t276 19 0 = some (.inl 0) := (e276 19 0 (by first | decide | omega)).trans k170
      have k183 : ai_hv t276 20 0 = some (.inl 0) := (e276 20 0 (by first | decide | omega)).trans k171
      have k184 : ai_hv t276 21 0 = some (.inl 0) := (e276 21 0 (by first | decide | omega)).trans k264
      refine ex_go (S := (77, [(2, .inl 1), (0, gx_r 15), (1, gx_r 257)], [gx_r 15], t276, n, 0)) rfl (fun _ => rfl) rfl ?_
      refine gxo_ref (a := 15) (c := 18) rfl g276 rfl rfl rfl rfl rfl ?_
      refine ex_go (S := (81, [(2, .inl 1), (0, gx_r 15), (1, gx_r 257)], [.inl 1, gx_r 18], t276, n, 0)) rfl (fun _ => rfl) rfl ?_
      refine ex_go (S := (82, [(2, .inl 1), (0, gx_r 15), (1, gx_r 257)], [.inl 0, .inl 1, gx_r 18], t276, n, 0)) rfl (fun _ => rfl) rfl ?_
      refine gx_ap rfl (fun _ => rfl) g276 rfl rfl rfl (show 1 < 2 from by omega) rfl (gx_full (by first | decide | omega)) rfl (fun t285 g285 k285 e285 => ?_)
      have k186 : ai_hv t285 15 0 = some (.inl 0) := (e285 15 0 (by first | decide | omega)).trans k177
      have k187 : ai_hv t285 272 5 = some (.inl K) := (e285 272 5 (by first | decide | omega)).trans k178
      have k188 : ai_hv t285 276 0 = some (.inl (B 0)) := (e285 276 0 (by first | decide | omega)).trans k179
      have k189 : ai_hv t285 17 0 = some (.inl (B 0)) := (e285 17 0 (by first | decide | omega)).trans k180
      have k190 : ai_hv t285 18 0 = some (.inl 0) := (e285 18 0 (by first | decide | omega)).trans k181
      have k191 : ai_hv t285 19 0 = some (.inl 0) := (e285 19 0 (by first | decide | omega)).trans k182
      have k192 : ai_hv t285 20 0 = some (.inl 0) := (e285 20 0 (by first | decide | omega)).trans k183
      have k193 : ai_hv t285 21 0 = some (.inl 0) := (e285 21 0 (by first | decide | omega)).trans k184
      have k194 : ai_hv t285 17 1 = some (.inl 0) := (e285 17 1 (by first | decide | omega)).trans k276
      refine ex_go (S := (84, [(2, .inl 1), (0, gx_r 15), (1, gx_r 257)], [gx_r 15], t285, n, 0)) rfl (fun _ => rfl) rfl ?_
      refine gxo_ref (a := 15) (c := 19) rfl g285 rfl rfl rfl rfl rfl ?_
      refine ex_go (S := (88, [(2, .inl 1), (0, gx_r 15), (1, gx_r 257)], [.inl 1, gx_r 19], t285, n, 0)) rfl (fun _ => rfl) rfl ?_
      refine ex_go (S := (89, [(2, .inl 1), (0, gx_r 15), (1, gx_r 257)], [.inl 0, .inl 1, gx_r 19], t285, n, 0)) rfl (fun _ => rfl) rfl ?_
      refine gx_apv (d := 2) rfl (fun _ => rfl) g285 rfl rfl rfl (show 1 < 2 from by omega) rfl (ai_in_h (by first | decide | omega) (by first | decide | omega) (by first | decide | omega)) rfl (fun t295 g295 k295 e295 => ?_)
      have k196 : ai_hv t295 15 0 = some (.inl 0) := (e295 15 0 (by first | decide | omega)).trans k186
      have k197 : ai_hv t295 272 5 = some (.inl K) := (e295 272 5 (by first | decide | omega)).trans k187
      have k198 : ai_hv t295 276 0 = some (.inl (B 0)) := (e295 276 0 (by first | decide | omega)).trans k188
      have k199 : ai_hv t295 17 0 = some (.inl (B 0)) := (e295 17 0 (by first | decide | omega)).trans k189
      have k200 : ai_hv t295 18 0 = some (.inl 0) := (e295 18 0 (by first | decide | omega)).trans k190
      have k201 : ai_hv t295 19 0 = some (.inl 0) := (e295 19 0 (by first | decide | omega)).trans k191
      have k202 : ai_hv t295 20 0 = some (.inl 0) := (e295 20 0 (by first | decide | omega)).trans k192
      have k203 : ai_hv t295 21 0 = some (.inl 0) := (e295 21 0 (by first | decide | omega)).trans k193
      have k204 : ai_hv t295 17 1 = some (.inl 0) := (e295 17 1 (by first | decide | omega)).trans k194
      have k205 : ai_hv t295 18 1 = some (.inl 0) := (e295 18 1 (by first | decide | omega)).trans k285
      refine ex_go (S := (91, [(2, .inl 1), (0, gx_r 15), (1, gx_r 257)], [gx_r 15], t295, n, 0)) rfl (fun _ => rfl) rfl ?_
      refine gxo_ref (a := 15) (c := 20) rfl g295 rfl rfl rfl rfl rfl ?_
      refine ex_go (S := (95, [(2, .inl 1), (0, gx_r 15), (1, gx_r 257)], [.inl 1, gx_r 20], t295, n, 0)) rfl (fun _ => rfl) rfl ?_
      refine ex_go (S := (96, [(2, .inl 1), (0, gx_r 15), (1, gx_r 257)], [.inl 0, .inl 1, gx_r 20], t295, n, 0)) rfl (fun _ => rfl) rfl ?_
      refine gx_apv (d := 2) rfl (fun _ => rfl) g295 rfl rfl rfl (show 1 < 2 from by omega) rfl (ai_in_h (by first | decide | omega) (by first | decide | omega) (by first | decide | omega)) rfl (fun t306 g306 k306 e306 => ?_)
      have k207 : ai_hv t306 15 0 = some (.inl 0) := (e306 15 0 (by first | decide | omega)).trans k196
      have k208 : ai_hv t306 272 5 = some (.inl K) := (e306 272 5 (by first | decide | omega)).trans k197
      have k209 : ai_hv t306 276 0 = some (.inl (B 0)) := (e306 276 0 (by first | decide | omega)).trans k198
      have k210 : ai_hv t306 17 0 = some (.inl (B 0)) := (e306 17 0 (by first | decide | omega)).trans k199
      have k211 : ai_hv t306 18 0 = some (.inl 0) := (e306 18 0 (by first | decide | omega)).trans k200
      have k212 : ai_hv t306 19 0 = some (.inl 0) := (e306 19 0 (by first | decide | omega)).trans k201
      have k213 : ai_hv t306 20 0 = some (.inl 0) := (e306 20 0 (by first | decide | omega)).trans k202
      have k214 : ai_hv t306 21 0 = some (.inl 0) := (e306 21 0 (by first | decide | omega)).trans k203
      have k215 : ai_hv t306 17 1 = some (.inl 0) := (e306 17 1 (by first | decide | omega)).trans k204
      have k216 : ai_hv t306 18 1 = some (.inl 0) := (e306 18 1 (by first | decide | omega)).trans k205
      have k217 : ai_hv t306 19 1 = some (.inl 0) := (e306 19 1 (by first | decide | omega)).trans k295
      refine ex_go (S := (98, [(2, .inl 1), (0, gx_r 15), (1, gx_r 257)], [gx_r 15], t306, n, 0)) rfl (fun _ => rfl) rfl ?_
      refine gxo_ref (a := 15) (c := 21) rfl g306 rfl rfl rfl rfl rfl ?_
      refine ex_go (S := (102, [(2, .inl 1), (0, gx_r 15), (1, gx_r 257)], [.inl 1, gx_r 21], t306, n, 0)) rfl (fun _ => rfl) rfl ?_
      refine ex_go (S := (103, [(2, .inl 1), (0, gx_r 15), (1, gx_r 257)], [.inl 0, .inl 1, gx_r 21], t306, n, 0)) rfl (fun _ => rfl) rfl ?_
      refine gx_ap rfl (fun _ => rfl) g306 rfl rfl rfl (show 1 < 2 from by omega) rfl (ai_in_h (by first | decide | omega) (by first | decide | omega) (by first | decide | omega)) rfl (fun t318 g318 k318 e318 => ?_)
      have k219 : ai_hv t318 15 0 = some (.inl 0) := (e318 15 0 (by first | decide | omega)).trans k207
      have k220 : ai_hv t318 272 5 = some (.inl K) := (e318 272 5 (by first | decide | omega)).trans k208
      have k221 : ai_hv t318 276 0 = some (.inl (B 0)) := (e318 276 0 (by first | decide | omega)).trans k209
      have k222 : ai_hv t318 17 0 = some (.inl (B 0)) := (e318 17 0 (by first | decide | omega)).trans k210
      have k223 : ai_hv t318 18 0 = some (.inl 0) := (e318 18 0 (by first | decide | omega)).trans k211
      have k224 : ai_hv t318 19 0 = some (.inl 0) := (e318 19 0 (by first | decide | omega)).trans k212
      have k225 : ai_hv t318 20 0 = some (.inl 0) := (e318 20 0 (by first | decide | omega)).trans k213
      have k226 : ai_hv t318 21 0 = some (.inl 0) := (e318 21 0 (by first | decide | omega)).trans k214
      have k227 : ai_hv t318 17 1 = some (.inl 0) := (e318 17 1 (by first | decide | omega)).trans k215
      have k228 : ai_hv t318 18 1 = some (.inl 0) := (e318 18 1 (by first | decide | omega)).trans k216
      have k229 : ai_hv t318 19 1 = some (.inl 0) := (e318 19 1 (by first | decide | omega)).trans k217
      have k230 : ai_hv t318 20 1 = some (.inl 0) := (e318 20 1 (by first | decide | omega)).trans k306
      refine ex_go (S := (107, [(2, .inl 2), (0, gx_r 15), (1, gx_r 257)], [], t318, n, 0)) rfl (fun _ => rfl) rfl ?_
      refine ex_go (S := (41, [(2, .inl 2), (0, gx_r 15), (1, gx_r 257)], [], t318, n, 0)) rfl (fun _ => rfl) rfl ?_
      refine ex_go (S := (42, [(2, .inl 2), (0, gx_r 15), (1, gx_r 257)], [.inl 2], t318, n, 0)) rfl (fun _ => rfl) rfl ?_
      refine ex_go (S := (43, [(2, .inl 2), (0, gx_r 15), (1, gx_r 257)], [.inl 2, .inl 2], t318, n, 0)) rfl (fun _ => rfl) rfl ?_
      refine ex_go (S := (110, [(2, .inl 2), (0, gx_r 15), (1, gx_r 257)], [], t318, n, 0)) rfl (fun _ => rfl) rfl ?_
      refine ex_ret (r := (none, t318, n, 0)) rfl (fun _ => rfl) ?_
      refine ⟨_, rfl, t318, rfl, g318, (fun c i h => (e318 c i (by first | decide | omega)).trans ((e306 c i (by first | decide | omega)).trans ((e295 c i (by first | decide | omega)).trans ((e285 c i (by first | decide | omega)).trans ((e276 c i (by first | decide | omega)).trans ((e264 c i (by first | decide | omega)).trans ((e257 c i (by first | decide | omega)).trans ((e251 c i (by first | decide | omega)).trans ((e246 c i (by first | decide | omega)).trans ((e242 c i (by first | decide | omega)).trans ((i102.2 c i (by first | decide | omega)).trans (e101 c i (by first | decide | omega))))))))))))), k219, (fun i hi => (e318 16 i (by first | decide | omega)).trans ((e306 16 i (by first | decide | omega)).trans ((e295 16 i (by first | decide | omega)).trans ((e285 16 i (by first | decide | omega)).trans ((e276 16 i (by first | decide | omega)).trans ((e264 16 i (by first | decide | omega)).trans ((e257 16 i (by first | decide | omega)).trans ((e251 16 i (by first | decide | omega)).trans ((e246 16 i (by first | decide | omega)).trans ((e242 16 i (by first | decide | omega)).trans (i102.1 i hi))))))))))), fun c hc => ?_⟩
      rcases (show c = 0 ∨ c = 1 by omega) with rfl | rfl
      · exact ⟨k222, k223, k224, k225, k226⟩
      · omega
    · refine gx_1f (c := .eq) rfl (by first | decide | omega) hc175 rfl ?_
      refine ex_go (S := (63, [(2, .inl 1), (0, gx_r 15), (1, gx_r 257)], [gx_r 257, .inl 1, gx_r 17], t264, n, 0)) rfl (fun _ => rfl) rfl ?_
      refine gxo_ref (a := 257) (c := 272) rfl g264 rfl rfl rfl rfl rfl ?_
      refine gxo_ref (a := 272) (c := 276) rfl g264 rfl rfl rfl rfl rfl ?_
      refine ex_go (S := (70, [(2, .inl 1), (0, gx_r 15), (1, gx_r 257)], [.inl 1, gx_r 276, .inl 1, gx_r 17], t264, n, 0)) rfl (fun _ => rfl) rfl ?_
      have := hB 1 (by first | decide | omega)
      refine gx_ag (v := .inl (B 1)) (cb := fun c => Nat.beq c 0) rfl (fun _ => rfl) g264 rfl rfl ((e264 276 1 (by first | decide | omega)).trans ((e257 276 1 (by first | decide | omega)).trans ((e251 276 1 (by first | decide | omega)).trans ((e246 276 1 (by first | decide | omega)).trans ((e242 276 1 (by first | decide | omega)).trans ((i102.2 276 1 (by first | decide | omega)).trans ((e101 276 1 (by first | decide | omega)).trans (kB 1 (by first | decide | omega))))))))) (by first | decide | omega) rfl ?_
      refine ex_go (S := (75, [(2, .inl 1), (0, gx_r 15), (1, gx_r 257)], [.inl (B 1), .inl 1, gx_r 17], t264, n, 0)) rfl (fun _ => rfl) rfl ?_
      refine gx_ap rfl (fun _ => rfl) g264 rfl rfl rfl (show 1 < 2 from by omega) rfl (gx_full (by first | decide | omega)) rfl (fun t331 g331 k331 e331 => ?_)
      have k232 : ai_hv t331 15 0 = some (.inl 0) := (e331 15 0 (by first | decide | omega)).trans k165
      have k233 : ai_hv t331 272 5 = some (.inl K) := (e331 272 5 (by first | decide | omega)).trans ((e264 272 5 (by first | decide | omega)).trans ((e257 272 5 (by first | decide | omega)).trans ((e251 272 5 (by first | decide | omega)).trans ((e246 272 5 (by first | decide | omega)).trans ((e242 272 5 (by first | decide | omega)).trans ((i102.2 272 5 (by first | decide | omega)).trans ((e101 272 5 (by first | decide | omega)).trans (kK))))))))
      have k234 : ai_hv t331 276 0 = some (.inl (B 0)) := (e331 276 0 (by first | decide | omega)).trans k167
      have k235 : ai_hv t331 17 0 = some (.inl (B 0)) := (e331 17 0 (by first | decide | omega)).trans k168
      have k236 : ai_hv t331 18 0 = some (.inl 0) := (e331 18 0 (by first | decide | omega)).trans k169
      have k237 : ai_hv t331 19 0 = some (.inl 0) := (e331 19 0 (by first | decide | omega)).trans k170
      have k238 : ai_hv t331 20 0 = some (.inl 0) := (e331 20 0 (by first | decide | omega)).trans k171
      have k239 : ai_hv t331 21 0 = some (.inl 0) := (e331 21 0 (by first | decide | omega)).trans k264
      have k240 : ai_hv t331 276 1 = some (.inl (B 1)) := (e331 276 1 (by first | decide | omega)).trans ((e264 276 1 (by first | decide | omega)).trans ((e257 276 1 (by first | decide | omega)).trans ((e251 276 1 (by first | decide | omega)).trans ((e246 276 1 (by first | decide | omega)).trans ((e242 276 1 (by first | decide | omega)).trans ((i102.2 276 1 (by first | decide | omega)).trans ((e101 276 1 (by first | decide | omega)).trans (kB 1 (by first | decide | omega)))))))))
      refine ex_go (S := (77, [(2, .inl 1), (0, gx_r 15), (1, gx_r 257)], [gx_r 15], t331, n, 0)) rfl (fun _ => rfl) rfl ?_
      refine gxo_ref (a := 15) (c := 18) rfl g331 rfl rfl rfl rfl rfl ?_
      refine ex_go (S := (81, [(2, .inl 1), (0, gx_r 15), (1, gx_r 257)], [.inl 1, gx_r 18], t331, n, 0)) rfl (fun _ => rfl) rfl ?_
      refine ex_go (S := (82, [(2, .inl 1), (0, gx_r 15), (1, gx_r 257)], [.inl 0, .inl 1, gx_r 18], t331, n, 0)) rfl (fun _ => rfl) rfl ?_
      refine gx_ap rfl (fun _ => rfl) g331 rfl rfl rfl (show 1 < 2 from by omega) rfl (gx_full (by first | decide | omega)) rfl (fun t341 g341 k341 e341 => ?_)
      have k242 : ai_hv t341 15 0 = some (.inl 0) := (e341 15 0 (by first | decide | omega)).trans k232
      have k243 : ai_hv t341 272 5 = some (.inl K) := (e341 272 5 (by first | decide | omega)).trans k233
      have k244 : ai_hv t341 276 0 = some (.inl (B 0)) := (e341 276 0 (by first | decide | omega)).trans k234
      have k245 : ai_hv t341 17 0 = some (.inl (B 0)) := (e341 17 0 (by first | decide | omega)).trans k235
      have k246 : ai_hv t341 18 0 = some (.inl 0) := (e341 18 0 (by first | decide | omega)).trans k236
      have k247 : ai_hv t341 19 0 = some (.inl 0) := (e341 19 0 (by first | decide | omega)).trans k237
      have k248 : ai_hv t341 20 0 = some (.inl 0) := (e341 20 0 (by first | decide | omega)).trans k238
      have k249 : ai_hv t341 21 0 = some (.inl 0) := (e341 21 0 (by first | decide | omega)).trans k239
      have k250 : ai_hv t341 276 1 = some (.inl (B 1)) := (e341 276 1 (by first | decide | omega)).trans k240
      have k251 : ai_hv t341 17 1 = some (.inl (B 1)) := (e341 17 1 (by first | decide | omega)).trans k331
      refine ex_go (S := (84, [(2, .inl 1), (0, gx_r 15), (1, gx_r 257)], [gx_r 15], t341, n, 0)) rfl (fun _ => rfl) rfl ?_
      refine gxo_ref (a := 15) (c := 19) rfl g341 rfl rfl rfl rfl rfl ?_
      refine ex_go (S := (88, [(2, .inl 1), (0, gx_r 15), (1, gx_r 257)], [.inl 1, gx_r 19], t341, n, 0)) rfl (fun _ => rfl) rfl ?_
      refine ex_go (S := (89, [(2, .inl 1), (0, gx_r 15), (1, gx_r 257)], [.inl 0, .inl 1, gx_r 19], t341, n, 0)) rfl (fun _ => rfl) rfl ?_
      refine gx_apv (d := 2) rfl (fun _ => rfl) g341 rfl rfl rfl (show 1 < 2 from by omega) rfl (ai_in_h (by first | decide | omega) (by first | decide | omega) (by first | decide | omega)) rfl (fun t352 g352 k352 e352 => ?_)
      have k253 : ai_hv t352 15 0 = some (.inl 0) := (e352 15 0 (by first | decide | omega)).trans k242
      have k254 : ai_hv t352 272 5 = some (.inl K) := (e352 272 5 (by first | decide | omega)).trans k243
      have k255 : ai_hv t352 276 0 = some (.inl (B 0)) := (e352 276 0 (by first | decide | omega)).trans k244
      have k256 : ai_hv t352 17 0 = some (.inl (B 0)) := (e352 17 0 (by first | decide | omega)).trans k245
      have k257 : ai_hv t352 18 0 = some (.inl 0) := (e352 18 0 (by first | decide | omega)).trans k246
      have k258 : ai_hv t352 19 0 = some (.inl 0) := (e352 19 0 (by first | decide | omega)).trans k247
      have k259 : ai_hv t352 20 0 = some (.inl 0) := (e352 20 0 (by first | decide | omega)).trans k248
      have k260 : ai_hv t352 21 0 = some (.inl 0) := (e352 21 0 (by first | decide | omega)).trans k249
      have k261 : ai_hv t352 276 1 = some (.inl (B 1)) := (e352 276 1 (by first | decide | omega)).trans k250
      have k262 : ai_hv t352 17 1 = some (.inl (B 1)) := (e352 17 1 (by first | decide | omega)).trans k251
      have k263 : ai_hv t352 18 1 = some (.inl 0) := (e352 18 1 (by first | decide | omega)).trans k341
      refine ex_go (S := (91, [(2, .inl 1), (0, gx_r 15), (1, gx_r 257)], [gx_r 15], t352, n, 0)) rfl (fun _ => rfl) rfl ?_
      refine gxo_ref (a := 15) (c := 20) rfl g352 rfl rfl rfl rfl rfl ?_
      refine ex_go (S := (95, [(2, .inl 1), (0, gx_r 15), (1, gx_r 257)], [.inl 1, gx_r 20], t352, n, 0)) rfl (fun _ => rfl) rfl ?_
      refine ex_go (S := (96, [(2, .inl 1), (0, gx_r 15), (1, gx_r 257)], [.inl 0, .inl 1, gx_r 20], t352, n, 0)) rfl (fun _ => rfl) rfl ?_
      refine gx_apv (d := 2) rfl (fun _ => rfl) g352 rfl rfl rfl (show 1 < 2 from by omega) rfl (ai_in_h (by first | decide | omega) (by first | decide | omega) (by first | decide | omega)) rfl (fun t364 g364 k364 e364 => ?_)
      have k265 : ai_hv t364 15 0 = some (.inl 0) := (e364 15 0 (by first | decide | omega)).trans k253
      have k266 : ai_hv t364 272 5 = some (.inl K) := (e364 272 5 (by first | decide | omega)).trans k254
      have k267 : ai_hv t364 276 0 = some (.inl (B 0)) := (e364 276 0 (by first | decide | omega)).trans k255
      have k268 : ai_hv t364 17 0 = some (.inl (B 0)) := (e364 17 0 (by first | decide | omega)).trans k256
      have k269 : ai_hv t364 18 0 = some (.inl 0) := (e364 18 0 (by first | decide | omega)).trans k257
      have k270 : ai_hv t364 19 0 = some (.inl 0) := (e364 19 0 (by first | decide | omega)).trans k258
      have k271 : ai_hv t364 20 0 = some (.inl 0) := (e364 20 0 (by first | decide | omega)).trans k259
      have k272 : ai_hv t364 21 0 = some (.inl 0) := (e364 21 0 (by first | decide | omega)).trans k260
      have k273 : ai_hv t364 276 1 = some (.inl (B 1)) := (e364 276 1 (by first | decide | omega)).trans k261
      have k274 : ai_hv t364 17 1 = some (.inl (B 1)) := (e364 17 1 (by first | decide | omega)).trans k262
      have k275 : ai_hv t364 18 1 = some (.inl 0) := (e364 18 1 (by first | decide | omega)).trans k263
      have k276 : ai_hv t364 19 1 = some (.inl 0) := (e364 19 1 (by first | decide | omega)).trans k352
      refine ex_go (S := (98, [(2, .inl 1), (0, gx_r 15), (1, gx_r 257)], [gx_r 15], t364, n, 0)) rfl (fun _ => rfl) rfl ?_
      refine gxo_ref (a := 15) (c := 21) rfl g364 rfl rfl rfl rfl rfl ?_
      refine ex_go (S := (102, [(2, .inl 1), (0, gx_r 15), (1, gx_r 257)], [.inl 1, gx_r 21], t364, n, 0)) rfl (fun _ => rfl) rfl ?_
      refine ex_go (S := (103, [(2, .inl 1), (0, gx_r 15), (1, gx_r 257)], [.inl 0, .inl 1, gx_r 21], t364, n, 0)) rfl (fun _ => rfl) rfl ?_
      refine gx_ap rfl (fun _ => rfl) g364 rfl rfl rfl (show 1 < 2 from by omega) rfl (ai_in_h (by first | decide | omega) (by first | decide | omega) (by first | decide | omega)) rfl (fun t377 g377 k377 e377 => ?_)
      have k278 : ai_hv t377 15 0 = some (.inl 0) := (e377 15 0 (by first | decide | omega)).trans k265
      have k279 : ai_hv t377 272 5 = some (.inl K) := (e377 272 5 (by first | decide | omega)).trans k266
      have k280 : ai_hv t377 276 0 = some (.inl (B 0)) := (e377 276 0 (by first | decide | omega)).trans k267
      have k281 : ai_hv t377 17 0 = some (.inl (B 0)) := (e377 17 0 (by first | decide | omega)).trans k268
      have k282 : ai_hv t377 18 0 = some (.inl 0) := (e377 18 0 (by first | decide | omega)).trans k269
      have k283 : ai_hv t377 19 0 = some (.inl 0) := (e377 19 0 (by first | decide | omega)).trans k270
      have k284 : ai_hv t377 20 0 = some (.inl 0) := (e377 20 0 (by first | decide | omega)).trans k271
      have k285 : ai_hv t377 21 0 = some (.inl 0) := (e377 21 0 (by first | decide | omega)).trans k272
      have k286 : ai_hv t377 276 1 = some (.inl (B 1)) := (e377 276 1 (by first | decide | omega)).trans k273
      have k287 : ai_hv t377 17 1 = some (.inl (B 1)) := (e377 17 1 (by first | decide | omega)).trans k274
      have k288 : ai_hv t377 18 1 = some (.inl 0) := (e377 18 1 (by first | decide | omega)).trans k275
      have k289 : ai_hv t377 19 1 = some (.inl 0) := (e377 19 1 (by first | decide | omega)).trans k276
      have k290 : ai_hv t377 20 1 = some (.inl 0) := (e377 20 1 (by first | decide | omega)).trans k364
      refine ex_go (S := (107, [(2, .inl 2), (0, gx_r 15), (1, gx_r 257)], [], t377, n, 0)) rfl (fun _ => rfl) rfl ?_
      refine ex_go (S := (41, [(2, .inl 2), (0, gx_r 15), (1, gx_r 257)], [], t377, n, 0)) rfl (fun _ => rfl) rfl ?_
      refine ex_go (S := (42, [(2, .inl 2), (0, gx_r 15), (1, gx_r 257)], [.inl 2], t377, n, 0)) rfl (fun _ => rfl) rfl ?_
      refine ex_go (S := (43, [(2, .inl 2), (0, gx_r 15), (1, gx_r 257)], [.inl 2, .inl 2], t377, n, 0)) rfl (fun _ => rfl) rfl ?_
      refine ex_go (S := (110, [(2, .inl 2), (0, gx_r 15), (1, gx_r 257)], [], t377, n, 0)) rfl (fun _ => rfl) rfl ?_
      refine ex_ret (r := (none, t377, n, 0)) rfl (fun _ => rfl) ?_
      refine ⟨_, rfl, t377, rfl, g377, (fun c i h => (e377 c i (by first | decide | omega)).trans ((e364 c i (by first | decide | omega)).trans ((e352 c i (by first | decide | omega)).trans ((e341 c i (by first | decide | omega)).trans ((e331 c i (by first | decide | omega)).trans ((e264 c i (by first | decide | omega)).trans ((e257 c i (by first | decide | omega)).trans ((e251 c i (by first | decide | omega)).trans ((e246 c i (by first | decide | omega)).trans ((e242 c i (by first | decide | omega)).trans ((i102.2 c i (by first | decide | omega)).trans (e101 c i (by first | decide | omega))))))))))))), k278, (fun i hi => (e377 16 i (by first | decide | omega)).trans ((e364 16 i (by first | decide | omega)).trans ((e352 16 i (by first | decide | omega)).trans ((e341 16 i (by first | decide | omega)).trans ((e331 16 i (by first | decide | omega)).trans ((e264 16 i (by first | decide | omega)).trans ((e257 16 i (by first | decide | omega)).trans ((e251 16 i (by first | decide | omega)).trans ((e246 16 i (by first | decide | omega)).trans ((e242 16 i (by first | decide | omega)).trans (i102.1 i hi))))))))))), fun c hc => ?_⟩
      rcases (show c = 0 ∨ c = 1 by omega) with rfl | rfl
      · exact ⟨k281, k282, k283, k284, k285⟩
      · exact ⟨k287, k288, k289, k290, k377⟩
/-- the class has begun: all where told -/
noncomputable def CBg (t : en_H) (p l : Nat) : Prop := ai_hv t 8 0 = some (.inl 0) ∧ (∀ T, ai_hv t (p + 3) 5 = some (.inl T) → ∀ i, i < T → ai_hv t 9 i = ai_hv t (p + 6) i) ∧ (∀ K, ai_hv t (p + 15) 5 = some (.inl K) → ∀ c, c < K → ai_hv t 10 c = ai_hv t (p + 19) c ∧ ai_hv t 11 c = some (.inl 0) ∧ ai_hv t 12 c = some (.inl 0) ∧ ai_hv t 13 c = some (.inl 0) ∧ ai_hv t 14 c = some (.inl 0)) ∧ ai_hv t l 5 = some (.inl 0) ∧ ai_hv t 139 0 = some (.inl 0) ∧ ai_hv t 22 1 = some (.inl 0) ∧ ai_hv t 22 2 = some (.inl 0) ∧ ∀ i, i < 4 → ai_hv t 138 i = some (.inl 0)
theorem pc_TPKB {t : en_H} (g : ai_HG ah_G t) {a b c d : Nat} {ga gb gc gd : ai_g} (ha : ah_G a = some ga) (ha2 : 5 < ga.2.2.1) (ha3 : ai_run ga.2.2.2 5 = some (.inl (2147483648, 2147483654))) (hb : ah_G b = some gb) (hb2 : 6 = gb.2.2.1) (hb3 : ∀ i, i < 6 → ai_run gb.2.2.2 i = some (.inl (2147483648, 2147483711))) (hc : ah_G c = some gc) (hc2 : 5 < gc.2.2.1) (hc3 : ai_run gc.2.2.2 5 = some (.inl (2147483648, 2147483650))) (hd : ah_G d = some gd) (hd2 : 2 = gd.2.2.1) (hd3 : ∀ i, i < 2 → ai_run gd.2.2.2 i = some (.inl (2147483648, 2147493647))) : ∃ (T K : Nat) (P B : Nat → Nat), T ≤ 6 ∧ ai_hv t a 5 = some (.inl T) ∧ (∀ i, i < T → ai_hv t b i = some (.inl (P i))) ∧ (∀ i, i < T → P i ≤ 63) ∧ K ≤ 2 ∧ ai_hv t c 5 = some (.inl K) ∧ (∀ i, i < K → ai_hv t d i = some (.inl (B i))) ∧ (∀ i, i < K → B i ≤ 9999) := by
  obtain ⟨T, k1, -, h1⟩ := gx_inb (c := a) (i := 5) (lo := 0) (hi := 6) g ha ha2 ha3 (by decide) (by decide) rfl
  obtain ⟨K, k2, -, h2⟩ := gx_inb (c := c) (i := 5) (lo := 0) (hi := 2) g hc hc2 hc3 (by decide) (by decide) rfl
  have hp : ∀ i, ∃ v, i < T → ai_hv t b i = some (.inl v) ∧ v ≤ 63 := fun i => by
    by_cases h : i < T
    · obtain ⟨m, k, -, h2⟩ := gx_inb (c := b) (i := i) (lo := 0) (hi := 63) g hb (by first | decide | omega) (hb3 i (by first | decide | omega)) (by decide) (by decide) rfl
      exact ⟨m, fun _ => ⟨k, h2⟩⟩
    · exact ⟨0, fun z => absurd z h⟩
  have hq : ∀ i, ∃ v, i < K → ai_hv t d i = some (.inl v) ∧ v ≤ 9999 := fun i => by
    by_cases h : i < K
    · obtain ⟨m, k, -, h2⟩ := gx_inb (c := d) (i := i) (lo := 0) (hi := 9999) g hd (by first | decide | omega) (hd3 i (by first | decide | omega)) (by decide) (by decide) rfl
      exact ⟨m, fun _ => ⟨k, h2⟩⟩
    · exact ⟨0, fun z => absurd z h⟩
  exact ⟨T, K, fun i => Classical.choose (hp i), fun i => Classical.choose (hq i), h1, k1, fun i h => (Classical.choose_spec (hp i) h).1, fun i h => (Classical.choose_spec (hp i) h).2, h2, k2, fun i h => (Classical.choose_spec (hq i) h).1, fun i h => (Classical.choose_spec (hq i) h).2⟩
theorem pc_beginPack191_323 (d n : Nat) {t0 : en_H} (g0 : ai_HG ah_G t0) (k10 : ai_hv t0 0 10 = some (gx_r 191)) (k12 : ai_hv t0 0 12 = some (gx_r 323)) : ∃ r, en_u (d + 3) 21 [gx_r 0] t0 n = some r ∧ ∃ t', r = (none, t', n, 0) ∧ ai_HG ah_G t' ∧ (∀ c i, ¬ ((8 ≤ c ∧ c ≤ 14) ∨ c = 22 ∨ c = 138 ∨ c = 139 ∨ c = 323) → ai_hv t' c i = ai_hv t0 c i) ∧ CBg t' 191 323 := by
  obtain ⟨T, K, P, B, hT, kT, kP, hP, hK, kK, kB, hB⟩ := pc_TPKB g0 (a := 194) (b := 197) (c := 206) (d := 210) rfl (by decide) rfl rfl rfl (fun i hi => gx_run1 hi) rfl (by decide) rfl rfl rfl (fun i hi => gx_run1 hi)
  refine en_u_ex (d := d + 2) rfl ?_
  show en_ex _ _ _ _ (0, [(0, gx_r 0)], [], t0, n, 0) _
  refine ex_go (S := (1, [(0, gx_r 0)], [gx_r 0], t0, n, 0)) rfl (fun _ => rfl) rfl ?_
  refine gxo_ref (a := 0) (c := 8) rfl g0 rfl rfl rfl rfl rfl ?_
  refine ex_go (S := (5, [(0, gx_r 0)], [gx_r 0, gx_r 8], t0, n, 0)) rfl (fun _ => rfl) rfl ?_
  refine gxo_get (a := 0) rfl g0 rfl rfl k10 rfl ?_
  obtain ⟨_, r101, t101, rfl, g101, e101, y0, y1, y2⟩ := pc_begin8_191 d n g0 hT kT kP hP hK kK kB hB
  refine gx_callo (a := 8) rfl rfl g0 rfl rfl rfl r101 rfl ?_
  have k2 : ai_hv t101 0 10 = some (gx_r 191) := (e101 0 10 (by first | decide | omega)).trans k10
  have k3 : ai_hv t101 0 12 = some (gx_r 323) := (e101 0 12 (by first | decide | omega)).trans k12
  show en_ex _ _ _ _ (11, [(0, gx_r 0)], [], t101, n, 0) _
  refine ex_go (S := (12, [(0, gx_r 0)], [gx_r 0], t101, n, 0)) rfl (fun _ => rfl) rfl ?_
  refine gxo_get (a := 0) rfl g101 rfl rfl k3 rfl ?_
  obtain ⟨_, r104, t104, rfl, g104, e104, k1_104⟩ := pz_rclear323 (d + 1) n g101
  refine gx_callo (a := 323) rfl rfl g101 rfl rfl rfl r104 rfl ?_
  have k5 : ai_hv t104 0 10 = some (gx_r 191) := (e104 0 10 (by first | decide | omega)).trans k2
  have k6 : ai_hv t104 0 12 = some (gx_r 323) := (e104 0 12 (by first | decide | omega)).trans k3
  show en_ex _ _ _ _ (18, [(0, gx_r 0)], [], t104, n, 0) _
  refine ex_go (S := (19, [(0, gx_r 0)], [gx_r 0], t104, n, 0)) rfl (fun _ => rfl) rfl ?_
  refine gxo_ref (a := 0) (c := 139) rfl g104 rfl rfl rfl rfl rfl ?_
  refine ex_go (S := (23, [(0, gx_r 0)], [.inl 0, gx_r 139], t104, n, 0)) rfl (fun _ => rfl) rfl ?_
  refine gxo_put (a := 139) rfl g104 rfl rfl rfl (ai_in_h (by first | decide | omega) (by first | decide | omega) (by first | decide | omega)) rfl (fun t107 g107 k107 e107 => ?_)
  have k8 : ai_hv t107 0 10 = some (gx_r 191) := (e107 0 10 (by first | decide | omega)).trans k5
  have k9 : ai_hv t107 0 12 = some (gx_r 323) := (e107 0 12 (by first | decide | omega)).trans k6
  have k10 : ai_hv t107 323 5 = some (.inl 0) := (e107 323 5 (by first | decide | omega)).trans k1_104
  refine ex_go (S := (27, [(0, gx_r 0)], [gx_r 0], t107, n, 0)) rfl (fun _ => rfl) rfl ?_
  refine gxo_ref (a := 0) (c := 22) rfl g107 rfl rfl rfl rfl rfl ?_
  obtain ⟨_, r111, t111, rfl, g111, e111, k1_111, k2_111⟩ := pz_pclear (d + 1) n g107
  refine gx_callo (a := 22) rfl rfl g107 rfl rfl rfl r111 rfl ?_
  have k12 : ai_hv t111 0 10 = some (gx_r 191) := (e111 0 10 (by first | decide | omega)).trans k8
  have k13 : ai_hv t111 0 12 = some (gx_r 323) := (e111 0 12 (by first | decide | omega)).trans k9
  have k14 : ai_hv t111 323 5 = some (.inl 0) := (e111 323 5 (by first | decide | omega)).trans k10
  have k15 : ai_hv t111 139 0 = some (.inl 0) := (e111 139 0 (by first | decide | omega)).trans k107
  show en_ex _ _ _ _ (33, [(0, gx_r 0)], [], t111, n, 0) _
  refine ex_go (S := (34, [(0, gx_r 0)], [.inl 0], t111, n, 0)) rfl (fun _ => rfl) rfl ?_
  refine ex_go (S := (35, [(1, .inl 0), (0, gx_r 0)], [], t111, n, 0)) rfl (fun _ => rfl) rfl ?_
  refine ex_go (S := (36, [(1, .inl 0), (0, gx_r 0)], [.inl 0], t111, n, 0)) rfl (fun _ => rfl) rfl ?_
  refine ex_go (S := (37, [(1, .inl 0), (0, gx_r 0)], [.inl 4, .inl 0], t111, n, 0)) rfl (fun _ => rfl) rfl ?_
  refine ex_go (S := (40, [(1, .inl 0), (0, gx_r 0)], [], t111, n, 0)) rfl (fun _ => rfl) rfl ?_
  refine ex_go (S := (41, [(1, .inl 0), (0, gx_r 0)], [gx_r 0], t111, n, 0)) rfl (fun _ => rfl) rfl ?_
  refine gxo_ref (a := 0) (c := 138) rfl g111 rfl rfl rfl rfl rfl ?_
  refine ex_go (S := (45, [(1, .inl 0), (0, gx_r 0)], [.inl 0, gx_r 138], t111, n, 0)) rfl (fun _ => rfl) rfl ?_
  refine ex_go (S := (46, [(1, .inl 0), (0, gx_r 0)], [.inl 0, .inl 0, gx_r 138], t111, n, 0)) rfl (fun _ => rfl) rfl ?_
  refine gx_apv (d := 2) rfl (fun _ => rfl) g111 rfl rfl rfl (show 0 < 4 from by omega) rfl (ai_in_h (by first | decide | omega) (by first | decide | omega) (by first | decide | omega)) rfl (fun t116 g116 k116 e116 => ?_)
  have k17 : ai_hv t116 0 10 = some (gx_r 191) := (e116 0 10 (by first | decide | omega)).trans k12
  have k18 : ai_hv t116 0 12 = some (gx_r 323) := (e116 0 12 (by first | decide | omega)).trans k13
  have k19 : ai_hv t116 323 5 = some (.inl 0) := (e116 323 5 (by first | decide | omega)).trans k14
  have k20 : ai_hv t116 139 0 = some (.inl 0) := (e116 139 0 (by first | decide | omega)).trans k15
  have k21 : ai_hv t116 22 1 = some (.inl 0) := (e116 22 1 (by first | decide | omega)).trans k1_111
  have k22 : ai_hv t116 22 2 = some (.inl 0) := (e116 22 2 (by first | decide | omega)).trans k2_111
  refine ex_go (S := (50, [(1, .inl 1), (0, gx_r 0)], [], t116, n, 0)) rfl (fun _ => rfl) rfl ?_
  refine ex_go (S := (35, [(1, .inl 1), (0, gx_r 0)], [], t116, n, 0)) rfl (fun _ => rfl) rfl ?_
  refine ex_go (S := (36, [(1, .inl 1), (0, gx_r 0)], [.inl 1], t116, n, 0)) rfl (fun _ => rfl) rfl ?_
  refine ex_go (S := (37, [(1, .inl 1), (0, gx_r 0)], [.inl 4, .inl 1], t116, n, 0)) rfl (fun _ => rfl) rfl ?_
  refine ex_go (S := (40, [(1, .inl 1), (0, gx_r 0)], [], t116, n, 0)) rfl (fun _ => rfl) rfl ?_
  refine ex_go (S := (41, [(1, .inl 1), (0, gx_r 0)], [gx_r 0], t116, n, 0)) rfl (fun _ => rfl) rfl ?_
  refine gxo_ref (a := 0) (c := 138) rfl g116 rfl rfl rfl rfl rfl ?_
  refine ex_go (S := (45, [(1, .inl 1), (0, gx_r 0)], [.inl 1, gx_r 138], t116, n, 0)) rfl (fun _ => rfl) rfl ?_
  refine ex_go (S := (46, [(1, .inl 1), (0, gx_r 0)], [.inl 0, .inl 1, gx_r 138], t116, n, 0)) rfl (fun _ => rfl) rfl ?_
  refine gx_apv (d := 2) rfl (fun _ => rfl) g116 rfl rfl rfl (show 1 < 4 from by omega) rfl (ai_in_h (by first | decide | omega) (by first | decide | omega) (by first | decide | omega)) rfl (fun t123 g123 k123 e123 => ?_)
  have k24 : ai_hv t123 0 10 = some (gx_r 191) := (e123 0 10 (by first | decide | omega)).trans k17
  have k25 : ai_hv t123 0 12 = some (gx_r 323) := (e123 0 12 (by first | decide | omega)).trans k18
  have k26 : ai_hv t123 323 5 = some (.inl 0) := (e123 323 5 (by first | decide | omega)).trans k19
  have k27 : ai_hv t123 139 0 = some (.inl 0) := (e123 139 0 (by first | decide | omega)).trans k20
  have k28 : ai_hv t123 22 1 = some (.inl 0) := (e123 22 1 (by first | decide | omega)).trans k21
  have k29 : ai_hv t123 22 2 = some (.inl 0) := (e123 22 2 (by first | decide | omega)).trans k22
  have k30 : ai_hv t123 138 0 = some (.inl 0) := (e123 138 0 (by first | decide | omega)).trans k116
  refine ex_go (S := (50, [(1, .inl 2), (0, gx_r 0)], [], t123, n, 0)) rfl (fun _ => rfl) rfl ?_
  refine ex_go (S := (35, [(1, .inl 2), (0, gx_r 0)], [], t123, n, 0)) rfl (fun _ => rfl) rfl ?_
  refine ex_go (S := (36, [(1, .inl 2), (0, gx_r 0)], [.inl 2], t123, n, 0)) rfl (fun _ => rfl) rfl ?_
  refine ex_go (S := (37, [(1, .inl 2), (0, gx_r 0)], [.inl 4, .inl 2], t123, n, 0)) rfl (fun _ => rfl) rfl ?_
  refine ex_go (S := (40, [(1, .inl 2), (0, gx_r 0)], [], t123, n, 0)) rfl (fun _ => rfl) rfl ?_
  refine ex_go (S := (41, [(1, .inl 2), (0, gx_r 0)], [gx_r 0], t123, n, 0)) rfl (fun _ => rfl) rfl ?_
  refine gxo_ref (a := 0) (c := 138) rfl g123 rfl rfl rfl rfl rfl ?_
  refine ex_go (S := (45, [(1, .inl 2), (0, gx_r 0)], [.inl 2, gx_r 138], t123, n, 0)) rfl (fun _ => rfl) rfl ?_
  refine ex_go (S := (46, [(1, .inl 2), (0, gx_r 0)], [.inl 0, .inl 2, gx_r 138], t123, n, 0)) rfl (fun _ => rfl) rfl ?_
  refine gx_apv (d := 2) rfl (fun _ => rfl) g123 rfl rfl rfl (show 2 < 4 from by omega) rfl (ai_in_h (by first | decide | omega) (by first | decide | omega) (by first | decide | omega)) rfl (fun t131 g131 k131 e131 => ?_)
  have k32 : ai_hv t131 0 10 = some (gx_r 191) := (e131 0 10 (by first | decide | omega)).trans k24
  have k33 : ai_hv t131 0 12 = some (gx_r 323) := (e131 0 12 (by first | decide | omega)).trans k25
  have k34 : ai_hv t131 323 5 = some (.inl 0) := (e131 323 5 (by first | decide | omega)).trans k26
  have k35 : ai_hv t131 139 0 = some (.inl 0) := (e131 139 0 (by first | decide | omega)).trans k27
  have k36 : ai_hv t131 22 1 = some (.inl 0) := (e131 22 1 (by first | decide | omega)).trans k28
  have k37 : ai_hv t131 22 2 = some (.inl 0) := (e131 22 2 (by first | decide | omega)).trans k29
  have k38 : ai_hv t131 138 0 = some (.inl 0) := (e131 138 0 (by first | decide | omega)).trans k30
  have k39 : ai_hv t131 138 1 = some (.inl 0) := (e131 138 1 (by first | decide | omega)).trans k123
  refine ex_go (S := (50, [(1, .inl 3), (0, gx_r 0)], [], t131, n, 0)) rfl (fun _ => rfl) rfl ?_
  refine ex_go (S := (35, [(1, .inl 3), (0, gx_r 0)], [], t131, n, 0)) rfl (fun _ => rfl) rfl ?_
  refine ex_go (S := (36, [(1, .inl 3), (0, gx_r 0)], [.inl 3], t131, n, 0)) rfl (fun _ => rfl) rfl ?_
  refine ex_go (S := (37, [(1, .inl 3), (0, gx_r 0)], [.inl 4, .inl 3], t131, n, 0)) rfl (fun _ => rfl) rfl ?_
  refine ex_go (S := (40, [(1, .inl 3), (0, gx_r 0)], [], t131, n, 0)) rfl (fun _ => rfl) rfl ?_
  refine ex_go (S := (41, [(1, .inl 3), (0, gx_r 0)], [gx_r 0], t131, n, 0)) rfl (fun _ => rfl) rfl ?_
  refine gxo_ref (a := 0) (c := 138) rfl g131 rfl rfl rfl rfl rfl ?_
  refine ex_go (S := (45, [(1, .inl 3), (0, gx_r 0)], [.inl 3, gx_r 138], t131, n, 0)) rfl (fun _ => rfl) rfl ?_
  refine ex_go (S := (46, [(1, .inl 3), (0, gx_r 0)], [.inl 0, .inl 3, gx_r 138], t131, n, 0)) rfl (fun _ => rfl) rfl ?_
  refine gx_apv (d := 2) rfl (fun _ => rfl) g131 rfl rfl rfl (show 3 < 4 from by omega) rfl (ai_in_h (by first | decide | omega) (by first | decide | omega) (by first | decide | omega)) rfl (fun t140 g140 k140 e140 => ?_)
  have k41 : ai_hv t140 0 10 = some (gx_r 191) := (e140 0 10 (by first | decide | omega)).trans k32
  have k42 : ai_hv t140 0 12 = some (gx_r 323) := (e140 0 12 (by first | decide | omega)).trans k33
  have k43 : ai_hv t140 323 5 = some (.inl 0) := (e140 323 5 (by first | decide | omega)).trans k34
  have k44 : ai_hv t140 139 0 = some (.inl 0) := (e140 139 0 (by first | decide | omega)).trans k35
  have k45 : ai_hv t140 22 1 = some (.inl 0) := (e140 22 1 (by first | decide | omega)).trans k36
  have k46 : ai_hv t140 22 2 = some (.inl 0) := (e140 22 2 (by first | decide | omega)).trans k37
  have k47 : ai_hv t140 138 0 = some (.inl 0) := (e140 138 0 (by first | decide | omega)).trans k38
  have k48 : ai_hv t140 138 1 = some (.inl 0) := (e140 138 1 (by first | decide | omega)).trans k39
  have k49 : ai_hv t140 138 2 = some (.inl 0) := (e140 138 2 (by first | decide | omega)).trans k131
  refine ex_go (S := (50, [(1, .inl 4), (0, gx_r 0)], [], t140, n, 0)) rfl (fun _ => rfl) rfl ?_
  refine ex_go (S := (35, [(1, .inl 4), (0, gx_r 0)], [], t140, n, 0)) rfl (fun _ => rfl) rfl ?_
  refine ex_go (S := (36, [(1, .inl 4), (0, gx_r 0)], [.inl 4], t140, n, 0)) rfl (fun _ => rfl) rfl ?_
  refine ex_go (S := (37, [(1, .inl 4), (0, gx_r 0)], [.inl 4, .inl 4], t140, n, 0)) rfl (fun _ => rfl) rfl ?_
  refine ex_go (S := (53, [(1, .inl 4), (0, gx_r 0)], [], t140, n, 0)) rfl (fun _ => rfl) rfl ?_
  refine ex_ret (r := (none, t140, n, 0)) rfl (fun _ => rfl) ?_
  refine ⟨_, rfl, t140, rfl, g140, (fun c i h => (e140 c i (by first | decide | omega)).trans ((e131 c i (by first | decide | omega)).trans ((e123 c i (by first | decide | omega)).trans ((e116 c i (by first | decide | omega)).trans ((e111 c i (by first | decide | omega)).trans ((e107 c i (by first | decide | omega)).trans ((e104 c i (by first | decide | omega)).trans (e101 c i (by first | decide | omega))))))))), (e140 8 0 (by first | decide | omega)).trans ((e131 8 0 (by first | decide | omega)).trans ((e123 8 0 (by first | decide | omega)).trans ((e116 8 0 (by first | decide | omega)).trans ((e111 8 0 (by first | decide | omega)).trans ((e107 8 0 (by first | decide | omega)).trans ((e104 8 0 (by first | decide | omega)).trans (y0))))))), (fun T9 h9 i hi => ?_), (fun K9 h9 c hc => ?_), k43, k44, k45, k46, fun i hi => ?_⟩
  · have h8 : T9 = T := Sum.inl.inj (Option.some.inj (h9.symm.trans ((e140 194 5 (by first | decide | omega)).trans ((e131 194 5 (by first | decide | omega)).trans ((e123 194 5 (by first | decide | omega)).trans ((e116 194 5 (by first | decide | omega)).trans ((e111 194 5 (by first | decide | omega)).trans ((e107 194 5 (by first | decide | omega)).trans ((e104 194 5 (by first | decide | omega)).trans ((e101 194 5 (by first | decide | omega)).trans (kT)))))))))))
    subst h8
    exact ((e140 9 i (by first | decide | omega)).trans ((e131 9 i (by first | decide | omega)).trans ((e123 9 i (by first | decide | omega)).trans ((e116 9 i (by first | decide | omega)).trans ((e111 9 i (by first | decide | omega)).trans ((e107 9 i (by first | decide | omega)).trans ((e104 9 i (by first | decide | omega)).trans (y1 i hi)))))))).trans (((e140 197 i (by first | decide | omega)).trans ((e131 197 i (by first | decide | omega)).trans ((e123 197 i (by first | decide | omega)).trans ((e116 197 i (by first | decide | omega)).trans ((e111 197 i (by first | decide | omega)).trans ((e107 197 i (by first | decide | omega)).trans ((e104 197 i (by first | decide | omega)).trans (e101 197 i (by first | decide | omega))))))))).trans (kP i hi)).symm
  · have h8 : K9 = K := Sum.inl.inj (Option.some.inj (h9.symm.trans ((e140 206 5 (by first | decide | omega)).trans ((e131 206 5 (by first | decide | omega)).trans ((e123 206 5 (by first | decide | omega)).trans ((e116 206 5 (by first | decide | omega)).trans ((e111 206 5 (by first | decide | omega)).trans ((e107 206 5 (by first | decide | omega)).trans ((e104 206 5 (by first | decide | omega)).trans ((e101 206 5 (by first | decide | omega)).trans (kK)))))))))))
    subst h8
    obtain ⟨z0, z1, z2, z3, z4⟩ := y2 c hc
    exact ⟨((e140 10 c (by first | decide | omega)).trans ((e131 10 c (by first | decide | omega)).trans ((e123 10 c (by first | decide | omega)).trans ((e116 10 c (by first | decide | omega)).trans ((e111 10 c (by first | decide | omega)).trans ((e107 10 c (by first | decide | omega)).trans ((e104 10 c (by first | decide | omega)).trans (z0)))))))).trans (((e140 210 c (by first | decide | omega)).trans ((e131 210 c (by first | decide | omega)).trans ((e123 210 c (by first | decide | omega)).trans ((e116 210 c (by first | decide | omega)).trans ((e111 210 c (by first | decide | omega)).trans ((e107 210 c (by first | decide | omega)).trans ((e104 210 c (by first | decide | omega)).trans (e101 210 c (by first | decide | omega))))))))).trans (kB c hc)).symm, (e140 11 c (by first | decide | omega)).trans ((e131 11 c (by first | decide | omega)).trans ((e123 11 c (by first | decide | omega)).trans ((e116 11 c (by first | decide | omega)).trans ((e111 11 c (by first | decide | omega)).trans ((e107 11 c (by first | decide | omega)).trans ((e104 11 c (by first | decide | omega)).trans (z1))))))), (e140 12 c (by first | decide | omega)).trans ((e131 12 c (by first | decide | omega)).trans ((e123 12 c (by first | decide | omega)).trans ((e116 12 c (by first | decide | omega)).trans ((e111 12 c (by first | decide | omega)).trans ((e107 12 c (by first | decide | omega)).trans ((e104 12 c (by first | decide | omega)).trans (z2))))))), (e140 13 c (by first | decide | omega)).trans ((e131 13 c (by first | decide | omega)).trans ((e123 13 c (by first | decide | omega)).trans ((e116 13 c (by first | decide | omega)).trans ((e111 13 c (by first | decide | omega)).trans ((e107 13 c (by first | decide | omega)).trans ((e104 13 c (by first | decide | omega)).trans (z3))))))), (e140 14 c (by first | decide | omega)).trans ((e131 14 c (by first | decide | omega)).trans ((e123 14 c (by first | decide | omega)).trans ((e116 14 c (by first | decide | omega)).trans ((e111 14 c (by first | decide | omega)).trans ((e107 14 c (by first | decide | omega)).trans ((e104 14 c (by first | decide | omega)).trans (z4)))))))⟩
  · rcases (show i = 0 ∨ i = 1 ∨ i = 2 ∨ i = 3 by omega) with rfl | rfl | rfl | rfl
    · exact k47
    · exact k48
    · exact k49
    · exact k140
theorem pc_beginPack191_329 (d n : Nat) {t0 : en_H} (g0 : ai_HG ah_G t0) (k10 : ai_hv t0 0 10 = some (gx_r 191)) (k12 : ai_hv t0 0 12 = some (gx_r 329)) : ∃ r, en_u (d + 3) 21 [gx_r 0] t0 n = some r ∧ ∃ t', r = (none, t', n, 0) ∧ ai_HG ah_G t' ∧ (∀ c i, ¬ ((8 ≤ c ∧ c ≤ 14) ∨ c = 22 ∨ c = 138 ∨ c = 139 ∨ c = 329) → ai_hv t' c i = ai_hv t0 c i) ∧ CBg t' 191 329 := by
  obtain ⟨T, K, P, B, hT, kT, kP, hP, hK, kK, kB, hB⟩ := pc_TPKB g0 (a := 194) (b := 197) (c := 206) (d := 210) rfl (by decide) rfl rfl rfl (fun i hi => gx_run1 hi) rfl (by decide) rfl rfl rfl (fun i hi => gx_run1 hi)
  refine en_u_ex (d := d + 2) rfl ?_
  show en_ex _ _ _ _ (0, [(0, gx_r 0)], [], t0, n, 0) _
  refine ex_go (S := (1, [(0, gx_r 0)], [gx_r 0], t0, n, 0)) rfl (fun _ => rfl) rfl ?_
  refine gxo_ref (a := 0) (c := 8) rfl g0 rfl rfl rfl rfl rfl ?_
  refine ex_go (S := (5, [(0, gx_r 0)], [gx_r 0, gx_r 8], t0, n, 0)) rfl (fun _ => rfl) rfl ?_
  refine gxo_get (a := 0) rfl g0 rfl rfl k10 rfl ?_
  obtain ⟨_, r101, t101, rfl, g101, e101, y0, y1, y2⟩ := pc_begin8_191 d n g0 hT kT kP hP hK kK kB hB
  refine gx_callo (a := 8) rfl rfl g0 rfl rfl rfl r101 rfl ?_
  have k2 : ai_hv t101 0 10 = some (gx_r 191) := (e101 0 10 (by first | decide | omega)).trans k10
  have k3 : ai_hv t101 0 12 = some (gx_r 329) := (e101 0 12 (by first | decide | omega)).trans k12
  show en_ex _ _ _ _ (11, [(0, gx_r 0)], [], t101, n, 0) _
  refine ex_go (S := (12, [(0, gx_r 0)], [gx_r 0], t101, n, 0)) rfl (fun _ => rfl) rfl ?_
  refine gxo_get (a := 0) rfl g101 rfl rfl k3 rfl ?_
  obtain ⟨_, r104, t104, rfl, g104, e104, k1_104⟩ := pz_rclear329 (d + 1) n g101
  refine gx_callo (a := 329) rfl rfl g101 rfl rfl rfl r104 rfl ?_
  have k5 : ai_hv t104 0 10 = some (gx_r 191) := (e104 0 10 (by first | decide | omega)).trans k2
  have k6 : ai_hv t104 0 12 = some (gx_r 329) := (e104 0 12 (by first | decide | omega)).trans k3
  show en_ex _ _ _ _ (18, [(0, gx_r 0)], [], t104, n, 0) _
  refine ex_go (S := (19, [(0, gx_r 0)], [gx_r 0], t104, n, 0)) rfl (fun _ => rfl) rfl ?_
  refine gxo_ref (a := 0) (c := 139) rfl g104 rfl rfl rfl rfl rfl ?_
  refine ex_go (S := (23, [(0, gx_r 0)], [.inl 0, gx_r 139], t104, n, 0)) rfl (fun _ => rfl) rfl ?_
  refine gxo_put (a := 139) rfl g104 rfl rfl rfl (ai_in_h (by first | decide | omega) (by first | decide | omega) (by first | decide | omega)) rfl (fun t107 g107 k107 e107 => ?_)
  have k8 : ai_hv t107 0 10 = some (gx_r 191) := (e107 0 10 (by first | decide | omega)).trans k5
  have k9 : ai_hv t107 0 12 = some (gx_r 329) := (e107 0 12 (by first | decide | omega)).trans k6
  have k10 : ai_hv t107 329 5 = some (.inl 0) := (e107 329 5 (by first | decide | omega)).trans k1_104
  refine ex_go (S := (27, [(0, gx_r 0)], [gx_r 0], t107, n, 0)) rfl (fun _ => rfl) rfl ?_
  refine gxo_ref (a := 0) (c := 22) rfl g107 rfl rfl rfl rfl rfl ?_
  obtain ⟨_, r111, t111, rfl, g111, e111, k1_111, k2_111⟩ := pz_pclear (d + 1) n g107
  refine gx_callo (a := 22) rfl rfl g107 rfl rfl rfl r111 rfl ?_
  have k12 : ai_hv t111 0 10 = some (gx_r 191) := (e111 0 10 (by first | decide | omega)).trans k8
  have k13 : ai_hv t111 0 12 = some (gx_r 329) := (e111 0 12 (by first | decide | omega)).trans k9
  have k14 : ai_hv t111 329 5 = some (.inl 0) := (e111 329 5 (by first | decide | omega)).trans k10
  have k15 : ai_hv t111 139 0 = some (.inl 0) := (e111 139 0 (by first | decide | omega)).trans k107
  show en_ex _ _ _ _ (33, [(0, gx_r 0)], [], t111, n, 0) _
  refine ex_go (S := (34, [(0, gx_r 0)], [.inl 0], t111, n, 0)) rfl (fun _ => rfl) rfl ?_
  refine ex_go (S := (35, [(1, .inl 0), (0, gx_r 0)], [], t111, n, 0)) rfl (fun _ => rfl) rfl ?_
  refine ex_go (S := (36, [(1, .inl 0), (0, gx_r 0)], [.inl 0], t111, n, 0)) rfl (fun _ => rfl) rfl ?_
  refine ex_go (S := (37, [(1, .inl 0), (0, gx_r 0)], [.inl 4, .inl 0], t111, n, 0)) rfl (fun _ => rfl) rfl ?_
  refine ex_go (S := (40, [(1, .inl 0), (0, gx_r 0)], [], t111, n, 0)) rfl (fun _ => rfl) rfl ?_
  refine ex_go (S := (41, [(1, .inl 0), (0, gx_r 0)], [gx_r 0], t111, n, 0)) rfl (fun _ => rfl) rfl ?_
  refine gxo_ref (a := 0) (c := 138) rfl g111 rfl rfl rfl rfl rfl ?_
  refine ex_go (S := (45, [(1, .inl 0), (0, gx_r 0)], [.inl 0, gx_r 138], t111, n, 0)) rfl (fun _ => rfl) rfl ?_
  refine ex_go (S := (46, [(1, .inl 0), (0, gx_r 0)], [.inl 0, .inl 0, gx_r 138], t111, n, 0)) rfl (fun _ => rfl) rfl ?_
  refine gx_apv (d := 2) rfl (fun _ => rfl) g111 rfl rfl rfl (show 0 < 4 from by omega) rfl (ai_in_h (by first | decide | omega) (by first | decide | omega) (by first | decide | omega)) rfl (fun t116 g116 k116 e116 => ?_)
  have k17 : ai_hv t116 0 10 = some (gx_r 191) := (e116 0 10 (by first | decide | omega)).trans k12
  have k18 : ai_hv t116 0 12 = some (gx_r 329) := (e116 0 12 (by first | decide | omega)).trans k13
  have k19 : ai_hv t116 329 5 = some (.inl 0) := (e116 329 5 (by first | decide | omega)).trans k14
  have k20 : ai_hv t116 139 0 = some (.inl 0) := (e116 139 0 (by first | decide | omega)).trans k15
  have k21 : ai_hv t116 22 1 = some (.inl 0) := (e116 22 1 (by first | decide | omega)).trans k1_111
  have k22 : ai_hv t116 22 2 = some (.inl 0) := (e116 22 2 (by first | decide | omega)).trans k2_111
  refine ex_go (S := (50, [(1, .inl 1), (0, gx_r 0)], [], t116, n, 0)) rfl (fun _ => rfl) rfl ?_
  refine ex_go (S := (35, [(1, .inl 1), (0, gx_r 0)], [], t116, n, 0)) rfl (fun _ => rfl) rfl ?_
  refine ex_go (S := (36, [(1, .inl 1), (0, gx_r 0)], [.inl 1], t116, n, 0)) rfl (fun _ => rfl) rfl ?_
  refine ex_go (S := (37, [(1, .inl 1), (0, gx_r 0)], [.inl 4, .inl 1], t116, n, 0)) rfl (fun _ => rfl) rfl ?_
  refine ex_go (S := (40, [(1, .inl 1), (0, gx_r 0)], [], t116, n, 0)) rfl (fun _ => rfl) rfl ?_
  refine ex_go (S := (41, [(1, .inl 1), (0, gx_r 0)], [gx_r 0], t116, n, 0)) rfl (fun _ => rfl) rfl ?_
  refine gxo_ref (a := 0) (c := 138) rfl g116 rfl rfl rfl rfl rfl ?_
  refine ex_go (S := (45, [(1, .inl 1), (0, gx_r 0)], [.inl 1, gx_r 138], t116, n, 0)) rfl (fun _ => rfl) rfl ?_
  refine ex_go (S := (46, [(1, .inl 1), (0, gx_r 0)], [.inl 0, .inl 1, gx_r 138], t116, n, 0)) rfl (fun _ => rfl) rfl ?_
  refine gx_apv (d := 2) rfl (fun _ => rfl) g116 rfl rfl rfl (show 1 < 4 from by omega) rfl (ai_in_h (by first | decide | omega) (by first | decide | omega) (by first | decide | omega)) rfl (fun t123 g123 k123 e123 => ?_)
  have k24 : ai_hv t123 0 10 = some (gx_r 191) := (e123 0 10 (by first | decide | omega)).trans k17
  have k25 : ai_hv t123 0 12 = some (gx_r 329) := (e123 0 12 (by first | decide | omega)).trans k18
  have k26 : ai_hv t123 329 5 = some (.inl 0) := (e123 329 5 (by first | decide | omega)).trans k19
  have k27 : ai_hv t123 139 0 = some (.inl 0) := (e123 139 0 (by first | decide | omega)).trans k20
  have k28 : ai_hv t123 22 1 = some (.inl 0) := (e123 22 1 (by first | decide | omega)).trans k21
  have k29 : ai_hv t123 22 2 = some (.inl 0) := (e123 22 2 (by first | decide | omega)).trans k22
  have k30 : ai_hv t123 138 0 = some (.inl 0) := (e123 138 0 (by first | decide | omega)).trans k116
  refine ex_go (S := (50, [(1, .inl 2), (0, gx_r 0)], [], t123, n, 0)) rfl (fun _ => rfl) rfl ?_
  refine ex_go (S := (35, [(1, .inl 2), (0, gx_r 0)], [], t123, n, 0)) rfl (fun _ => rfl) rfl ?_
  refine ex_go (S := (36, [(1, .inl 2), (0, gx_r 0)], [.inl 2], t123, n, 0)) rfl (fun _ => rfl) rfl ?_
  refine ex_go (S := (37, [(1, .inl 2), (0, gx_r 0)], [.inl 4, .inl 2], t123, n, 0)) rfl (fun _ => rfl) rfl ?_
  refine ex_go (S := (40, [(1, .inl 2), (0, gx_r 0)], [], t123, n, 0)) rfl (fun _ => rfl) rfl ?_
  refine ex_go (S := (41, [(1, .inl 2), (0, gx_r 0)], [gx_r 0], t123, n, 0)) rfl (fun _ => rfl) rfl ?_
  refine gxo_ref (a := 0) (c := 138) rfl g123 rfl rfl rfl rfl rfl ?_
  refine ex_go (S := (45, [(1, .inl 2), (0, gx_r 0)], [.inl 2, gx_r 138], t123, n, 0)) rfl (fun _ => rfl) rfl ?_
  refine ex_go (S := (46, [(1, .inl 2), (0, gx_r 0)], [.inl 0, .inl 2, gx_r 138], t123, n, 0)) rfl (fun _ => rfl) rfl ?_
  refine gx_apv (d := 2) rfl (fun _ => rfl) g123 rfl rfl rfl (show 2 < 4 from by omega) rfl (ai_in_h (by first | decide | omega) (by first | decide | omega) (by first | decide | omega)) rfl (fun t131 g131 k131 e131 => ?_)
  have k32 : ai_hv t131 0 10 = some (gx_r 191) := (e131 0 10 (by first | decide | omega)).trans k24
  have k33 : ai_hv t131 0 12 = some (gx_r 329) := (e131 0 12 (by first | decide | omega)).trans k25
  have k34 : ai_hv t131 329 5 = some (.inl 0) := (e131 329 5 (by first | decide | omega)).trans k26
  have k35 : ai_hv t131 139 0 = some (.inl 0) := (e131 139 0 (by first | decide | omega)).trans k27
  have k36 : ai_hv t131 22 1 = some (.inl 0) := (e131 22 1 (by first | decide | omega)).trans k28
  have k37 : ai_hv t131 22 2 = some (.inl 0) := (e131 22 2 (by first | decide | omega)).trans k29
  have k38 : ai_hv t131 138 0 = some (.inl 0) := (e131 138 0 (by first | decide | omega)).trans k30
  have k39 : ai_hv t131 138 1 = some (.inl 0) := (e131 138 1 (by first | decide | omega)).trans k123
  refine ex_go (S := (50, [(1, .inl 3), (0, gx_r 0)], [], t131, n, 0)) rfl (fun _ => rfl) rfl ?_
  refine ex_go (S := (35, [(1, .inl 3), (0, gx_r 0)], [], t131, n, 0)) rfl (fun _ => rfl) rfl ?_
  refine ex_go (S := (36, [(1, .inl 3), (0, gx_r 0)], [.inl 3], t131, n, 0)) rfl (fun _ => rfl) rfl ?_
  refine ex_go (S := (37, [(1, .inl 3), (0, gx_r 0)], [.inl 4, .inl 3], t131, n, 0)) rfl (fun _ => rfl) rfl ?_
  refine ex_go (S := (40, [(1, .inl 3), (0, gx_r 0)], [], t131, n, 0)) rfl (fun _ => rfl) rfl ?_
  refine ex_go (S := (41, [(1, .inl 3), (0, gx_r 0)], [gx_r 0], t131, n, 0)) rfl (fun _ => rfl) rfl ?_
  refine gxo_ref (a := 0) (c := 138) rfl g131 rfl rfl rfl rfl rfl ?_
  refine ex_go (S := (45, [(1, .inl 3), (0, gx_r 0)], [.inl 3, gx_r 138], t131, n, 0)) rfl (fun _ => rfl) rfl ?_
  refine ex_go (S := (46, [(1, .inl 3), (0, gx_r 0)], [.inl 0, .inl 3, gx_r 138], t131, n, 0)) rfl (fun _ => rfl) rfl ?_
  refine gx_apv (d := 2) rfl (fun _ => rfl) g131 rfl rfl rfl (show 3 < 4 from by omega) rfl (ai_in_h (by first | decide | omega) (by first | decide | omega) (by first | decide | omega)) rfl (fun t140 g140 k140 e140 => ?_)
  have k41 : ai_hv t140 0 10 = some (gx_r 191) := (e140 0 10 (by first | decide | omega)).trans k32
  have k42 : ai_hv t140 0 12 = some (gx_r 329) := (e140 0 12 (by first | decide | omega)).trans k33
  have k43 : ai_hv t140 329 5 = some (.inl 0) := (e140 329 5 (by first | decide | omega)).trans k34
  have k44 : ai_hv t140 139 0 = some (.inl 0) := (e140 139 0 (by first | decide | omega)).trans k35
  have k45 : ai_hv t140 22 1 = some (.inl 0) := (e140 22 1 (by first | decide | omega)).trans k36
  have k46 : ai_hv t140 22 2 = some (.inl 0) := (e140 22 2 (by first | decide | omega)).trans k37
  have k47 : ai_hv t140 138 0 = some (.inl 0) := (e140 138 0 (by first | decide | omega)).trans k38
  have k48 : ai_hv t140 138 1 = some (.inl 0) := (e140 138 1 (by first | decide | omega)).trans k39
  have k49 : ai_hv t140 138 2 = some (.inl 0) := (e140 138 2 (by first | decide | omega)).trans k131
  refine ex_go (S := (50, [(1, .inl 4), (0, gx_r 0)], [], t140, n, 0)) rfl (fun _ => rfl) rfl ?_
  refine ex_go (S := (35, [(1, .inl 4), (0, gx_r 0)], [], t140, n, 0)) rfl (fun _ => rfl) rfl ?_
  refine ex_go (S := (36, [(1, .inl 4), (0, gx_r 0)], [.inl 4], t140, n, 0)) rfl (fun _ => rfl) rfl ?_
  refine ex_go (S := (37, [(1, .inl 4), (0, gx_r 0)], [.inl 4, .inl 4], t140, n, 0)) rfl (fun _ => rfl) rfl ?_
  refine ex_go (S := (53, [(1, .inl 4), (0, gx_r 0)], [], t140, n, 0)) rfl (fun _ => rfl) rfl ?_
  refine ex_ret (r := (none, t140, n, 0)) rfl (fun _ => rfl) ?_
  refine ⟨_, rfl, t140, rfl, g140, (fun c i h => (e140 c i (by first | decide | omega)).trans ((e131 c i (by first | decide | omega)).trans ((e123 c i (by first | decide | omega)).trans ((e116 c i (by first | decide | omega)).trans ((e111 c i (by first | decide | omega)).trans ((e107 c i (by first | decide | omega)).trans ((e104 c i (by first | decide | omega)).trans (e101 c i (by first | decide | omega))))))))), (e140 8 0 (by first | decide | omega)).trans ((e131 8 0 (by first | decide | omega)).trans ((e123 8 0 (by first | decide | omega)).trans ((e116 8 0 (by first | decide | omega)).trans ((e111 8 0 (by first | decide | omega)).trans ((e107 8 0 (by first | decide | omega)).trans ((e104 8 0 (by first | decide | omega)).trans (y0))))))), (fun T9 h9 i hi => ?_), (fun K9 h9 c hc => ?_), k43, k44, k45, k46, fun i hi => ?_⟩
  · have h8 : T9 = T := Sum.inl.inj (Option.some.inj (h9.symm.trans ((e140 194 5 (by first | decide | omega)).trans ((e131 194 5 (by first | decide | omega)).trans ((e123 194 5 (by first | decide | omega)).trans ((e116 194 5 (by first | decide | omega)).trans ((e111 194 5 (by first | decide | omega)).trans ((e107 194 5 (by first | decide | omega)).trans ((e104 194 5 (by first | decide | omega)).trans ((e101 194 5 (by first | decide | omega)).trans (kT)))))))))))
    subst h8
    exact ((e140 9 i (by first | decide | omega)).trans ((e131 9 i (by first | decide | omega)).trans ((e123 9 i (by first | decide | omega)).trans ((e116 9 i (by first | decide | omega)).trans ((e111 9 i (by first | decide | omega)).trans ((e107 9 i (by first | decide | omega)).trans ((e104 9 i (by first | decide | omega)).trans (y1 i hi)))))))).trans (((e140 197 i (by first | decide | omega)).trans ((e131 197 i (by first | decide | omega)).trans ((e123 197 i (by first | decide | omega)).trans ((e116 197 i (by first | decide | omega)).trans ((e111 197 i (by first | decide | omega)).trans ((e107 197 i (by first | decide | omega)).trans ((e104 197 i (by first | decide | omega)).trans (e101 197 i (by first | decide | omega))))))))).trans (kP i hi)).symm
  · have h8 : K9 = K := Sum.inl.inj (Option.some.inj (h9.symm.trans ((e140 206 5 (by first | decide | omega)).trans ((e131 206 5 (by first | decide | omega)).trans ((e123 206 5 (by first | decide | omega)).trans ((e116 206 5 (by first | decide | omega)).trans ((e111 206 5 (by first | decide | omega)).trans ((e107 206 5 (by first | decide | omega)).trans ((e104 206 5 (by first | decide | omega)).trans ((e101 206 5 (by first | decide | omega)).trans (kK)))))))))))
    subst h8
    obtain ⟨z0, z1, z2, z3, z4⟩ := y2 c hc
    exact ⟨((e140 10 c (by first | decide | omega)).trans ((e131 10 c (by first | decide | omega)).trans ((e123 10 c (by first | decide | omega)).trans ((e116 10 c (by first | decide | omega)).trans ((e111 10 c (by first | decide | omega)).trans ((e107 10 c (by first | decide | omega)).trans ((e104 10 c (by first | decide | omega)).trans (z0)))))))).trans (((e140 210 c (by first | decide | omega)).trans ((e131 210 c (by first | decide | omega)).trans ((e123 210 c (by first | decide | omega)).trans ((e116 210 c (by first | decide | omega)).trans ((e111 210 c (by first | decide | omega)).trans ((e107 210 c (by first | decide | omega)).trans ((e104 210 c (by first | decide | omega)).trans (e101 210 c (by first | decide | omega))))))))).trans (kB c hc)).symm, (e140 11 c (by first | decide | omega)).trans ((e131 11 c (by first | decide | omega)).trans ((e123 11 c (by first | decide | omega)).trans ((e116 11 c (by first | decide | omega)).trans ((e111 11 c (by first | decide | omega)).trans ((e107 11 c (by first | decide | omega)).trans ((e104 11 c (by first | decide | omega)).trans (z1))))))), (e140 12 c (by first | decide | omega)).trans ((e131 12 c (by first | decide | omega)).trans ((e123 12 c (by first | decide | omega)).trans ((e116 12 c (by first | decide | omega)).trans ((e111 12 c (by first | decide | omega)).trans ((e107 12 c (by first | decide | omega)).trans ((e104 12 c (by first | decide | omega)).trans (z2))))))), (e140 13 c (by first | decide | omega)).trans ((e131 13 c (by first | decide | omega)).trans ((e123 13 c (by first | decide | omega)).trans ((e116 13 c (by first | decide | omega)).trans ((e111 13 c (by first | decide | omega)).trans ((e107 13 c (by first | decide | omega)).trans ((e104 13 c (by first | decide | omega)).trans (z3))))))), (e140 14 c (by first | decide | omega)).trans ((e131 14 c (by first | decide | omega)).trans ((e123 14 c (by first | decide | omega)).trans ((e116 14 c (by first | decide | omega)).trans ((e111 14 c (by first | decide | omega)).trans ((e107 14 c (by first | decide | omega)).trans ((e104 14 c (by first | decide | omega)).trans (z4)))))))⟩
  · rcases (show i = 0 ∨ i = 1 ∨ i = 2 ∨ i = 3 by omega) with rfl | rfl | rfl | rfl
    · exact k47
    · exact k48
    · exact k49
    · exact k140
theorem pc_beginPack257_323 (d n : Nat) {t0 : en_H} (g0 : ai_HG ah_G t0) (k10 : ai_hv t0 0 10 = some (gx_r 257)) (k12 : ai_hv t0 0 12 = some (gx_r 323)) : ∃ r, en_u (d + 3) 21 [gx_r 0] t0 n = some r ∧ ∃ t', r = (none, t', n, 0) ∧ ai_HG ah_G t' ∧ (∀ c i, ¬ ((8 ≤ c ∧ c ≤ 14) ∨ c = 22 ∨ c = 138 ∨ c = 139 ∨ c = 323) → ai_hv t' c i = ai_hv t0 c i) ∧ CBg t' 257 323 := by
  obtain ⟨T, K, P, B, hT, kT, kP, hP, hK, kK, kB, hB⟩ := pc_TPKB g0 (a := 260) (b := 263) (c := 272) (d := 276) rfl (by decide) rfl rfl rfl (fun i hi => gx_run1 hi) rfl (by decide) rfl rfl rfl (fun i hi => gx_run1 hi)
  refine en_u_ex (d := d + 2) rfl ?_
  show en_ex _ _ _ _ (0, [(0, gx_r 0)], [], t0, n, 0) _
  refine ex_go (S := (1, [(0, gx_r 0)], [gx_r 0], t0, n, 0)) rfl (fun _ => rfl) rfl ?_
  refine gxo_ref (a := 0) (c := 8) rfl g0 rfl rfl rfl rfl rfl ?_
  refine ex_go (S := (5, [(0, gx_r 0)], [gx_r 0, gx_r 8], t0, n, 0)) rfl (fun _ => rfl) rfl ?_
  refine gxo_get (a := 0) rfl g0 rfl rfl k10 rfl ?_
  obtain ⟨_, r101, t101, rfl, g101, e101, y0, y1, y2⟩ := pc_begin8_257 d n g0 hT kT kP hP hK kK kB hB
  refine gx_callo (a := 8) rfl rfl g0 rfl rfl rfl r101 rfl ?_
  have k2 : ai_hv t101 0 10 = some (gx_r 257) := (e101 0 10 (by first | decide | omega)).trans k10
  have k3 : ai_hv t101 0 12 = some (gx_r 323) := (e101 0 12 (by first | decide | omega)).trans k12
  show en_ex _ _ _ _ (11, [(0, gx_r 0)], [], t101, n, 0) _
  refine ex_go (S := (12, [(0, gx_r 0)], [gx_r 0], t101, n, 0)) rfl (fun _ => rfl) rfl ?_
  refine gxo_get (a := 0) rfl g101 rfl rfl k3 rfl ?_
  obtain ⟨_, r104, t104, rfl, g104, e104, k1_104⟩ := pz_rclear323 (d + 1) n g101
  refine gx_callo (a := 323) rfl rfl g101 rfl rfl rfl r104 rfl ?_
  have k5 : ai_hv t104 0 10 = some (gx_r 257) := (e104 0 10 (by first | decide | omega)).trans k2
  have k6 : ai_hv t104 0 12 = some (gx_r 323) := (e104 0 12 (by first | decide | omega)).trans k3
  show en_ex _ _ _ _ (18, [(0, gx_r 0)], [], t104, n, 0) _
  refine ex_go (S := (19, [(0, gx_r 0)], [gx_r 0], t104, n, 0)) rfl (fun _ => rfl) rfl ?_
  refine gxo_ref (a := 0) (c := 139) rfl g104 rfl rfl rfl rfl rfl ?_
  refine ex_go (S := (23, [(0, gx_r 0)], [.inl 0, gx_r 139], t104, n, 0)) rfl (fun _ => rfl) rfl ?_
  refine gxo_put (a := 139) rfl g104 rfl rfl rfl (ai_in_h (by first | decide | omega) (by first | decide | omega) (by first | decide | omega)) rfl (fun t107 g107 k107 e107 => ?_)
  have k8 : ai_hv t107 0 10 = some (gx_r 257) := (e107 0 10 (by first | decide | omega)).trans k5
  have k9 : ai_hv t107 0 12 = some (gx_r 323) := (e107 0 12 (by first | decide | omega)).trans k6
  have k10 : ai_hv t107 323 5 = some (.inl 0) := (e107 323 5 (by first | decide | omega)).trans k1_104
  refine ex_go (S := (27, [(0, gx_r 0)], [gx_r 0], t107, n, 0)) rfl (fun _ => rfl) rfl ?_
  refine gxo_ref (a := 0) (c := 22) rfl g107 rfl rfl rfl rfl rfl ?_
  obtain ⟨_, r111, t111, rfl, g111, e111, k1_111, k2_111⟩ := pz_pclear (d + 1) n g107
  refine gx_callo (a := 22) rfl rfl g107 rfl rfl rfl r111 rfl ?_
  have k12 : ai_hv t111 0 10 = some (gx_r 257) := (e111 0 10 (by first | decide | omega)).trans k8
  have k13 : ai_hv t111 0 12 = some (gx_r 323) := (e111 0 12 (by first | decide | omega)).trans k9
  have k14 : ai_hv t111 323 5 = some (.inl 0) := (e111 323 5 (by first | decide | omega)).trans k10
  have k15 : ai_hv t111 139 0 = some (.inl 0) := (e111 139 0 (by first | decide | omega)).trans k107
  show en_ex _ _ _ _ (33, [(0, gx_r 0)], [], t111, n, 0) _
  refine ex_go (S := (34, [(0, gx_r 0)], [.inl 0], t111, n, 0)) rfl (fun _ => rfl) rfl ?_
  refine ex_go (S := (35, [(1, .inl 0), (0, gx_r 0)], [], t111, n, 0)) rfl (fun _ => rfl) rfl ?_
  refine ex_go (S := (36, [(1, .inl 0), (0, gx_r 0)], [.inl 0], t111, n, 0)) rfl (fun _ => rfl) rfl ?_
  refine ex_go (S := (37, [(1, .inl 0), (0, gx_r 0)], [.inl 4, .inl 0], t111, n, 0)) rfl (fun _ => rfl) rfl ?_
  refine ex_go (S := (40, [(1, .inl 0), (0, gx_r 0)], [], t111, n, 0)) rfl (fun _ => rfl) rfl ?_
  refine ex_go (S := (41, [(1, .inl 0), (0, gx_r 0)], [gx_r 0], t111, n, 0)) rfl (fun _ => rfl) rfl ?_
  refine gxo_ref (a := 0) (c := 138) rfl g111 rfl rfl rfl rfl rfl ?_
  refine ex_go (S := (45, [(1, .inl 0), (0, gx_r 0)], [.inl 0, gx_r 138], t111, n, 0)) rfl (fun _ => rfl) rfl ?_
  refine ex_go (S := (46, [(1, .inl 0), (0, gx_r 0)], [.inl 0, .inl 0, gx_r 138], t111, n, 0)) rfl (fun _ => rfl) rfl ?_
  refine gx_apv (d := 2) rfl (fun _ => rfl) g111 rfl rfl rfl (show 0 < 4 from by omega) rfl (ai_in_h (by first | decide | omega) (by first | decide | omega) (by first | decide | omega)) rfl (fun t116 g116 k116 e116 => ?_)
  have k17 : ai_hv t116 0 10 = some (gx_r 257) := (e116 0 10 (by first | decide | omega)).trans k12
  have k18 : ai_hv t116 0 12 = some (gx_r 323) := (e116 0 12 (by first | decide | omega)).trans k13
  have k19 : ai_hv t116 323 5 = some (.inl 0) := (e116 323 5 (by first | decide | omega)).trans k14
  have k20 : ai_hv t116 139 0 = some (.inl 0) := (e116 139 0 (by first | decide | omega)).trans k15
  have k21 : ai_hv t116 22 1 = some (.inl 0) := (e116 22 1 (by first | decide | omega)).trans k1_111
  have k22 : ai_hv t116 22 2 = some (.inl 0) := (e116 22 2 (by first | decide | omega)).trans k2_111
  refine ex_go (S := (50, [(1, .inl 1), (0, gx_r 0)], [], t116, n, 0)) rfl (fun _ => rfl) rfl ?_
  refine ex_go (S := (35, [(1, .inl 1), (0, gx_r 0)], [], t116, n, 0)) rfl (fun _ => rfl) rfl ?_
  refine ex_go (S := (36, [(1, .inl 1), (0, gx_r 0)], [.inl 1], t116, n, 0)) rfl (fun _ => rfl) rfl ?_
  refine ex_go (S := (37, [(1, .inl 1), (0, gx_r 0)], [.inl 4, .inl 1], t116, n, 0)) rfl (fun _ => rfl) rfl ?_
  refine ex_go (S := (40, [(1, .inl 1), (0, gx_r 0)], [], t116, n, 0)) rfl (fun _ => rfl) rfl ?_
  refine ex_go (S := (41, [(1, .inl 1), (0, gx_r 0)], [gx_r 0], t116, n, 0)) rfl (fun _ => rfl) rfl ?_
  refine gxo_ref (a := 0) (c := 138) rfl g116 rfl rfl rfl rfl rfl ?_
  refine ex_go (S := (45, [(1, .inl 1), (0, gx_r 0)], [.inl 1, gx_r 138], t116, n, 0)) rfl (fun _ => rfl) rfl ?_
  refine ex_go (S := (46, [(1, .inl 1), (0, gx_r 0)], [.inl 0, .inl 1, gx_r 138], t116, n, 0)) rfl (fun _ => rfl) rfl ?_
  refine gx_apv (d := 2) rfl (fun _ => rfl) g116 rfl rfl rfl (show 1 < 4 from by omega) rfl (ai_in_h (by first | decide | omega) (by first | decide | omega) (by first | decide | omega)) rfl (fun t123 g123 k123 e123 => ?_)
  have k24 : ai_hv t123 0 10 = some (gx_r 257) := (e123 0 10 (by first | decide | omega)).trans k17
  have k25 : ai_hv t123 0 12 = some (gx_r 323) := (e123 0 12 (by first | decide | omega)).trans k18
  have k26 : ai_hv t123 323 5 = some (.inl 0) := (e123 323 5 (by first | decide | omega)).trans k19
  have k27 : ai_hv t123 139 0 = some (.inl 0) := (e123 139 0 (by first | decide | omega)).trans k20
  have k28 : ai_hv t123 22 1 = some (.inl 0) := (e123 22 1 (by first | decide | omega)).trans k21
  have k29 : ai_hv t123 22 2 = some (.inl 0) := (e123 22 2 (by first | decide | omega)).trans k22
  have k30 : ai_hv t123 138 0 = some (.inl 0) := (e123 138 0 (by first | decide | omega)).trans k116
  refine ex_go (S := (50, [(1, .inl 2), (0, gx_r 0)], [], t123, n, 0)) rfl (fun _ => rfl) rfl ?_
  refine ex_go (S := (35, [(1, .inl 2), (0, gx_r 0)], [], t123, n, 0)) rfl (fun _ => rfl) rfl ?_
  refine ex_go (S := (36, [(1, .inl 2), (0, gx_r 0)], [.inl 2], t123, n, 0)) rfl (fun _ => rfl) rfl ?_
  refine ex_go (S := (37, [(1, .inl 2), (0, gx_r 0)], [.inl 4, .inl 2], t123, n, 0)) rfl (fun _ => rfl) rfl ?_
  refine ex_go (S := (40, [(1, .inl 2), (0, gx_r 0)], [], t123, n, 0)) rfl (fun _ => rfl) rfl ?_
  refine ex_go (S := (41, [(1, .inl 2), (0, gx_r 0)], [gx_r 0], t123, n, 0)) rfl (fun _ => rfl) rfl ?_
  refine gxo_ref (a := 0) (c := 138) rfl g123 rfl rfl rfl rfl rfl ?_
  refine ex_go (S := (45, [(1, .inl 2), (0, gx_r 0)], [.inl 2, gx_r 138], t123, n, 0)) rfl (fun _ => rfl) rfl ?_
  refine ex_go (S := (46, [(1, .inl 2), (0, gx_r 0)], [.inl 0, .inl 2, gx_r 138], t123, n, 0)) rfl (fun _ => rfl) rfl ?_
  refine gx_apv (d := 2) rfl (fun _ => rfl) g123 rfl rfl rfl (show 2 < 4 from by omega) rfl (ai_in_h (by first | decide | omega) (by first | decide | omega) (by first | decide | omega)) rfl (fun t131 g131 k131 e131 => ?_)
  have k32 : ai_hv t131 0 10 = some (gx_r 257) := (e131 0 10 (by first | decide | omega)).trans k24
  have k33 : ai_hv t131 0 12 = some (gx_r 323) := (e131 0 12 (by first | decide | omega)).trans k25
  have k34 : ai_hv t131 323 5 = some (.inl 0) := (e131 323 5 (by first | decide | omega)).trans k26
  have k35 : ai_hv t131 139 0 = some (.inl 0) := (e131 139 0 (by first | decide | omega)).trans k27
  have k36 : ai_hv t131 22 1 = some (.inl 0) := (e131 22 1 (by first | decide | omega)).trans k28
  have k37 : ai_hv t131 22 2 = some (.inl 0) := (e131 22 2 (by first | decide | omega)).trans k29
  have k38 : ai_hv t131 138 0 = some (.inl 0) := (e131 138 0 (by first | decide | omega)).trans k30
  have k39 : ai_hv t131 138 1 = some (.inl 0) := (e131 138 1 (by first | decide | omega)).trans k123
  refine ex_go (S := (50, [(1, .inl 3), (0, gx_r 0)], [], t131, n, 0)) rfl (fun _ => rfl) rfl ?_
  refine ex_go (S := (35, [(1, .inl 3), (0, gx_r 0)], [], t131, n, 0)) rfl (fun _ => rfl) rfl ?_
  refine ex_go (S := (36, [(1, .inl 3), (0, gx_r 0)], [.inl 3], t131, n, 0)) rfl (fun _ => rfl) rfl ?_
  refine ex_go (S := (37, [(1, .inl 3), (0, gx_r 0)], [.inl 4, .inl 3], t131, n, 0)) rfl (fun _ => rfl) rfl ?_
  refine ex_go (S := (40, [(1, .inl 3), (0, gx_r 0)], [], t131, n, 0)) rfl (fun _ => rfl) rfl ?_
  refine ex_go (S := (41, [(1, .inl 3), (0, gx_r 0)], [gx_r 0], t131, n, 0)) rfl (fun _ => rfl) rfl ?_
  refine gxo_ref (a := 0) (c := 138) rfl g131 rfl rfl rfl rfl rfl ?_
  refine ex_go (S := (45, [(1, .inl 3), (0, gx_r 0)], [.inl 3, gx_r 138], t131, n, 0)) rfl (fun _ => rfl) rfl ?_
  refine ex_go (S := (46, [(1, .inl 3), (0, gx_r 0)], [.inl 0, .inl 3, gx_r 138], t131, n, 0)) rfl (fun _ => rfl) rfl ?_
  refine gx_apv (d := 2) rfl (fun _ => rfl) g131 rfl rfl rfl (show 3 < 4 from by omega) rfl (ai_in_h (by first | decide | omega) (by first | decide | omega) (by first | decide | omega)) rfl (fun t140 g140 k140 e140 => ?_)
  have k41 : ai_hv t140 0 10 = some (gx_r 257) := (e140 0 10 (by first | decide | omega)).trans k32
  have k42 : ai_hv t140 0 12 = some (gx_r 323) := (e140 0 12 (by first | decide | omega)).trans k33
  have k43 : ai_hv t140 323 5 = some (.inl 0) := (e140 323 5 (by first | decide | omega)).trans k34
  have k44 : ai_hv t140 139 0 = some (.inl 0) := (e140 139 0 (by first | decide | omega)).trans k35
  have k45 : ai_hv t140 22 1 = some (.inl 0) := (e140 22 1 (by first | decide | omega)).trans k36
  have k46 : ai_hv t140 22 2 = some (.inl 0) := (e140 22 2 (by first | decide | omega)).trans k37
  have k47 : ai_hv t140 138 0 = some (.inl 0) := (e140 138 0 (by first | decide | omega)).trans k38
  have k48 : ai_hv t140 138 1 = some (.inl 0) := (e140 138 1 (by first | decide | omega)).trans k39
  have k49 : ai_hv t140 138 2 = some (.inl 0) := (e140 138 2 (by first | decide | omega)).trans k131
  refine ex_go (S := (50, [(1, .inl 4), (0, gx_r 0)], [], t140, n, 0)) rfl (fun _ => rfl) rfl ?_
  refine ex_go (S := (35, [(1, .inl 4), (0, gx_r 0)], [], t140, n, 0)) rfl (fun _ => rfl) rfl ?_
  refine ex_go (S := (36, [(1, .inl 4), (0, gx_r 0)], [.inl 4], t140, n, 0)) rfl (fun _ => rfl) rfl ?_
  refine ex_go (S := (37, [(1, .inl 4), (0, gx_r 0)], [.inl 4, .inl 4], t140, n, 0)) rfl (fun _ => rfl) rfl ?_
  refine ex_go (S := (53, [(1, .inl 4), (0, gx_r 0)], [], t140, n, 0)) rfl (fun _ => rfl) rfl ?_
  refine ex_ret (r := (none, t140, n, 0)) rfl (fun _ => rfl) ?_
  refine ⟨_, rfl, t140, rfl, g140, (fun c i h => (e140 c i (by first | decide | omega)).trans ((e131 c i (by first | decide | omega)).trans ((e123 c i (by first | decide | omega)).trans ((e116 c i (by first | decide | omega)).trans ((e111 c i (by first | decide | omega)).trans ((e107 c i (by first | decide | omega)).trans ((e104 c i (by first | decide | omega)).trans (e101 c i (by first | decide | omega))))))))), (e140 8 0 (by first | decide | omega)).trans ((e131 8 0 (by first | decide | omega)).trans ((e123 8 0 (by first | decide | omega)).trans ((e116 8 0 (by first | decide | omega)).trans ((e111 8 0 (by first | decide | omega)).trans ((e107 8 0 (by first | decide | omega)).trans ((e104 8 0 (by first | decide | omega)).trans (y0))))))), (fun T9 h9 i hi => ?_), (fun K9 h9 c hc => ?_), k43, k44, k45, k46, fun i hi => ?_⟩
  · have h8 : T9 = T := Sum.inl.inj (Option.some.inj (h9.symm.trans ((e140 260 5 (by first | decide | omega)).trans ((e131 260 5 (by first | decide | omega)).trans ((e123 260 5 (by first | decide | omega)).trans ((e116 260 5 (by first | decide | omega)).trans ((e111 260 5 (by first | decide | omega)).trans ((e107 260 5 (by first | decide | omega)).trans ((e104 260 5 (by first | decide | omega)).trans ((e101 260 5 (by first | decide | omega)).trans (kT)))))))))))
    subst h8
    exact ((e140 9 i (by first | decide | omega)).trans ((e131 9 i (by first | decide | omega)).trans ((e123 9 i (by first | decide | omega)).trans ((e116 9 i (by first | decide | omega)).trans ((e111 9 i (by first | decide | omega)).trans ((e107 9 i (by first | decide | omega)).trans ((e104 9 i (by first | decide | omega)).trans (y1 i hi)))))))).trans (((e140 263 i (by first | decide | omega)).trans ((e131 263 i (by first | decide | omega)).trans ((e123 263 i (by first | decide | omega)).trans ((e116 263 i (by first | decide | omega)).trans ((e111 263 i (by first | decide | omega)).trans ((e107 263 i (by first | decide | omega)).trans ((e104 263 i (by first | decide | omega)).trans (e101 263 i (by first | decide | omega))))))))).trans (kP i hi)).symm
  · have h8 : K9 = K := Sum.inl.inj (Option.some.inj (h9.symm.trans ((e140 272 5 (by first | decide | omega)).trans ((e131 272 5 (by first | decide | omega)).trans ((e123 272 5 (by first | decide | omega)).trans ((e116 272 5 (by first | decide | omega)).trans ((e111 272 5 (by first | decide | omega)).trans ((e107 272 5 (by first | decide | omega)).trans ((e104 272 5 (by first | decide | omega)).trans ((e101 272 5 (by first | decide | omega)).trans (kK)))))))))))
    subst h8
    obtain ⟨z0, z1, z2, z3, z4⟩ := y2 c hc
    exact ⟨((e140 10 c (by first | decide | omega)).trans ((e131 10 c (by first | decide | omega)).trans ((e123 10 c (by first | decide | omega)).trans ((e116 10 c (by first | decide | omega)).trans ((e111 10 c (by first | decide | omega)).trans ((e107 10 c (by first | decide | omega)).trans ((e104 10 c (by first | decide | omega)).trans (z0)))))))).trans (((e140 276 c (by first | decide | omega)).trans ((e131 276 c (by first | decide | omega)).trans ((e123 276 c (by first | decide | omega)).trans ((e116 276 c (by first | decide | omega)).trans ((e111 276 c (by first | decide | omega)).trans ((e107 276 c (by first | decide | omega)).trans ((e104 276 c (by first | decide | omega)).trans (e101 276 c (by first | decide | omega))))))))).trans (kB c hc)).symm, (e140 11 c (by first | decide | omega)).trans ((e131 11 c (by first | decide | omega)).trans ((e123 11 c (by first | decide | omega)).trans ((e116 11 c (by first | decide | omega)).trans ((e111 11 c (by first | decide | omega)).trans ((e107 11 c (by first | decide | omega)).trans ((e104 11 c (by first | decide | omega)).trans (z1))))))), (e140 12 c (by first | decide | omega)).trans ((e131 12 c (by first | decide | omega)).trans ((e123 12 c (by first | decide | omega)).trans ((e116 12 c (by first | decide | omega)).trans ((e111 12 c (by first | decide | omega)).trans ((e107 12 c (by first | decide | omega)).trans ((e104 12 c (by first | decide | omega)).trans (z2))))))), (e140 13 c (by first | decide | omega)).trans ((e131 13 c (by first | decide | omega)).trans ((e123 13 c (by first | decide | omega)).trans ((e116 13 c (by first | decide | omega)).trans ((e111 13 c (by first | decide | omega)).trans ((e107 13 c (by first | decide | omega)).trans ((e104 13 c (by first | decide | omega)).trans (z3))))))), (e140 14 c (by first | decide | omega)).trans ((e131 14 c (by first | decide | omega)).trans ((e123 14 c (by first | decide | omega)).trans ((e116 14 c (by first | decide | omega)).trans ((e111 14 c (by first | decide | omega)).trans ((e107 14 c (by first | decide | omega)).trans ((e104 14 c (by first | decide | omega)).trans (z4)))))))⟩
  · rcases (show i = 0 ∨ i = 1 ∨ i = 2 ∨ i = 3 by omega) with rfl | rfl | rfl | rfl
    · exact k47
    · exact k48
    · exact k49
    · exact k140
theorem pc_beginPack257_329 (d n : Nat) {t0 : en_H} (g0 : ai_HG ah_G t0) (k10 : ai_hv t0 0 10 = some (gx_r 257)) (k12 : ai_hv t0 0 12 = some (gx_r 329)) : ∃ r, en_u (d + 3) 21 [gx_r 0] t0 n = some r ∧ ∃ t', r = (none, t', n, 0) ∧ ai_HG ah_G t' ∧ (∀ c i, ¬ ((8 ≤ c ∧ c ≤ 14) ∨ c = 22 ∨ c = 138 ∨ c = 139 ∨ c = 329) → ai_hv t' c i = ai_hv t0 c i) ∧ CBg t' 257 329 := by
  obtain ⟨T, K, P, B, hT, kT, kP, hP, hK, kK, kB, hB⟩ := pc_TPKB g0 (a := 260) (b := 263) (c := 272) (d := 276) rfl (by decide) rfl rfl rfl (fun i hi => gx_run1 hi) rfl (by decide) rfl rfl rfl (fun i hi => gx_run1 hi)
  refine en_u_ex (d := d + 2) rfl ?_
  show en_ex _ _ _ _ (0, [(0, gx_r 0)], [], t0, n, 0) _
  refine ex_go (S := (1, [(0, gx_r 0)], [gx_r 0], t0, n, 0)) rfl (fun _ => rfl) rfl ?_
  refine gxo_ref (a := 0) (c := 8) rfl g0 rfl rfl rfl rfl rfl ?_
  refine ex_go (S := (5, [(0, gx_r 0)], [gx_r 0, gx_r 8], t0, n, 0)) rfl (fun _ => rfl) rfl ?_
  refine gxo_get (a := 0) rfl g0 rfl rfl k10 rfl ?_
  obtain ⟨_, r101, t101, rfl, g101, e101, y0, y1, y2⟩ := pc_begin8_257 d n g0 hT kT kP hP hK kK kB hB
  refine gx_callo (a := 8) rfl rfl g0 rfl rfl rfl r101 rfl ?_
  have k2 : ai_hv t101 0 10 = some (gx_r 257) := (e101 0 10 (by first | decide | omega)).trans k10
  have k3 : ai_hv t101 0 12 = some (gx_r 329) := (e101 0 12 (by first | decide | omega)).trans k12
  show en_ex _ _ _ _ (11, [(0, gx_r 0)], [], t101, n, 0) _
  refine ex_go (S := (12, [(0, gx_r 0)], [gx_r 0], t101, n, 0)) rfl (fun _ => rfl) rfl ?_
  refine gxo_get (a := 0) rfl g101 rfl rfl k3 rfl ?_
  obtain ⟨_, r104, t104, rfl, g104, e104, k1_104⟩ := pz_rclear329 (d + 1) n g101
  refine gx_callo (a := 329) rfl rfl g101 rfl rfl rfl r104 rfl ?_
  have k5 : ai_hv t104 0 10 = some (gx_r 257) := (e104 0 10 (by first | decide | omega)).trans k2
  have k6 : ai_hv t104 0 12 = some (gx_r 329) := (e104 0 12 (by first | decide | omega)).trans k3
  show en_ex _ _ _ _ (18, [(0, gx_r 0)], [], t104, n, 0) _
  refine ex_go (S := (19, [(0, gx_r 0)], [gx_r 0], t104, n, 0)) rfl (fun _ => rfl) rfl ?_
  refine gxo_ref (a := 0) (c := 139) rfl g104 rfl rfl rfl rfl rfl ?_
  refine ex_go (S := (23, [(0, gx_r 0)], [.inl 0, gx_r 139], t104, n, 0)) rfl (fun _ => rfl) rfl ?_
  refine gxo_put (a := 139) rfl g104 rfl rfl rfl (ai_in_h (by first | decide | omega) (by first | decide | omega) (by first | decide | omega)) rfl (fun t107 g107 k107 e107 => ?_)
  have k8 : ai_hv t107 0 10 = some (gx_r 257) := (e107 0 10 (by first | decide | omega)).trans k5
  have k9 : ai_hv t107 0 12 = some (gx_r 329) := (e107 0 12 (by first | decide | omega)).trans k6
  have k10 : ai_hv t107 329 5 = some (.inl 0) := (e107 329 5 (by first | decide | omega)).trans k1_104
  refine ex_go (S := (27, [(0, gx_r 0)], [gx_r 0], t107, n, 0)) rfl (fun _ => rfl) rfl ?_
  refine gxo_ref (a := 0) (c := 22) rfl g107 rfl rfl rfl rfl rfl ?_
  obtain ⟨_, r111, t111, rfl, g111, e111, k1_111, k2_111⟩ := pz_pclear (d + 1) n g107
  refine gx_callo (a := 22) rfl rfl g107 rfl rfl rfl r111 rfl ?_
  have k12 : ai_hv t111 0 10 = some (gx_r 257) := (e111 0 10 (by first | decide | omega)).trans k8
  have k13 : ai_hv t111 0 12 = some (gx_r 329) := (e111 0 12 (by first | decide | omega)).trans k9
  have k14 : ai_hv t111 329 5 = some (.inl 0) := (e111 329 5 (by first | decide | omega)).trans k10
  have k15 : ai_hv t111 139 0 = some (.inl 0) := (e111 139 0 (by first | decide | omega)).trans k107
  show en_ex _ _ _ _ (33, [(0, gx_r 0)], [], t111, n, 0) _
  refine ex_go (S := (34, [(0, gx_r 0)], [.inl 0], t111, n, 0)) rfl (fun _ => rfl) rfl ?_
  refine ex_go (S := (35, [(1, .inl 0), (0, gx_r 0)], [], t111, n, 0)) rfl (fun _ => rfl) rfl ?_
  refine ex_go (S := (36, [(1, .inl 0), (0, gx_r 0)], [.inl 0], t111, n, 0)) rfl (fun _ => rfl) rfl ?_
  refine ex_go (S := (37, [(1, .inl 0), (0, gx_r 0)], [.inl 4, .inl 0], t111, n, 0)) rfl (fun _ => rfl) rfl ?_
  refine ex_go (S := (40, [(1, .inl 0), (0, gx_r 0)], [], t111, n, 0)) rfl (fun _ => rfl) rfl ?_
  refine ex_go (S := (41, [(1, .inl 0), (0, gx_r 0)], [gx_r 0], t111, n, 0)) rfl (fun _ => rfl) rfl ?_
  refine gxo_ref (a := 0) (c := 138) rfl g111 rfl rfl rfl rfl rfl ?_
  refine ex_go (S := (45, [(1, .inl 0), (0, gx_r 0)], [.inl 0, gx_r 138], t111, n, 0)) rfl (fun _ => rfl) rfl ?_
  refine ex_go (S := (46, [(1, .inl 0), (0, gx_r 0)], [.inl 0, .inl 0, gx_r 138], t111, n, 0)) rfl (fun _ => rfl) rfl ?_
  refine gx_apv (d := 2) rfl (fun _ => rfl) g111 rfl rfl rfl (show 0 < 4 from by omega) rfl (ai_in_h (by first | decide | omega) (by first | decide | omega) (by first | decide | omega)) rfl (fun t116 g116 k116 e116 => ?_)
  have k17 : ai_hv t116 0 10 = some (gx_r 257) := (e116 0 10 (by first | decide | omega)).trans k12
  have k18 : ai_hv t116 0 12 = some (gx_r 329) := (e116 0 12 (by first | decide | omega)).trans k13
  have k19 : ai_hv t116 329 5 = some (.inl 0) := (e116 329 5 (by first | decide | omega)).trans k14
  have k20 : ai_hv t116 139 0 = some (.inl 0) := (e116 139 0 (by first | decide | omega)).trans k15
  have k21 : ai_hv t116 22 1 = some (.inl 0) := (e116 22 1 (by first | decide | omega)).trans k1_111
  have k22 : ai_hv t116 22 2 = some (.inl 0) := (e116 22 2 (by first | decide | omega)).trans k2_111
  refine ex_go (S := (50, [(1, .inl 1), (0, gx_r 0)], [], t116, n, 0)) rfl (fun _ => rfl) rfl ?_
  refine ex_go (S := (35, [(1, .inl 1), (0, gx_r 0)], [], t116, n, 0)) rfl (fun _ => rfl) rfl ?_
  refine ex_go (S := (36, [(1, .inl 1), (0, gx_r 0)], [.inl 1], t116, n, 0)) rfl (fun _ => rfl) rfl ?_
  refine ex_go (S := (37, [(1, .inl 1), (0, gx_r 0)], [.inl 4, .inl 1], t116, n, 0)) rfl (fun _ => rfl) rfl ?_
  refine ex_go (S := (40, [(1, .inl 1), (0, gx_r 0)], [], t116, n, 0)) rfl (fun _ => rfl) rfl ?_
  refine ex_go (S := (41, [(1, .inl 1), (0, gx_r 0)], [gx_r 0], t116, n, 0)) rfl (fun _ => rfl) rfl ?_
  refine gxo_ref (a := 0) (c := 138) rfl g116 rfl rfl rfl rfl rfl ?_
  refine ex_go (S := (45, [(1, .inl 1), (0, gx_r 0)], [.inl 1, gx_r 138], t116, n, 0)) rfl (fun _ => rfl) rfl ?_
  refine ex_go (S := (46, [(1, .inl 1), (0, gx_r 0)], [.inl 0, .inl 1, gx_r 138], t116, n, 0)) rfl (fun _ => rfl) rfl ?_
  refine gx_apv (d := 2) rfl (fun _ => rfl) g116 rfl rfl rfl (show 1 < 4 from by omega) rfl (ai_in_h (by first | decide | omega) (by first | decide | omega) (by first | decide | omega)) rfl (fun t123 g123 k123 e123 => ?_)
  have k24 : ai_hv t123 0 10 = some (gx_r 257) := (e123 0 10 (by first | decide | omega)).trans k17
  have k25 : ai_hv t123 0 12 = some (gx_r 329) := (e123 0 12 (by first | decide | omega)).trans k18
  have k26 : ai_hv t123 329 5 = some (.inl 0) := (e123 329 5 (by first | decide | omega)).trans k19
  have k27 : ai_hv t123 139 0 = some (.inl 0) := (e123 139 0 (by first | decide | omega)).trans k20
  have k28 : ai_hv t123 22 1 = some (.inl 0) := (e123 22 1 (by first | decide | omega)).trans k21
  have k29 : ai_hv t123 22 2 = some (.inl 0) := (e123 22 2 (by first | decide | omega)).trans k22
  have k30 : ai_hv t123 138 0 = some (.inl 0) := (e123 138 0 (by first | decide | omega)).trans k116
  refine ex_go (S := (50, [(1, .inl 2), (0, gx_r 0)], [], t123, n, 0)) rfl (fun _ => rfl) rfl ?_
  refine ex_go (S := (35, [(1, .inl 2), (0, gx_r 0)], [], t123, n, 0)) rfl (fun _ => rfl) rfl ?_
  refine ex_go (S := (36, [(1, .inl 2), (0, gx_r 0)], [.inl 2], t123, n, 0)) rfl (fun _ => rfl) rfl ?_
  refine ex_go (S := (37, [(1, .inl 2), (0, gx_r 0)], [.inl 4, .inl 2], t123, n, 0)) rfl (fun _ => rfl) rfl ?_
  refine ex_go (S := (40, [(1, .inl 2), (0, gx_r 0)], [], t123, n, 0)) rfl (fun _ => rfl) rfl ?_
  refine ex_go (S := (41, [(1, .inl 2), (0, gx_r 0)], [gx_r 0], t123, n, 0)) rfl (fun _ => rfl) rfl ?_
  refine gxo_ref (a := 0) (c := 138) rfl g123 rfl rfl rfl rfl rfl ?_
  refine ex_go (S := (45, [(1, .inl 2), (0, gx_r 0)], [.inl 2, gx_r 138], t123, n, 0)) rfl (fun _ => rfl) rfl ?_
  refine ex_go (S := (46, [(1, .inl 2), (0, gx_r 0)], [.inl 0, .inl 2, gx_r 138], t123, n, 0)) rfl (fun _ => rfl) rfl ?_
  refine gx_apv (d := 2) rfl (fun _ => rfl) g123 rfl rfl rfl (show 2 < 4 from by omega) rfl (ai_in_h (by first | decide | omega) (by first | decide | omega) (by first | decide | omega)) rfl (fun t131 g131 k131 e131 => ?_)
  have k32 : ai_hv t131 0 10 = some (gx_r 257) := (e131 0 10 (by first | decide | omega)).trans k24
  have k33 : ai_hv t131 0 12 = some (gx_r 329) := (e131 0 12 (by first | decide | omega)).trans k25
  have k34 : ai_hv t131 329 5 = some (.inl 0) := (e131 329 5 (by first | decide | omega)).trans k26
  have k35 : ai_hv t131 139 0 = some (.inl 0) := (e131 139 0 (by first | decide | omega)).trans k27
  have k36 : ai_hv t131 22 1 = some (.inl 0) := (e131 22 1 (by first | decide | omega)).trans k28
  have k37 : ai_hv t131 22 2 = some (.inl 0) := (e131 22 2 (by first | decide | omega)).trans k29
  have k38 : ai_hv t131 138 0 = some (.inl 0) := (e131 138 0 (by first | decide | omega)).trans k30
  have k39 : ai_hv t131 138 1 = some (.inl 0) := (e131 138 1 (by first | decide | omega)).trans k123
  refine ex_go (S := (50, [(1, .inl 3), (0, gx_r 0)], [], t131, n, 0)) rfl (fun _ => rfl) rfl ?_
  refine ex_go (S := (35, [(1, .inl 3), (0, gx_r 0)], [], t131, n, 0)) rfl (fun _ => rfl) rfl ?_
  refine ex_go (S := (36, [(1, .inl 3), (0, gx_r 0)], [.inl 3], t131, n, 0)) rfl (fun _ => rfl) rfl ?_
  refine ex_go (S := (37, [(1, .inl 3), (0, gx_r 0)], [.inl 4, .inl 3], t131, n, 0)) rfl (fun _ => rfl) rfl ?_
  refine ex_go (S := (40, [(1, .inl 3), (0, gx_r 0)], [], t131, n, 0)) rfl (fun _ => rfl) rfl ?_
  refine ex_go (S := (41, [(1, .inl 3), (0, gx_r 0)], [gx_r 0], t131, n, 0)) rfl (fun _ => rfl) rfl ?_
  refine gxo_ref (a := 0) (c := 138) rfl g131 rfl rfl rfl rfl rfl ?_
  refine ex_go (S := (45, [(1, .inl 3), (0, gx_r 0)], [.inl 3, gx_r 138], t131, n, 0)) rfl (fun _ => rfl) rfl ?_
  refine ex_go (S := (46, [(1, .inl 3), (0, gx_r 0)], [.inl 0, .inl 3, gx_r 138], t131, n, 0)) rfl (fun _ => rfl) rfl ?_
  refine gx_apv (d := 2) rfl (fun _ => rfl) g131 rfl rfl rfl (show 3 < 4 from by omega) rfl (ai_in_h (by first | decide | omega) (by first | decide | omega) (by first | decide | omega)) rfl (fun t140 g140 k140 e140 => ?_)
  have k41 : ai_hv t140 0 10 = some (gx_r 257) := (e140 0 10 (by first | decide | omega)).trans k32
  have k42 : ai_hv t140 0 12 = some (gx_r 329) := (e140 0 12 (by first | decide | omega)).trans k33
  have k43 : ai_hv t140 329 5 = some (.inl 0) := (e140 329 5 (by first | decide | omega)).trans k34
  have k44 : ai_hv t140 139 0 = some (.inl 0) := (e140 139 0 (by first | decide | omega)).trans k35
  have k45 : ai_hv t140 22 1 = some (.inl 0) := (e140 22 1 (by first | decide | omega)).trans k36
  have k46 : ai_hv t140 22 2 = some (.inl 0) := (e140 22 2 (by first | decide | omega)).trans k37
  have k47 : ai_hv t140 138 0 = some (.inl 0) := (e140 138 0 (by first | decide | omega)).trans k38
  have k48 : ai_hv t140 138 1 = some (.inl 0) := (e140 138 1 (by first | decide | omega)).trans k39
  have k49 : ai_hv t140 138 2 = some (.inl 0) := (e140 138 2 (by first | decide | omega)).trans k131
  refine ex_go (S := (50, [(1, .inl 4), (0, gx_r 0)], [], t140, n, 0)) rfl (fun _ => rfl) rfl ?_
  refine ex_go (S := (35, [(1, .inl 4), (0, gx_r 0)], [], t140, n, 0)) rfl (fun _ => rfl) rfl ?_
  refine ex_go (S := (36, [(1, .inl 4), (0, gx_r 0)], [.inl 4], t140, n, 0)) rfl (fun _ => rfl) rfl ?_
  refine ex_go (S := (37, [(1, .inl 4), (0, gx_r 0)], [.inl 4, .inl 4], t140, n, 0)) rfl (fun _ => rfl) rfl ?_
  refine ex_go (S := (53, [(1, .inl 4), (0, gx_r 0)], [], t140, n, 0)) rfl (fun _ => rfl) rfl ?_
  refine ex_ret (r := (none, t140, n, 0)) rfl (fun _ => rfl) ?_
  refine ⟨_, rfl, t140, rfl, g140, (fun c i h => (e140 c i (by first | decide | omega)).trans ((e131 c i (by first | decide | omega)).trans ((e123 c i (by first | decide | omega)).trans ((e116 c i (by first | decide | omega)).trans ((e111 c i (by first | decide | omega)).trans ((e107 c i (by first | decide | omega)).trans ((e104 c i (by first | decide | omega)).trans (e101 c i (by first | decide | omega))))))))), (e140 8 0 (by first | decide | omega)).trans ((e131 8 0 (by first | decide | omega)).trans ((e123 8 0 (by first | decide | omega)).trans ((e116 8 0 (by first | decide | omega)).trans ((e111 8 0 (by first | decide | omega)).trans ((e107 8 0 (by first | decide | omega)).trans ((e104 8 0 (by first | decide | omega)).trans (y0))))))), (fun T9 h9 i hi => ?_), (fun K9 h9 c hc => ?_), k43, k44, k45, k46, fun i hi => ?_⟩
  · have h8 : T9 = T := Sum.inl.inj (Option.some.inj (h9.symm.trans ((e140 260 5 (by first | decide | omega)).trans ((e131 260 5 (by first | decide | omega)).trans ((e123 260 5 (by first | decide | omega)).trans ((e116 260 5 (by first | decide | omega)).trans ((e111 260 5 (by first | decide | omega)).trans ((e107 260 5 (by first | decide | omega)).trans ((e104 260 5 (by first | decide | omega)).trans ((e101 260 5 (by first | decide | omega)).trans (kT)))))))))))
    subst h8
    exact ((e140 9 i (by first | decide | omega)).trans ((e131 9 i (by first | decide | omega)).trans ((e123 9 i (by first | decide | omega)).trans ((e116 9 i (by first | decide | omega)).trans ((e111 9 i (by first | decide | omega)).trans ((e107 9 i (by first | decide | omega)).trans ((e104 9 i (by first | decide | omega)).trans (y1 i hi)))))))).trans (((e140 263 i (by first | decide | omega)).trans ((e131 263 i (by first | decide | omega)).trans ((e123 263 i (by first | decide | omega)).trans ((e116 263 i (by first | decide | omega)).trans ((e111 263 i (by first | decide | omega)).trans ((e107 263 i (by first | decide | omega)).trans ((e104 263 i (by first | decide | omega)).trans (e101 263 i (by first | decide | omega))))))))).trans (kP i hi)).symm
  · have h8 : K9 = K := Sum.inl.inj (Option.some.inj (h9.symm.trans ((e140 272 5 (by first | decide | omega)).trans ((e131 272 5 (by first | decide | omega)).trans ((e123 272 5 (by first | decide | omega)).trans ((e116 272 5 (by first | decide | omega)).trans ((e111 272 5 (by first | decide | omega)).trans ((e107 272 5 (by first | decide | omega)).trans ((e104 272 5 (by first | decide | omega)).trans ((e101 272 5 (by first | decide | omega)).trans (kK)))))))))))
    subst h8
    obtain ⟨z0, z1, z2, z3, z4⟩ := y2 c hc
    exact ⟨((e140 10 c (by first | decide | omega)).trans ((e131 10 c (by first | decide | omega)).trans ((e123 10 c (by first | decide | omega)).trans ((e116 10 c (by first | decide | omega)).trans ((e111 10 c (by first | decide | omega)).trans ((e107 10 c (by first | decide | omega)).trans ((e104 10 c (by first | decide | omega)).trans (z0)))))))).trans (((e140 276 c (by first | decide | omega)).trans ((e131 276 c (by first | decide | omega)).trans ((e123 276 c (by first | decide | omega)).trans ((e116 276 c (by first | decide | omega)).trans ((e111 276 c (by first | decide | omega)).trans ((e107 276 c (by first | decide | omega)).trans ((e104 276 c (by first | decide | omega)).trans (e101 276 c (by first | decide | omega))))))))).trans (kB c hc)).symm, (e140 11 c (by first | decide | omega)).trans ((e131 11 c (by first | decide | omega)).trans ((e123 11 c (by first | decide | omega)).trans ((e116 11 c (by first | decide | omega)).trans ((e111 11 c (by first | decide | omega)).trans ((e107 11 c (by first | decide | omega)).trans ((e104 11 c (by first | decide | omega)).trans (z1))))))), (e140 12 c (by first | decide | omega)).trans ((e131 12 c (by first | decide | omega)).trans ((e123 12 c (by first | decide | omega)).trans ((e116 12 c (by first | decide | omega)).trans ((e111 12 c (by first | decide | omega)).trans ((e107 12 c (by first | decide | omega)).trans ((e104 12 c (by first | decide | omega)).trans (z2))))))), (e140 13 c (by first | decide | omega)).trans ((e131 13 c (by first | decide | omega)).trans ((e123 13 c (by first | decide | omega)).trans ((e116 13 c (by first | decide | omega)).trans ((e111 13 c (by first | decide | omega)).trans ((e107 13 c (by first | decide | omega)).trans ((e104 13 c (by first | decide | omega)).trans (z3))))))), (e140 14 c (by first | decide | omega)).trans ((e131 14 c (by first | decide | omega)).trans ((e123 14 c (by first | decide | omega)).trans ((e116 14 c (by first | decide | omega)).trans ((e111 14 c (by first | decide | omega)).trans ((e107 14 c (by first | decide | omega)).trans ((e104 14 c (by first | decide | omega)).trans (z4)))))))⟩
  · rcases (show i = 0 ∨ i = 1 ∨ i = 2 ∨ i = 3 by omega) with rfl | rfl | rfl | rfl
    · exact k47
    · exact k48
    · exact k49
    · exact k140
theorem rp_frame191 {d n : Nat} {t t' : en_H} {v : Option en_V} (g0 : ai_HG ah_G t) (hE : ai_E t) (h28 : c28 t 257) (h : en_u (d + 41) 92 [gx_r 7, gx_r 191] t n = some (v, t', n, 0)) : ∀ c i, ¬ (c = 1 ∨ (3 ≤ c ∧ c ≤ 7) ∨ (191 ≤ c ∧ c ≤ 256)) → ai_hv t' c i = ai_hv t c i := by
  obtain ⟨⟨rv, rt, rn, rs⟩, r1, -, -, -, fr, -⟩ := ac_all (d + 41) 92 ce_92_1 (show ce_92_1 ∈ cm_92 from (List.mem_cons_of_mem _ List.mem_cons_self)) (Nat.lt_of_lt_of_le (show ce_92_1.1 < 41 by decide) (by first | decide | omega)) (fun _ => 0) [gx_r 7, gx_r 191] t n ⟨gx_vref 7, gx_vref 191, trivial⟩ g0 h28 hE
  have e1 := Option.some.inj (h.symm.trans r1)
  have e2 : t' = rt := congrArg (fun z => z.2.1) e1
  subst e2
  intro c i hc
  exact fr c i (fun z => by
    obtain ⟨q, hq, m1, -⟩ := z
    have hall : (ct_92_1.2.2.2.1).all (fun q => Nat.beq q.1 1 || (Nat.ble 3 q.1 && Nat.ble q.1 7) || (Nat.ble 191 q.1 && Nat.ble q.1 256)) = true := by decide +kernel
    have h9 := List.all_eq_true.mp hall q hq
    simp only [Bool.or_eq_true, Bool.and_eq_true] at h9
    rcases h9 with (h9 | ⟨h8, h9⟩) | ⟨h8, h9⟩
    · have := Nat.eq_of_beq_eq_true h9; omega
    · have := Nat.le_of_ble_eq_true h8; have := Nat.le_of_ble_eq_true h9; omega
    · have := Nat.le_of_ble_eq_true h8; have := Nat.le_of_ble_eq_true h9; omega)
theorem pc_packB191_0 (d n : Nat) {t0 : en_H} {S : Nat → Nat} {m : Nat} (g0 : ai_HG ah_G t0) (hE : ai_E t0) (h28 : c28 t0 257) (k10 : ai_hv t0 0 10 = some (gx_r 257)) (k11 : ai_hv t0 0 11 = some (gx_r 191)) (k12 : ai_hv t0 0 12 = some (gx_r 323)) (hm : m ≤ 1000) (km : ai_hv t0 1 0 = some (.inl m)) (hS : ∀ i, i < m → ai_hv t0 2 i = some (.inl (S i)) ∧ S i ≤ 127) (hJ : JRw t0 191) : ∃ r, en_u (d + 42) 32 [gx_r 0] t0 n = some r ∧ ∃ v t', r = (some (.inl v), t', n, 0) ∧ (v = 0 → CBg t' 191 323 ∧ NX t' 191) ∧ (v ≠ 0 → ∀ c i, ¬ (c = 1 ∨ (3 ≤ c ∧ c ≤ 7) ∨ (191 ≤ c ∧ c ≤ 256)) → ai_hv t' c i = ai_hv t0 c i) := by
  refine en_u_ex (d := d + 41) rfl ?_
  show en_ex _ _ _ _ (0, [(0, gx_r 0)], [], t0, n, 0) _
  refine ex_go (S := (1, [(0, gx_r 0)], [gx_r 0], t0, n, 0)) rfl (fun _ => rfl) rfl ?_
  refine gxo_ref (a := 0) (c := 7) rfl g0 rfl rfl rfl rfl rfl ?_
  refine ex_go (S := (5, [(0, gx_r 0)], [gx_r 0, gx_r 7], t0, n, 0)) rfl (fun _ => rfl) rfl ?_
  refine gxo_get (a := 0) rfl g0 rfl rfl k11 rfl ?_
  obtain ⟨_, r101, v101, t101, rfl, hv101, g101, -, -, -, N9, -, -, -, hTl⟩ := pc_readPack191 d n (m := m) g0 hE h28 hm km hS hJ
  have e101 := rp_frame191 g0 hE h28 r101
  refine gx_callo (a := 7) rfl rfl g0 rfl rfl rfl r101 rfl ?_
  have k2 : ai_hv t101 0 10 = some (gx_r 257) := (e101 0 10 (by first | decide | omega)).trans k10
  have k3 : ai_hv t101 0 11 = some (gx_r 191) := (e101 0 11 (by first | decide | omega)).trans k11
  have k4 : ai_hv t101 0 12 = some (gx_r 323) := (e101 0 12 (by first | decide | omega)).trans k12
  show en_ex _ _ _ _ (11, [(0, gx_r 0)], [.inl v101], t101, n, 0) _
  refine ex_go (S := (12, [(1, .inl v101), (0, gx_r 0)], [], t101, n, 0)) rfl (fun _ => rfl) rfl ?_
  refine ex_go (S := (13, [(1, .inl v101), (0, gx_r 0)], [.inl v101], t101, n, 0)) rfl (fun _ => rfl) rfl ?_
  by_cases hc5 : v101 = 0
  · refine gx_1t (c := .eq) rfl (by first | decide | omega) hc5 rfl ?_
    refine ex_go (S := (19, [(1, .inl v101), (0, gx_r 0)], [gx_r 0], t101, n, 0)) rfl (fun _ => rfl) rfl ?_
    refine gxo_get (a := 0) rfl g101 rfl rfl k2 rfl ?_
    refine ex_go (S := (23, [(2, gx_r 257), (1, .inl v101), (0, gx_r 0)], [], t101, n, 0)) rfl (fun _ => rfl) rfl ?_
    refine ex_go (S := (24, [(2, gx_r 257), (1, .inl v101), (0, gx_r 0)], [gx_r 0], t101, n, 0)) rfl (fun _ => rfl) rfl ?_
    refine ex_go (S := (25, [(2, gx_r 257), (1, .inl v101), (0, gx_r 0)], [gx_r 0, gx_r 0], t101, n, 0)) rfl (fun _ => rfl) rfl ?_
    refine gxo_get (a := 0) rfl g101 rfl rfl k3 rfl ?_
    refine gxo_putr (a := 0) (h := .inr (.inr [291, 357])) rfl g101 rfl rfl rfl (refin_r (by decide)) rfl (fun t106 g106 k106 e106 => ?_)
    have k7 : ai_hv t106 0 11 = some (gx_r 191) := (e106 0 11 (by first | decide | omega)).trans k3
    have k8 : ai_hv t106 0 12 = some (gx_r 323) := (e106 0 12 (by first | decide | omega)).trans k4
    refine ex_go (S := (32, [(2, gx_r 257), (1, .inl v101), (0, gx_r 0)], [gx_r 0], t106, n, 0)) rfl (fun _ => rfl) rfl ?_
    refine ex_go (S := (33, [(2, gx_r 257), (1, .inl v101), (0, gx_r 0)], [gx_r 257, gx_r 0], t106, n, 0)) rfl (fun _ => rfl) rfl ?_
    refine gxo_putr (a := 0) (h := .inr (.inr [291, 357])) rfl g106 rfl rfl rfl (refin_r (by decide)) rfl (fun t109 g109 k109 e109 => ?_)
    have k10 : ai_hv t109 0 12 = some (gx_r 323) := (e109 0 12 (by first | decide | omega)).trans k8
    have k11 : ai_hv t109 0 10 = some (gx_r 191) := (e109 0 10 (by first | decide | omega)).trans k106
    refine ex_go (S := (37, [(2, gx_r 257), (1, .inl v101), (0, gx_r 0)], [gx_r 0], t109, n, 0)) rfl (fun _ => rfl) rfl ?_
    obtain ⟨_, r112, t112, rfl, g112, e112, hC112⟩ := pc_beginPack191_323 (d + 38) n g109 k11 k10
    refine gx_callo (a := 0) rfl rfl g109 rfl rfl rfl r112 rfl ?_
    have k13 : ai_hv t112 0 12 = some (gx_r 323) := (e112 0 12 (by first | decide | omega)).trans k10
    have k14 : ai_hv t112 0 10 = some (gx_r 191) := (e112 0 10 (by first | decide | omega)).trans k11
    have k15 : ai_hv t112 0 11 = some (gx_r 257) := (e112 0 11 (by first | decide | omega)).trans k109
    show en_ex _ _ _ _ (40, [(2, gx_r 257), (1, .inl v101), (0, gx_r 0)], [], t112, n, 0) _
    refine ex_go (S := (41, [(2, gx_r 257), (1, .inl v101), (0, gx_r 0)], [.inl 0], t112, n, 0)) rfl (fun _ => rfl) rfl ?_
    refine ex_ret (r := (some (.inl 0), t112, n, 0)) rfl (fun _ => rfl) ?_
    exact ⟨_, rfl, 0, t112, rfl, fun _ => ⟨hC112, NX_keep (hTl (by first | decide | omega)).2 (fun c i h => (e112 c i (by first | decide | omega)).trans ((e109 c i (by first | decide | omega)).trans (e106 c i (by first | decide | omega))))⟩, fun z => absurd rfl z⟩
  · refine gx_1f (c := .eq) rfl (by first | decide | omega) hc5 rfl ?_
    refine ex_go (S := (17, [(1, .inl v101), (0, gx_r 0)], [.inl v101], t101, n, 0)) rfl (fun _ => rfl) rfl ?_
    refine ex_ret (r := (some (.inl v101), t101, n, 0)) rfl (fun _ => rfl) ?_
    exact ⟨_, rfl, v101, t101, rfl, (fun z => by omega), fun _ c i h => e101 c i (by first | decide | omega)⟩
theorem pc_packB191_1 (d n : Nat) {t0 : en_H} {S : Nat → Nat} {m : Nat} (g0 : ai_HG ah_G t0) (hE : ai_E t0) (h28 : c28 t0 257) (k10 : ai_hv t0 0 10 = some (gx_r 257)) (k11 : ai_hv t0 0 11 = some (gx_r 191)) (k12 : ai_hv t0 0 12 = some (gx_r 329)) (hm : m ≤ 1000) (km : ai_hv t0 1 0 = some (.inl m)) (hS : ∀ i, i < m → ai_hv t0 2 i = some (.inl (S i)) ∧ S i ≤ 127) (hJ : JRw t0 191) : ∃ r, en_u (d + 42) 32 [gx_r 0] t0 n = some r ∧ ∃ v t', r = (some (.inl v), t', n, 0) ∧ (v = 0 → CBg t' 191 329 ∧ NX t' 191) ∧ (v ≠ 0 → ∀ c i, ¬ (c = 1 ∨ (3 ≤ c ∧ c ≤ 7) ∨ (191 ≤ c ∧ c ≤ 256)) → ai_hv t' c i = ai_hv t0 c i) := by
  refine en_u_ex (d := d + 41) rfl ?_
  show en_ex _ _ _ _ (0, [(0, gx_r 0)], [], t0, n, 0) _
  refine ex_go (S := (1, [(0, gx_r 0)], [gx_r 0], t0, n, 0)) rfl (fun _ => rfl) rfl ?_
  refine gxo_ref (a := 0) (c := 7) rfl g0 rfl rfl rfl rfl rfl ?_
  refine ex_go (S := (5, [(0, gx_r 0)], [gx_r 0, gx_r 7], t0, n, 0)) rfl (fun _ => rfl) rfl ?_
  refine gxo_get (a := 0) rfl g0 rfl rfl k11 rfl ?_
  obtain ⟨_, r101, v101, t101, rfl, hv101, g101, -, -, -, N9, -, -, -, hTl⟩ := pc_readPack191 d n (m := m) g0 hE h28 hm km hS hJ
  have e101 := rp_frame191 g0 hE h28 r101
  refine gx_callo (a := 7) rfl rfl g0 rfl rfl rfl r101 rfl ?_
  have k2 : ai_hv t101 0 10 = some (gx_r 257) := (e101 0 10 (by first | decide | omega)).trans k10
  have k3 : ai_hv t101 0 11 = some (gx_r 191) := (e101 0 11 (by first | decide | omega)).trans k11
  have k4 : ai_hv t101 0 12 = some (gx_r 329) := (e101 0 12 (by first | decide | omega)).trans k12
  show en_ex _ _ _ _ (11, [(0, gx_r 0)], [.inl v101], t101, n, 0) _
  refine ex_go (S := (12, [(1, .inl v101), (0, gx_r 0)], [], t101, n, 0)) rfl (fun _ => rfl) rfl ?_
  refine ex_go (S := (13, [(1, .inl v101), (0, gx_r 0)], [.inl v101], t101, n, 0)) rfl (fun _ => rfl) rfl ?_
  by_cases hc5 : v101 = 0
  · refine gx_1t (c := .eq) rfl (by first | decide | omega) hc5 rfl ?_
    refine ex_go (S := (19, [(1, .inl v101), (0, gx_r 0)], [gx_r 0], t101, n, 0)) rfl (fun _ => rfl) rfl ?_
    refine gxo_get (a := 0) rfl g101 rfl rfl k2 rfl ?_
    refine ex_go (S := (23, [(2, gx_r 257), (1, .inl v101), (0, gx_r 0)], [], t101, n, 0)) rfl (fun _ => rfl) rfl ?_
    refine ex_go (S := (24, [(2, gx_r 257), (1, .inl v101), (0, gx_r 0)], [gx_r 0], t101, n, 0)) rfl (fun _ => rfl) rfl ?_
    refine ex_go (S := (25, [(2, gx_r 257), (1, .inl v101), (0, gx_r 0)], [gx_r 0, gx_r 0], t101, n, 0)) rfl (fun _ => rfl) rfl ?_
    refine gxo_get (a := 0) rfl g101 rfl rfl k3 rfl ?_
    refine gxo_putr (a := 0) (h := .inr (.inr [291, 357])) rfl g101 rfl rfl rfl (refin_r (by decide)) rfl (fun t106 g106 k106 e106 => ?_)
    have k7 : ai_hv t106 0 11 = some (gx_r 191) := (e106 0 11 (by first | decide | omega)).trans k3
    have k8 : ai_hv t106 0 12 = some (gx_r 329) := (e106 0 12 (by first | decide | omega)).trans k4
    refine ex_go (S := (32, [(2, gx_r 257), (1, .inl v101), (0, gx_r 0)], [gx_r 0], t106, n, 0)) rfl (fun _ => rfl) rfl ?_
    refine ex_go (S := (33, [(2, gx_r 257), (1, .inl v101), (0, gx_r 0)], [gx_r 257, gx_r 0], t106, n, 0)) rfl (fun _ => rfl) rfl ?_
    refine gxo_putr (a := 0) (h := .inr (.inr [291, 357])) rfl g106 rfl rfl rfl (refin_r (by decide)) rfl (fun t109 g109 k109 e109 => ?_)
    have k10 : ai_hv t109 0 12 = some (gx_r 329) := (e109 0 12 (by first | decide | omega)).trans k8
    have k11 : ai_hv t109 0 10 = some (gx_r 191) := (e109 0 10 (by first | decide | omega)).trans k106
    refine ex_go (S := (37, [(2, gx_r 257), (1, .inl v101), (0, gx_r 0)], [gx_r 0], t109, n, 0)) rfl (fun _ => rfl) rfl ?_
    obtain ⟨_, r112, t112, rfl, g112, e112, hC112⟩ := pc_beginPack191_329 (d + 38) n g109 k11 k10
    refine gx_callo (a := 0) rfl rfl g109 rfl rfl rfl r112 rfl ?_
    have k13 : ai_hv t112 0 12 = some (gx_r 329) := (e112 0 12 (by first | decide | omega)).trans k10
    have k14 : ai_hv t112 0 10 = some (gx_r 191) := (e112 0 10 (by first | decide | omega)).trans k11
    have k15 : ai_hv t112 0 11 = some (gx_r 257) := (e112 0 11 (by first | decide | omega)).trans k109
    show en_ex _ _ _ _ (40, [(2, gx_r 257), (1, .inl v101), (0, gx_r 0)], [], t112, n, 0) _
    refine ex_go (S := (41, [(2, gx_r 257), (1, .inl v101), (0, gx_r 0)], [.inl 0], t112, n, 0)) rfl (fun _ => rfl) rfl ?_
    refine ex_ret (r := (some (.inl 0), t112, n, 0)) rfl (fun _ => rfl) ?_
    exact ⟨_, rfl, 0, t112, rfl, fun _ => ⟨hC112, NX_keep (hTl (by first | decide | omega)).2 (fun c i h => (e112 c i (by first | decide | omega)).trans ((e109 c i (by first | decide | omega)).trans (e106 c i (by first | decide | omega))))⟩, fun z => absurd rfl z⟩
  · refine gx_1f (c := .eq) rfl (by first | decide | omega) hc5 rfl ?_
    refine ex_go (S := (17, [(1, .inl v101), (0, gx_r 0)], [.inl v101], t101, n, 0)) rfl (fun _ => rfl) rfl ?_
    refine ex_ret (r := (some (.inl v101), t101, n, 0)) rfl (fun _ => rfl) ?_
    exact ⟨_, rfl, v101, t101, rfl, (fun z => by omega), fun _ c i h => e101 c i (by first | decide | omega)⟩
theorem rp_frame257 {d n : Nat} {t t' : en_H} {v : Option en_V} (g0 : ai_HG ah_G t) (hE : ai_E t) (h28 : c28 t 191) (h : en_u (d + 41) 92 [gx_r 7, gx_r 257] t n = some (v, t', n, 0)) : ∀ c i, ¬ (c = 1 ∨ (3 ≤ c ∧ c ≤ 7) ∨ (257 ≤ c ∧ c ≤ 322)) → ai_hv t' c i = ai_hv t c i := by
  obtain ⟨⟨rv, rt, rn, rs⟩, r1, -, -, -, fr, -⟩ := ac_all (d + 41) 92 ce_92_0 (show ce_92_0 ∈ cm_92 from List.mem_cons_self) (Nat.lt_of_lt_of_le (show ce_92_0.1 < 41 by decide) (by first | decide | omega)) (fun _ => 0) [gx_r 7, gx_r 257] t n ⟨gx_vref 7, gx_vref 257, trivial⟩ g0 h28 hE
  have e1 := Option.some.inj (h.symm.trans r1)
  have e2 : t' = rt := congrArg (fun z => z.2.1) e1
  subst e2
  intro c i hc
  exact fr c i (fun z => by
    obtain ⟨q, hq, m1, -⟩ := z
    have hall : (ct_92_0.2.2.2.1).all (fun q => Nat.beq q.1 1 || (Nat.ble 3 q.1 && Nat.ble q.1 7) || (Nat.ble 257 q.1 && Nat.ble q.1 322)) = true := by decide +kernel
    have h9 := List.all_eq_true.mp hall q hq
    simp only [Bool.or_eq_true, Bool.and_eq_true] at h9
    rcases h9 with (h9 | ⟨h8, h9⟩) | ⟨h8, h9⟩
    · have := Nat.eq_of_beq_eq_true h9; omega
    · have := Nat.le_of_ble_eq_true h8; have := Nat.le_of_ble_eq_true h9; omega
    · have := Nat.le_of_ble_eq_true h8; have := Nat.le_of_ble_eq_true h9; omega)
theorem pc_packB257_0 (d n : Nat) {t0 : en_H} {S : Nat → Nat} {m : Nat} (g0 : ai_HG ah_G t0) (hE : ai_E t0) (h28 : c28 t0 191) (k10 : ai_hv t0 0 10 = some (gx_r 191)) (k11 : ai_hv t0 0 11 = some (gx_r 257)) (k12 : ai_hv t0 0 12 = some (gx_r 323)) (hm : m ≤ 1000) (km : ai_hv t0 1 0 = some (.inl m)) (hS : ∀ i, i < m → ai_hv t0 2 i = some (.inl (S i)) ∧ S i ≤ 127) (hJ : JRw t0 257) : ∃ r, en_u (d + 42) 32 [gx_r 0] t0 n = some r ∧ ∃ v t', r = (some (.inl v), t', n, 0) ∧ (v = 0 → CBg t' 257 323 ∧ NX t' 257) ∧ (v ≠ 0 → ∀ c i, ¬ (c = 1 ∨ (3 ≤ c ∧ c ≤ 7) ∨ (257 ≤ c ∧ c ≤ 322)) → ai_hv t' c i = ai_hv t0 c i) := by
  refine en_u_ex (d := d + 41) rfl ?_
  show en_ex _ _ _ _ (0, [(0, gx_r 0)], [], t0, n, 0) _
  refine ex_go (S := (1, [(0, gx_r 0)], [gx_r 0], t0, n, 0)) rfl (fun _ => rfl) rfl ?_
  refine gxo_ref (a := 0) (c := 7) rfl g0 rfl rfl rfl rfl rfl ?_
  refine ex_go (S := (5, [(0, gx_r 0)], [gx_r 0, gx_r 7], t0, n, 0)) rfl (fun _ => rfl) rfl ?_
  refine gxo_get (a := 0) rfl g0 rfl rfl k11 rfl ?_
  obtain ⟨_, r101, v101, t101, rfl, hv101, g101, -, -, -, N9, -, -, -, hTl⟩ := pc_readPack257 d n (m := m) g0 hE h28 hm km hS hJ
  have e101 := rp_frame257 g0 hE h28 r101
  refine gx_callo (a := 7) rfl rfl g0 rfl rfl rfl r101 rfl ?_
  have k2 : ai_hv t101 0 10 = some (gx_r 191) := (e101 0 10 (by first | decide | omega)).trans k10
  have k3 : ai_hv t101 0 11 = some (gx_r 257) := (e101 0 11 (by first | decide | omega)).trans k11
  have k4 : ai_hv t101 0 12 = some (gx_r 323) := (e101 0 12 (by first | decide | omega)).trans k12
  show en_ex _ _ _ _ (11, [(0, gx_r 0)], [.inl v101], t101, n, 0) _
  refine ex_go (S := (12, [(1, .inl v101), (0, gx_r 0)], [], t101, n, 0)) rfl (fun _ => rfl) rfl ?_
  refine ex_go (S := (13, [(1, .inl v101), (0, gx_r 0)], [.inl v101], t101, n, 0)) rfl (fun _ => rfl) rfl ?_
  by_cases hc5 : v101 = 0
  · refine gx_1t (c := .eq) rfl (by first | decide | omega) hc5 rfl ?_
    refine ex_go (S := (19, [(1, .inl v101), (0, gx_r 0)], [gx_r 0], t101, n, 0)) rfl (fun _ => rfl) rfl ?_
    refine gxo_get (a := 0) rfl g101 rfl rfl k2 rfl ?_
    refine ex_go (S := (23, [(2, gx_r 191), (1, .inl v101), (0, gx_r 0)], [], t101, n, 0)) rfl (fun _ => rfl) rfl ?_
    refine ex_go (S := (24, [(2, gx_r 191), (1, .inl v101), (0, gx_r 0)], [gx_r 0], t101, n, 0)) rfl (fun _ => rfl) rfl ?_
    refine ex_go (S := (25, [(2, gx_r 191), (1, .inl v101), (0, gx_r 0)], [gx_r 0, gx_r 0], t101, n, 0)) rfl (fun _ => rfl) rfl ?_
    refine gxo_get (a := 0) rfl g101 rfl rfl k3 rfl ?_
    refine gxo_putr (a := 0) (h := .inr (.inr [291, 357])) rfl g101 rfl rfl rfl (refin_r (by decide)) rfl (fun t106 g106 k106 e106 => ?_)
    have k7 : ai_hv t106 0 11 = some (gx_r 257) := (e106 0 11 (by first | decide | omega)).trans k3
    have k8 : ai_hv t106 0 12 = some (gx_r 323) := (e106 0 12 (by first | decide | omega)).trans k4
    refine ex_go (S := (32, [(2, gx_r 191), (1, .inl v101), (0, gx_r 0)], [gx_r 0], t106, n, 0)) rfl (fun _ => rfl) rfl ?_
    refine ex_go (S := (33, [(2, gx_r 191), (1, .inl v101), (0, gx_r 0)], [gx_r 191, gx_r 0], t106, n, 0)) rfl (fun _ => rfl) rfl ?_
    refine gxo_putr (a := 0) (h := .inr (.inr [291, 357])) rfl g106 rfl rfl rfl (refin_r (by decide)) rfl (fun t109 g109 k109 e109 => ?_)
    have k10 : ai_hv t109 0 12 = some (gx_r 323) := (e109 0 12 (by first | decide | omega)).trans k8
    have k11 : ai_hv t109 0 10 = some (gx_r 257) := (e109 0 10 (by first | decide | omega)).trans k106
    refine ex_go (S := (37, [(2, gx_r 191), (1, .inl v101), (0, gx_r 0)], [gx_r 0], t109, n, 0)) rfl (fun _ => rfl) rfl ?_
    obtain ⟨_, r112, t112, rfl, g112, e112, hC112⟩ := pc_beginPack257_323 (d + 38) n g109 k11 k10
    refine gx_callo (a := 0) rfl rfl g109 rfl rfl rfl r112 rfl ?_
    have k13 : ai_hv t112 0 12 = some (gx_r 323) := (e112 0 12 (by first | decide | omega)).trans k10
    have k14 : ai_hv t112 0 10 = some (gx_r 257) := (e112 0 10 (by first | decide | omega)).trans k11
    have k15 : ai_hv t112 0 11 = some (gx_r 191) := (e112 0 11 (by first | decide | omega)).trans k109
    show en_ex _ _ _ _ (40, [(2, gx_r 191), (1, .inl v101), (0, gx_r 0)], [], t112, n, 0) _
    refine ex_go (S := (41, [(2, gx_r 191), (1, .inl v101), (0, gx_r 0)], [.inl 0], t112, n, 0)) rfl (fun _ => rfl) rfl ?_
    refine ex_ret (r := (some (.inl 0), t112, n, 0)) rfl (fun _ => rfl) ?_
    exact ⟨_, rfl, 0, t112, rfl, fun _ => ⟨hC112, NX_keep (hTl (by first | decide | omega)).2 (fun c i h => (e112 c i (by first | decide | omega)).trans ((e109 c i (by first | decide | omega)).trans (e106 c i (by first | decide | omega))))⟩, fun z => absurd rfl z⟩
  · refine gx_1f (c := .eq) rfl (by first | decide | omega) hc5 rfl ?_
    refine ex_go (S := (17, [(1, .inl v101), (0, gx_r 0)], [.inl v101], t101, n, 0)) rfl (fun _ => rfl) rfl ?_
    refine ex_ret (r := (some (.inl v101), t101, n, 0)) rfl (fun _ => rfl) ?_
    exact ⟨_, rfl, v101, t101, rfl, (fun z => by omega), fun _ c i h => e101 c i (by first | decide | omega)⟩
theorem pc_packB257_1 (d n : Nat) {t0 : en_H} {S : Nat → Nat} {m : Nat} (g0 : ai_HG ah_G t0) (hE : ai_E t0) (h28 : c28 t0 191) (k10 : ai_hv t0 0 10 = some (gx_r 191)) (k11 : ai_hv t0 0 11 = some (gx_r 257)) (k12 : ai_hv t0 0 12 = some (gx_r 329)) (hm : m ≤ 1000) (km : ai_hv t0 1 0 = some (.inl m)) (hS : ∀ i, i < m → ai_hv t0 2 i = some (.inl (S i)) ∧ S i ≤ 127) (hJ : JRw t0 257) : ∃ r, en_u (d + 42) 32 [gx_r 0] t0 n = some r ∧ ∃ v t', r = (some (.inl v), t', n, 0) ∧ (v = 0 → CBg t' 257 329 ∧ NX t' 257) ∧ (v ≠ 0 → ∀ c i, ¬ (c = 1 ∨ (3 ≤ c ∧ c ≤ 7) ∨ (257 ≤ c ∧ c ≤ 322)) → ai_hv t' c i = ai_hv t0 c i) := by
  refine en_u_ex (d := d + 41) rfl ?_
  show en_ex _ _ _ _ (0, [(0, gx_r 0)], [], t0, n, 0) _
  refine ex_go (S := (1, [(0, gx_r 0)], [gx_r 0], t0, n, 0)) rfl (fun _ => rfl) rfl ?_
  refine gxo_ref (a := 0) (c := 7) rfl g0 rfl rfl rfl rfl rfl ?_
  refine ex_go (S := (5, [(0, gx_r 0)], [gx_r 0, gx_r 7], t0, n, 0)) rfl (fun _ => rfl) rfl ?_
  refine gxo_get (a := 0) rfl g0 rfl rfl k11 rfl ?_
  obtain ⟨_, r101, v101, t101, rfl, hv101, g101, -, -, -, N9, -, -, -, hTl⟩ := pc_readPack257 d n (m := m) g0 hE h28 hm km hS hJ
  have e101 := rp_frame257 g0 hE h28 r101
  refine gx_callo (a := 7) rfl rfl g0 rfl rfl rfl r101 rfl ?_
  have k2 : ai_hv t101 0 10 = some (gx_r 191) := (e101 0 10 (by first | decide | omega)).trans k10
  have k3 : ai_hv t101 0 11 = some (gx_r 257) := (e101 0 11 (by first | decide | omega)).trans k11
  have k4 : ai_hv t101 0 12 = some (gx_r 329) := (e101 0 12 (by first | decide | omega)).trans k12
  show en_ex _ _ _ _ (11, [(0, gx_r 0)], [.inl v101], t101, n, 0) _
  refine ex_go (S := (12, [(1, .inl v101), (0, gx_r 0)], [], t101, n, 0)) rfl (fun _ => rfl) rfl ?_
  refine ex_go (S := (13, [(1, .inl v101), (0, gx_r 0)], [.inl v101], t101, n, 0)) rfl (fun _ => rfl) rfl ?_
  by_cases hc5 : v101 = 0
  · refine gx_1t (c := .eq) rfl (by first | decide | omega) hc5 rfl ?_
    refine ex_go (S := (19, [(1, .inl v101), (0, gx_r 0)], [gx_r 0], t101, n, 0)) rfl (fun _ => rfl) rfl ?_
    refine gxo_get (a := 0) rfl g101 rfl rfl k2 rfl ?_
    refine ex_go (S := (23, [(2, gx_r 191), (1, .inl v101), (0, gx_r 0)], [], t101, n, 0)) rfl (fun _ => rfl) rfl ?_
    refine ex_go (S := (24, [(2, gx_r 191), (1, .inl v101), (0, gx_r 0)], [gx_r 0], t101, n, 0)) rfl (fun _ => rfl) rfl ?_
    refine ex_go (S := (25, [(2, gx_r 191), (1, .inl v101), (0, gx_r 0)], [gx_r 0, gx_r 0], t101, n, 0)) rfl (fun _ => rfl) rfl ?_
    refine gxo_get (a := 0) rfl g101 rfl rfl k3 rfl ?_
    refine gxo_putr (a := 0) (h := .inr (.inr [291, 357])) rfl g101 rfl rfl rfl (refin_r (by decide)) rfl (fun t106 g106 k106 e106 => ?_)
    have k7 : ai_hv t106 0 11 = some (gx_r 257) := (e106 0 11 (by first | decide | omega)).trans k3
    have k8 : ai_hv t106 0 12 = some (gx_r 329) := (e106 0 12 (by first | decide | omega)).trans k4
    refine ex_go (S := (32, [(2, gx_r 191), (1, .inl v101), (0, gx_r 0)], [gx_r 0], t106, n, 0)) rfl (fun _ => rfl) rfl ?_
    refine ex_go (S := (33, [(2, gx_r 191), (1, .inl v101), (0, gx_r 0)], [gx_r 191, gx_r 0], t106, n, 0)) rfl (fun _ => rfl) rfl ?_
    refine gxo_putr (a := 0) (h := .inr (.inr [291, 357])) rfl g106 rfl rfl rfl (refin_r (by decide)) rfl (fun t109 g109 k109 e109 => ?_)
    have k10 : ai_hv t109 0 12 = some (gx_r 329) := (e109 0 12 (by first | decide | omega)).trans k8
    have k11 : ai_hv t109 0 10 = some (gx_r 257) := (e109 0 10 (by first | decide | omega)).trans k106
    refine ex_go (S := (37, [(2, gx_r 191), (1, .inl v101), (0, gx_r 0)], [gx_r 0], t109, n, 0)) rfl (fun _ => rfl) rfl ?_
    obtain ⟨_, r112, t112, rfl, g112, e112, hC112⟩ := pc_beginPack257_329 (d + 38) n g109 k11 k10
    refine gx_callo (a := 0) rfl rfl g109 rfl rfl rfl r112 rfl ?_
    have k13 : ai_hv t112 0 12 = some (gx_r 329) := (e112 0 12 (by first | decide | omega)).trans k10
    have k14 : ai_hv t112 0 10 = some (gx_r 257) := (e112 0 10 (by first | decide | omega)).trans k11
    have k15 : ai_hv t112 0 11 = some (gx_r 191) := (e112 0 11 (by first | decide | omega)).trans k109
    show en_ex _ _ _ _ (40, [(2, gx_r 191), (1, .inl v101), (0, gx_r 0)], [], t112, n, 0) _
    refine ex_go (S := (41, [(2, gx_r 191), (1, .inl v101), (0, gx_r 0)], [.inl 0], t112, n, 0)) rfl (fun _ => rfl) rfl ?_
    refine ex_ret (r := (some (.inl 0), t112, n, 0)) rfl (fun _ => rfl) ?_
    exact ⟨_, rfl, 0, t112, rfl, fun _ => ⟨hC112, NX_keep (hTl (by first | decide | omega)).2 (fun c i h => (e112 c i (by first | decide | omega)).trans ((e109 c i (by first | decide | omega)).trans (e106 c i (by first | decide | omega))))⟩, fun z => absurd rfl z⟩
  · refine gx_1f (c := .eq) rfl (by first | decide | omega) hc5 rfl ?_
    refine ex_go (S := (17, [(1, .inl v101), (0, gx_r 0)], [.inl v101], t101, n, 0)) rfl (fun _ => rfl) rfl ?_
    refine ex_ret (r := (some (.inl v101), t101, n, 0)) rfl (fun _ => rfl) ?_
    exact ⟨_, rfl, v101, t101, rfl, (fun z => by omega), fun _ c i h => e101 c i (by first | decide | omega)⟩
end SZI
