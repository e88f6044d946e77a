section PK7
noncomputable def gx_chz (rs : List (Nat × ai_h)) (b k : Nat) : Bool := match ai_run rs (b + k) with
  | some (.inl p) => Nat.ble p.1 2147483648 && Nat.ble 2147483648 p.2
  | _ => false
theorem gx_zero {i : Nat} (h1 : 160 ≤ i) (h2 : i < 320) : ∃ p, ai_run ah_389.2.2.2 i = some (.inl p) ∧ ai_rh (.inl p) (.inl 0) := by
  have h3 := ha_all_ok (p := gx_chz ah_389.2.2.2 160) (m := 160) (by decide +kernel) (i - 160) (by first | decide | omega)
  unfold gx_chz at h3
  rw [show 160 + (i - 160) = i by omega] at h3
  split at h3
  · rename_i p hp
    rw [Bool.and_eq_true] at h3
    exact ⟨p, hp, ai_in_h (by decide) (Nat.le_of_ble_eq_true h3.1) (Nat.le_of_ble_eq_true h3.2)⟩
  · cases h3
theorem sa_1 {fn : en_F} {n : Nat} {tb : en_H} {Q : en_O → Prop} (hQ : ∀ t1, ai_HG ah_G t1 → (∀ c i, ¬ (c = 389 ∧ 160 ≤ i ∧ i < 320) → ai_hv t1 c i = ai_hv tb c i) → (∀ i, 160 ≤ i → i < 320 → ai_hv t1 389 i = some (.inl 0)) → en_ex none fn (en_code 26) (fun _ => false) (24, [(2, .inl 160), (0, gx_r 383), (1, .inl 160)], [], t1, n, 0) Q) : ∀ j k t0, k + j = 160 → ai_HG ah_G t0 → (∀ c i, ¬ (c = 389 ∧ 160 ≤ i ∧ i < 320) → ai_hv t0 c i = ai_hv tb c i) → (∀ i, 160 ≤ i → i < 160 + k → ai_hv t0 389 i = some (.inl 0)) → en_ex none fn (en_code 26) (fun _ => false) (2, [(2, .inl k), (0, gx_r 383), (1, .inl 160)], [], t0, n, 0) Q := by
  intro j
  induction j with
  | zero =>
    intro k t0 hk g0 e0 hz
    have hk : k = 160 := by omega
    subst hk
    refine ex_go (S := (3, [(2, .inl 160), (0, gx_r 383), (1, .inl 160)], [.inl 160], t0, n, 0)) rfl (fun _ => rfl) rfl ?_
    refine ex_go (S := (6, [(2, .inl 160), (0, gx_r 383), (1, .inl 160)], [.inl 160, .inl 160], t0, n, 0)) rfl (fun _ => rfl) rfl ?_
    refine ex_go (S := (24, [(2, .inl 160), (0, gx_r 383), (1, .inl 160)], [], t0, n, 0)) rfl (fun _ => rfl) rfl ?_
    exact hQ t0 g0 (fun c i h => e0 c i h) hz
  | succ j ih =>
    intro k t0 hk g0 e0 hz
    refine ex_go (S := (3, [(2, .inl k), (0, gx_r 383), (1, .inl 160)], [.inl k], t0, n, 0)) rfl (fun _ => rfl) rfl ?_
    refine ex_go (S := (6, [(2, .inl k), (0, gx_r 383), (1, .inl 160)], [.inl 160, .inl k], t0, n, 0)) rfl (fun _ => rfl) rfl ?_
    refine gx_2f (c := .ge) rfl (by first | decide | omega) (by first | decide | omega) (show ¬ (160 ≤ k) from by omega) rfl ?_
    refine ex_go (S := (10, [(2, .inl k), (0, gx_r 383), (1, .inl 160)], [gx_r 383], t0, n, 0)) rfl (fun _ => rfl) rfl ?_
    refine gx_ref (c := 389) rfl g0 rfl rfl rfl rfl ?_
    refine ex_go (S := (14, [(2, .inl k), (0, gx_r 383), (1, .inl 160)], [.inl 160, gx_r 389], t0, n, 0)) rfl (fun _ => rfl) rfl ?_
    refine ex_go (S := (15, [(2, .inl k), (0, gx_r 383), (1, .inl 160)], [.inl k, .inl 160, gx_r 389], t0, n, 0)) rfl (fun _ => rfl) rfl ?_
    refine ex_iadd rfl (by first | decide | omega) rfl ?_
    refine ex_go (S := (17, [(2, .inl k), (0, gx_r 383), (1, .inl 160)], [.inl 0, .inl (160 + k), gx_r 389], t0, n, 0)) rfl (fun _ => rfl) rfl ?_
    obtain ⟨p2, hrp2, hvp2⟩ := gx_zero (i := 160 + k) (by first | decide | omega) (by first | decide | omega)
    refine gx_ap rfl (fun _ => rfl) g0 rfl rfl rfl (show 160 + k < 320 from by omega) hrp2 hvp2 rfl (fun t101 g101 k101 e101 => ?_)
    refine gx_iinc (i := 2) (k := 1) rfl (fun _ => rfl) (by first | decide | omega) rfl ?_
    show en_ex _ _ _ _ (21, [(2, .inl (k + 1)), (0, gx_r 383), (1, .inl 160)], [], t101, n, 0) _
    refine ex_go (S := (2, [(2, .inl (k + 1)), (0, gx_r 383), (1, .inl 160)], [], t101, n, 0)) rfl (fun _ => rfl) rfl ?_
    exact ih (k + 1) t101 (by first | decide | omega) g101 (fun c i h => (e101 c i (by first | decide | omega)).trans (e0 c i h)) (fun i h1 h2 => by
      by_cases e : i = 160 + k
      · rw [e]; exact k101
      · exact (e101 389 i (by first | decide | omega)).trans (hz i h1 (by first | decide | omega)))
theorem sa_3 {fn : en_F} {n : Nat} {tb : en_H} {Q : en_O → Prop} (hQ : ∀ t1, ai_HG ah_G t1 → (∀ c i, ¬ (c = 389 ∧ 172 ≤ i ∧ i < 236) → ai_hv t1 c i = ai_hv tb c i) → en_ex none fn (en_code 26) (fun _ => false) (75, [(2, .inl 64), (0, gx_r 383), (1, .inl 160)], [], t1, n, 0) Q) : ∀ j k t0, k + j = 64 → ai_HG ah_G t0 → (∀ c i, ¬ (c = 389 ∧ 172 ≤ i ∧ i < 236) → ai_hv t0 c i = ai_hv tb c i) → en_ex none fn (en_code 26) (fun _ => false) (51, [(2, .inl k), (0, gx_r 383), (1, .inl 160)], [], t0, n, 0) Q := by
  intro j
  induction j with
  | zero =>
    intro k t0 hk g0 e0
    have hk : k = 64 := by omega
    subst hk
    refine ex_go (S := (52, [(2, .inl 64), (0, gx_r 383), (1, .inl 160)], [.inl 64], t0, n, 0)) rfl (fun _ => rfl) rfl ?_
    refine ex_go (S := (54, [(2, .inl 64), (0, gx_r 383), (1, .inl 160)], [.inl 64, .inl 64], t0, n, 0)) rfl (fun _ => rfl) rfl ?_
    refine ex_go (S := (75, [(2, .inl 64), (0, gx_r 383), (1, .inl 160)], [], t0, n, 0)) rfl (fun _ => rfl) rfl ?_
    exact hQ t0 g0 (fun c i h => e0 c i h)
  | succ j ih =>
    intro k t0 hk g0 e0
    refine ex_go (S := (52, [(2, .inl k), (0, gx_r 383), (1, .inl 160)], [.inl k], t0, n, 0)) rfl (fun _ => rfl) rfl ?_
    refine ex_go (S := (54, [(2, .inl k), (0, gx_r 383), (1, .inl 160)], [.inl 64, .inl k], t0, n, 0)) rfl (fun _ => rfl) rfl ?_
    refine gx_2f (c := .ge) rfl (by first | decide | omega) (by first | decide | omega) (show ¬ (64 ≤ k) from by omega) rfl ?_
    refine ex_go (S := (58, [(2, .inl k), (0, gx_r 383), (1, .inl 160)], [gx_r 383], t0, n, 0)) rfl (fun _ => rfl) rfl ?_
    refine gx_ref (c := 389) rfl g0 rfl rfl rfl rfl ?_
    refine ex_go (S := (62, [(2, .inl k), (0, gx_r 383), (1, .inl 160)], [.inl 160, gx_r 389], t0, n, 0)) rfl (fun _ => rfl) rfl ?_
    refine ex_go (S := (64, [(2, .inl k), (0, gx_r 383), (1, .inl 160)], [.inl 12, .inl 160, gx_r 389], t0, n, 0)) rfl (fun _ => rfl) rfl ?_
    refine ex_go (S := (65, [(2, .inl k), (0, gx_r 383), (1, .inl 160)], [.inl 172, gx_r 389], t0, n, 0)) rfl (fun _ => rfl) rfl ?_
    refine ex_go (S := (66, [(2, .inl k), (0, gx_r 383), (1, .inl 160)], [.inl k, .inl 172, gx_r 389], t0, n, 0)) rfl (fun _ => rfl) rfl ?_
    refine ex_iadd rfl (by first | decide | omega) rfl ?_
    refine ex_go (S := (68, [(2, .inl k), (0, gx_r 383), (1, .inl 160)], [.inl 4, .inl (172 + k), gx_r 389], t0, n, 0)) rfl (fun _ => rfl) rfl ?_
    refine gx_ap rfl (fun _ => rfl) g0 rfl rfl rfl (show 172 + k < 320 from by omega) (px_run_flow k (by first | decide | omega) (by first | decide | omega)) (ai_in_h (by first | decide | omega) (by first | decide | omega) (by first | decide | omega)) rfl (fun t101 g101 k101 e101 => ?_)
    refine gx_iinc (i := 2) (k := 1) rfl (fun _ => rfl) (by first | decide | omega) rfl ?_
    show en_ex _ _ _ _ (72, [(2, .inl (k + 1)), (0, gx_r 383), (1, .inl 160)], [], t101, n, 0) _
    refine ex_go (S := (51, [(2, .inl (k + 1)), (0, gx_r 383), (1, .inl 160)], [], t101, n, 0)) rfl (fun _ => rfl) rfl ?_
    exact ih (k + 1) t101 (by first | decide | omega) g101 (fun c i h => (e101 c i (by first | decide | omega)).trans (e0 c i h))
theorem pk_stands (d n : Nat) {t0 : en_H} (g0 : ai_HG ah_G t0) : ∃ r, en_u (d + 1) 26 [gx_r 383, .inl 160] t0 n = some r ∧ ∃ t', r = (none, t', n, 0) ∧ ai_HG ah_G t' ∧ (∀ c i, ¬ (c = 389 ∧ 160 ≤ i ∧ i < 320) → ai_hv t' c i = ai_hv t0 c i) ∧ (∀ i, 162 ≤ i → i < 169 → i ≠ 165 → ai_hv t' 389 i = some (.inl 0)) ∧ ai_hv t' 389 165 = some (.inl 2) ∧ (∀ l, l < 3 → ai_hv t' 389 (169 + l) = some (.inl 4294967295)) := by
  refine en_u_ex rfl ?_
  show en_ex _ _ _ _ (0, [(0, gx_r 383), (1, .inl 160)], [], t0, n, 0) _
  refine ex_go (S := (1, [(0, gx_r 383), (1, .inl 160)], [.inl 0], t0, n, 0)) rfl (fun _ => rfl) rfl ?_
  refine ex_go (S := (2, [(2, .inl 0), (0, gx_r 383), (1, .inl 160)], [], t0, n, 0)) rfl (fun _ => rfl) rfl ?_
  refine sa_1 (tb := t0) (fun t1 g1 e1 z1 => ?_) 160 0 _ rfl g0 (fun _ _ _ => rfl) (fun i h1 h2 => by omega)
  refine ex_go (S := (25, [(2, .inl 160), (0, gx_r 383), (1, .inl 160)], [.inl 0], t1, n, 0)) rfl (fun _ => rfl) rfl ?_
  refine ex_go (S := (26, [(2, .inl 0), (0, gx_r 383), (1, .inl 160)], [], t1, n, 0)) rfl (fun _ => rfl) rfl ?_
  refine ex_go (S := (27, [(2, .inl 0), (0, gx_r 383), (1, .inl 160)], [.inl 0], t1, n, 0)) rfl (fun _ => rfl) rfl ?_
  refine ex_go (S := (28, [(2, .inl 0), (0, gx_r 383), (1, .inl 160)], [.inl 3, .inl 0], t1, n, 0)) rfl (fun _ => rfl) rfl ?_
  refine ex_go (S := (31, [(2, .inl 0), (0, gx_r 383), (1, .inl 160)], [], t1, n, 0)) rfl (fun _ => rfl) rfl ?_
  refine ex_go (S := (32, [(2, .inl 0), (0, gx_r 383), (1, .inl 160)], [gx_r 383], t1, n, 0)) rfl (fun _ => rfl) rfl ?_
  refine gx_ref (c := 389) rfl g1 rfl rfl rfl rfl ?_
  refine ex_go (S := (36, [(2, .inl 0), (0, gx_r 383), (1, .inl 160)], [.inl 160, gx_r 389], t1, n, 0)) rfl (fun _ => rfl) rfl ?_
  refine ex_go (S := (38, [(2, .inl 0), (0, gx_r 383), (1, .inl 160)], [.inl 9, .inl 160, gx_r 389], t1, n, 0)) rfl (fun _ => rfl) rfl ?_
  refine ex_go (S := (39, [(2, .inl 0), (0, gx_r 383), (1, .inl 160)], [.inl 169, gx_r 389], t1, n, 0)) rfl (fun _ => rfl) rfl ?_
  refine ex_go (S := (40, [(2, .inl 0), (0, gx_r 383), (1, .inl 160)], [.inl 0, .inl 169, gx_r 389], t1, n, 0)) rfl (fun _ => rfl) rfl ?_
  refine ex_go (S := (41, [(2, .inl 0), (0, gx_r 383), (1, .inl 160)], [.inl 169, gx_r 389], t1, n, 0)) rfl (fun _ => rfl) rfl ?_
  refine ex_go (S := (42, [(2, .inl 0), (0, gx_r 383), (1, .inl 160)], [.inl 4294967295, .inl 169, gx_r 389], t1, n, 0)) rfl (fun _ => rfl) rfl ?_
  refine gx_ap rfl (fun _ => rfl) g1 rfl rfl rfl (show 169 < 320 from by omega) rfl ⟨_, rfl, by decide, by decide, by decide⟩ rfl (fun t101 g101 k101 e101 => ?_)
  refine ex_go (S := (46, [(2, .inl 1), (0, gx_r 383), (1, .inl 160)], [], t101, n, 0)) rfl (fun _ => rfl) rfl ?_
  refine ex_go (S := (26, [(2, .inl 1), (0, gx_r 383), (1, .inl 160)], [], t101, n, 0)) rfl (fun _ => rfl) rfl ?_
  refine ex_go (S := (27, [(2, .inl 1), (0, gx_r 383), (1, .inl 160)], [.inl 1], t101, n, 0)) rfl (fun _ => rfl) rfl ?_
  refine ex_go (S := (28, [(2, .inl 1), (0, gx_r 383), (1, .inl 160)], [.inl 3, .inl 1], t101, n, 0)) rfl (fun _ => rfl) rfl ?_
  refine ex_go (S := (31, [(2, .inl 1), (0, gx_r 383), (1, .inl 160)], [], t101, n, 0)) rfl (fun _ => rfl) rfl ?_
  refine ex_go (S := (32, [(2, .inl 1), (0, gx_r 383), (1, .inl 160)], [gx_r 383], t101, n, 0)) rfl (fun _ => rfl) rfl ?_
  refine gx_ref (c := 389) rfl g101 rfl rfl rfl rfl ?_
  refine ex_go (S := (36, [(2, .inl 1), (0, gx_r 383), (1, .inl 160)], [.inl 160, gx_r 389], t101, n, 0)) rfl (fun _ => rfl) rfl ?_
  refine ex_go (S := (38, [(2, .inl 1), (0, gx_r 383), (1, .inl 160)], [.inl 9, .inl 160, gx_r 389], t101, n, 0)) rfl (fun _ => rfl) rfl ?_
  refine ex_go (S := (39, [(2, .inl 1), (0, gx_r 383), (1, .inl 160)], [.inl 169, gx_r 389], t101, n, 0)) rfl (fun _ => rfl) rfl ?_
  refine ex_go (S := (40, [(2, .inl 1), (0, gx_r 383), (1, .inl 160)], [.inl 1, .inl 169, gx_r 389], t101, n, 0)) rfl (fun _ => rfl) rfl ?_
  refine ex_go (S := (41, [(2, .inl 1), (0, gx_r 383), (1, .inl 160)], [.inl 170, gx_r 389], t101, n, 0)) rfl (fun _ => rfl) rfl ?_
  refine ex_go (S := (42, [(2, .inl 1), (0, gx_r 383), (1, .inl 160)], [.inl 4294967295, .inl 170, gx_r 389], t101, n, 0)) rfl (fun _ => rfl) rfl ?_
  refine gx_ap rfl (fun _ => rfl) g101 rfl rfl rfl (show 170 < 320 from by omega) rfl ⟨_, rfl, by decide, by decide, by decide⟩ rfl (fun t102 g102 k102 e102 => ?_)
  have k3 : ai_hv t102 389 169 = some (.inl 4294967295) := (e102 389 169 (by first | decide | omega)).trans k101
  refine ex_go (S := (46, [(2, .inl 2), (0, gx_r 383), (1, .inl 160)], [], t102, n, 0)) rfl (fun _ => rfl) rfl ?_
  refine ex_go (S := (26, [(2, .inl 2), (0, gx_r 383), (1, .inl 160)], [], t102, n, 0)) rfl (fun _ => rfl) rfl ?_
  refine ex_go (S := (27, [(2, .inl 2), (0, gx_r 383), (1, .inl 160)], [.inl 2], t102, n, 0)) rfl (fun _ => rfl) rfl ?_
  refine ex_go (S := (28, [(2, .inl 2), (0, gx_r 383), (1, .inl 160)], [.inl 3, .inl 2], t102, n, 0)) rfl (fun _ => rfl) rfl ?_
  refine ex_go (S := (31, [(2, .inl 2), (0, gx_r 383), (1, .inl 160)], [], t102, n, 0)) rfl (fun _ => rfl) rfl ?_
  refine ex_go (S := (32, [(2, .inl 2), (0, gx_r 383), (1, .inl 160)], [gx_r 383], t102, n, 0)) rfl (fun _ => rfl) rfl ?_
  refine gx_ref (c := 389) rfl g102 rfl rfl rfl rfl ?_
  refine ex_go (S := (36, [(2, .inl 2), (0, gx_r 383), (1, .inl 160)], [.inl 160, gx_r 389], t102, n, 0)) rfl (fun _ => rfl) rfl ?_
  refine ex_go (S := (38, [(2, .inl 2), (0, gx_r 383), (1, .inl 160)], [.inl 9, .inl 160, gx_r 389], t102, n, 0)) rfl (fun _ => rfl) rfl ?_
  refine ex_go (S := (39, [(2, .inl 2), (0, gx_r 383), (1, .inl 160)], [.inl 169, gx_r 389], t102, n, 0)) rfl (fun _ => rfl) rfl ?_
  refine ex_go (S := (40, [(2, .inl 2), (0, gx_r 383), (1, .inl 160)], [.inl 2, .inl 169, gx_r 389], t102, n, 0)) rfl (fun _ => rfl) rfl ?_
  refine ex_go (S := (41, [(2, .inl 2), (0, gx_r 383), (1, .inl 160)], [.inl 171, gx_r 389], t102, n, 0)) rfl (fun _ => rfl) rfl ?_
  refine ex_go (S := (42, [(2, .inl 2), (0, gx_r 383), (1, .inl 160)], [.inl 4294967295, .inl 171, gx_r 389], t102, n, 0)) rfl (fun _ => rfl) rfl ?_
  refine gx_ap rfl (fun _ => rfl) g102 rfl rfl rfl (show 171 < 320 from by omega) rfl ⟨_, rfl, by decide, by decide, by decide⟩ rfl (fun t104 g104 k104 e104 => ?_)
  have k5 : ai_hv t104 389 169 = some (.inl 4294967295) := (e104 389 169 (by first | decide | omega)).trans k3
  have k6 : ai_hv t104 389 170 = some (.inl 4294967295) := (e104 389 170 (by first | decide | omega)).trans k102
  refine ex_go (S := (46, [(2, .inl 3), (0, gx_r 383), (1, .inl 160)], [], t104, n, 0)) rfl (fun _ => rfl) rfl ?_
  refine ex_go (S := (26, [(2, .inl 3), (0, gx_r 383), (1, .inl 160)], [], t104, n, 0)) rfl (fun _ => rfl) rfl ?_
  refine ex_go (S := (27, [(2, .inl 3), (0, gx_r 383), (1, .inl 160)], [.inl 3], t104, n, 0)) rfl (fun _ => rfl) rfl ?_
  refine ex_go (S := (28, [(2, .inl 3), (0, gx_r 383), (1, .inl 160)], [.inl 3, .inl 3], t104, n, 0)) rfl (fun _ => rfl) rfl ?_
  refine ex_go (S := (49, [(2, .inl 3), (0, gx_r 383), (1, .inl 160)], [], t104, n, 0)) rfl (fun _ => rfl) rfl ?_
  refine ex_go (S := (50, [(2, .inl 3), (0, gx_r 383), (1, .inl 160)], [.inl 0], t104, n, 0)) rfl (fun _ => rfl) rfl ?_
  refine ex_go (S := (51, [(2, .inl 0), (0, gx_r 383), (1, .inl 160)], [], t104, n, 0)) rfl (fun _ => rfl) rfl ?_
  refine sa_3 (tb := t104) (fun t107 g107 e107 => ?_) 64 0 _ rfl g104 (fun _ _ _ => rfl)
  have k8 : ai_hv t107 389 169 = some (.inl 4294967295) := (e107 389 169 (by first | decide | omega)).trans k5
  have k9 : ai_hv t107 389 170 = some (.inl 4294967295) := (e107 389 170 (by first | decide | omega)).trans k6
  have k10 : ai_hv t107 389 171 = some (.inl 4294967295) := (e107 389 171 (by first | decide | omega)).trans k104
  refine ex_go (S := (76, [(2, .inl 64), (0, gx_r 383), (1, .inl 160)], [gx_r 383], t107, n, 0)) rfl (fun _ => rfl) rfl ?_
  refine gx_ref (c := 389) rfl g107 rfl rfl rfl rfl ?_
  refine ex_go (S := (80, [(2, .inl 64), (0, gx_r 383), (1, .inl 160)], [.inl 160, gx_r 389], t107, n, 0)) rfl (fun _ => rfl) rfl ?_
  refine ex_go (S := (81, [(2, .inl 64), (0, gx_r 383), (1, .inl 160)], [.inl 5, .inl 160, gx_r 389], t107, n, 0)) rfl (fun _ => rfl) rfl ?_
  refine ex_go (S := (82, [(2, .inl 64), (0, gx_r 383), (1, .inl 160)], [.inl 165, gx_r 389], t107, n, 0)) rfl (fun _ => rfl) rfl ?_
  refine ex_go (S := (83, [(2, .inl 64), (0, gx_r 383), (1, .inl 160)], [.inl 2, .inl 165, gx_r 389], t107, n, 0)) rfl (fun _ => rfl) rfl ?_
  refine gx_ap rfl (fun _ => rfl) g107 rfl rfl rfl (show 165 < 320 from by omega) rfl (ai_in_h (by first | decide | omega) (by first | decide | omega) (by first | decide | omega)) rfl (fun t111 g111 k111 e111 => ?_)
  have k12 : ai_hv t111 389 169 = some (.inl 4294967295) := (e111 389 169 (by first | decide | omega)).trans k8
  have k13 : ai_hv t111 389 170 = some (.inl 4294967295) := (e111 389 170 (by first | decide | omega)).trans k9
  have k14 : ai_hv t111 389 171 = some (.inl 4294967295) := (e111 389 171 (by first | decide | omega)).trans k10
  refine ex_ret (r := (none, t111, n, 0)) rfl (fun _ => rfl) ?_
  refine ⟨_, rfl, t111, rfl, g111, (fun c i h => (e111 c i (by first | decide | omega)).trans ((e107 c i (by first | decide | omega)).trans ((e104 c i (by first | decide | omega)).trans ((e102 c i (by first | decide | omega)).trans ((e101 c i (by first | decide | omega)).trans (e1 c i (by first | decide | omega))))))), (fun i h1 h2 h3 => (e111 389 i (by first | decide | omega)).trans ((e107 389 i (by first | decide | omega)).trans ((e104 389 i (by first | decide | omega)).trans ((e102 389 i (by first | decide | omega)).trans ((e101 389 i (by first | decide | omega)).trans (z1 i (by first | decide | omega) (by first | decide | omega))))))), k111, fun l hl => ?_⟩
  rcases (show l = 0 ∨ l = 1 ∨ l = 2 by omega) with rfl | rfl | rfl
  · exact k12
  · exact k13
  · exact k14
theorem pk_crewOf0 (d n : Nat) {t0 : en_H} (g0 : ai_HG ah_G t0) : ∃ r, en_u (d + 1) 29 [gx_r 383, .inl 0, .inl 2] t0 n = some r ∧ ∃ b, r = (some (.inl b), t0, n, 0) ∧ b ≤ 9999 := by
  refine en_u_ex rfl ?_
  show en_ex _ _ _ _ (0, [(0, gx_r 383), (1, .inl 0), (2, .inl 2)], [], t0, n, 0) _
  refine ex_go (S := (1, [(0, gx_r 383), (1, .inl 0), (2, .inl 2)], [gx_r 383], t0, n, 0)) rfl (fun _ => rfl) rfl ?_
  refine gx_ref (c := 389) rfl g0 rfl rfl rfl rfl ?_
  refine ex_go (S := (6, [(0, gx_r 383), (1, .inl 0), (2, .inl 2)], [.inl 118, gx_r 389], t0, n, 0)) rfl (fun _ => rfl) rfl ?_
  refine ex_go (S := (7, [(0, gx_r 383), (1, .inl 0), (2, .inl 2)], [.inl 3, .inl 118, gx_r 389], t0, n, 0)) rfl (fun _ => rfl) rfl ?_
  refine ex_go (S := (8, [(0, gx_r 383), (1, .inl 0), (2, .inl 2)], [.inl 0, .inl 3, .inl 118, gx_r 389], t0, n, 0)) rfl (fun _ => rfl) rfl ?_
  refine ex_go (S := (9, [(0, gx_r 383), (1, .inl 0), (2, .inl 2)], [.inl 0, .inl 118, gx_r 389], t0, n, 0)) rfl (fun _ => rfl) rfl ?_
  refine ex_go (S := (10, [(0, gx_r 383), (1, .inl 0), (2, .inl 2)], [.inl 118, gx_r 389], t0, n, 0)) rfl (fun _ => rfl) rfl ?_
  refine ex_go (S := (11, [(0, gx_r 383), (1, .inl 0), (2, .inl 2)], [.inl 2, .inl 118, gx_r 389], t0, n, 0)) rfl (fun _ => rfl) rfl ?_
  refine ex_go (S := (12, [(0, gx_r 383), (1, .inl 0), (2, .inl 2)], [.inl 120, gx_r 389], t0, n, 0)) rfl (fun _ => rfl) rfl ?_
  obtain ⟨m1, k2, m1l, m1h⟩ := gx_in (c := 389) (i := 120) (lo := 0) (hi := 9999) g0 rfl rfl rfl rfl
  refine gx_ag (v := .inl m1) (cb := fun c => Nat.beq c 0) rfl (fun _ => rfl) g0 rfl rfl k2 (by first | decide | omega) rfl ?_
  refine ex_ret (r := (some (.inl m1), t0, n, 0)) rfl (fun _ => rfl) ?_
  exact ⟨_, rfl, m1, rfl, by omega⟩
theorem pk_crewOf1 (d n : Nat) {t0 : en_H} (g0 : ai_HG ah_G t0) : ∃ r, en_u (d + 1) 29 [gx_r 383, .inl 1, .inl 2] t0 n = some r ∧ ∃ b, r = (some (.inl b), t0, n, 0) ∧ b ≤ 9999 := by
  refine en_u_ex rfl ?_
  show en_ex _ _ _ _ (0, [(0, gx_r 383), (1, .inl 1), (2, .inl 2)], [], t0, n, 0) _
  refine ex_go (S := (1, [(0, gx_r 383), (1, .inl 1), (2, .inl 2)], [gx_r 383], t0, n, 0)) rfl (fun _ => rfl) rfl ?_
  refine gx_ref (c := 389) rfl g0 rfl rfl rfl rfl ?_
  refine ex_go (S := (6, [(0, gx_r 383), (1, .inl 1), (2, .inl 2)], [.inl 118, gx_r 389], t0, n, 0)) rfl (fun _ => rfl) rfl ?_
  refine ex_go (S := (7, [(0, gx_r 383), (1, .inl 1), (2, .inl 2)], [.inl 3, .inl 118, gx_r 389], t0, n, 0)) rfl (fun _ => rfl) rfl ?_
  refine ex_go (S := (8, [(0, gx_r 383), (1, .inl 1), (2, .inl 2)], [.inl 1, .inl 3, .inl 118, gx_r 389], t0, n, 0)) rfl (fun _ => rfl) rfl ?_
  refine ex_go (S := (9, [(0, gx_r 383), (1, .inl 1), (2, .inl 2)], [.inl 3, .inl 118, gx_r 389], t0, n, 0)) rfl (fun _ => rfl) rfl ?_
  refine ex_go (S := (10, [(0, gx_r 383), (1, .inl 1), (2, .inl 2)], [.inl 121, gx_r 389], t0, n, 0)) rfl (fun _ => rfl) rfl ?_
  refine ex_go (S := (11, [(0, gx_r 383), (1, .inl 1), (2, .inl 2)], [.inl 2, .inl 121, gx_r 389], t0, n, 0)) rfl (fun _ => rfl) rfl ?_
  refine ex_go (S := (12, [(0, gx_r 383), (1, .inl 1), (2, .inl 2)], [.inl 123, gx_r 389], t0, n, 0)) rfl (fun _ => rfl) rfl ?_
  obtain ⟨m1, k2, m1l, m1h⟩ := gx_in (c := 389) (i := 123) (lo := 0) (hi := 9999) g0 rfl rfl rfl rfl
  refine gx_ag (v := .inl m1) (cb := fun c => Nat.beq c 0) rfl (fun _ => rfl) g0 rfl rfl k2 (by first | decide | omega) rfl ?_
  refine ex_ret (r := (some (.inl m1), t0, n, 0)) rfl (fun _ => rfl) ?_
  exact ⟨_, rfl, m1, rfl, by omega⟩
set_option maxRecDepth 100000 in
theorem pk_starts0 (d n : Nat) {t0 : en_H} (g0 : ai_HG ah_G t0) : ∃ r, en_u (d + 2) 28 [gx_r 383, .inl 0] t0 n = some r ∧ ∃ t', r = (none, t', n, 0) ∧ ai_HG ah_G t' ∧ (∀ c i, ¬ (c = 399 ∧ 0 ≤ i ∧ i < 17) → ai_hv t' c i = ai_hv t0 c i) ∧ ai_En t' 399 7 0 9999 ∧ ai_En t' 399 8 0 9999 := by
  refine en_u_ex (d := d + 1) rfl ?_
  show en_ex _ _ _ _ (0, [(0, gx_r 383), (1, .inl 0)], [], t0, n, 0) _
  refine ex_go (S := (1, [(0, gx_r 383), (1, .inl 0)], [gx_r 383], t0, n, 0)) rfl (fun _ => rfl) rfl ?_
  refine gx_ref (c := 399) rfl g0 rfl rfl rfl rfl ?_
  refine ex_go (S := (5, [(0, gx_r 383), (1, .inl 0)], [.inl 0, gx_r 399], t0, n, 0)) rfl (fun _ => rfl) rfl ?_
  refine ex_go (S := (6, [(0, gx_r 383), (1, .inl 0)], [.inl 0, .inl 0, gx_r 399], t0, n, 0)) rfl (fun _ => rfl) rfl ?_
  refine ex_go (S := (7, [(0, gx_r 383), (1, .inl 0)], [.inl 0, gx_r 399], t0, n, 0)) rfl (fun _ => rfl) rfl ?_
  refine ex_go (S := (8, [(0, gx_r 383), (1, .inl 0)], [.inl 0, .inl 0, gx_r 399], t0, n, 0)) rfl (fun _ => rfl) rfl ?_
  refine gx_ap rfl (fun _ => rfl) g0 rfl rfl rfl (show 0 < 1035 from by omega) rfl (gx_full (by first | decide | omega)) rfl (fun t101 g101 k101 e101 => ?_)
  refine ex_go (S := (10, [(0, gx_r 383), (1, .inl 0)], [.inl 0], t101, n, 0)) rfl (fun _ => rfl) rfl ?_
  refine ex_go (S := (11, [(2, .inl 0), (0, gx_r 383), (1, .inl 0)], [], t101, n, 0)) rfl (fun _ => rfl) rfl ?_
  refine ex_go (S := (12, [(2, .inl 0), (0, gx_r 383), (1, .inl 0)], [.inl 0], t101, n, 0)) rfl (fun _ => rfl) rfl ?_
  refine ex_go (S := (14, [(2, .inl 0), (0, gx_r 383), (1, .inl 0)], [.inl 6, .inl 0], t101, n, 0)) rfl (fun _ => rfl) rfl ?_
  refine ex_go (S := (17, [(2, .inl 0), (0, gx_r 383), (1, .inl 0)], [], t101, n, 0)) rfl (fun _ => rfl) rfl ?_
  refine ex_go (S := (18, [(2, .inl 0), (0, gx_r 383), (1, .inl 0)], [gx_r 383], t101, n, 0)) rfl (fun _ => rfl) rfl ?_
  refine gx_ref (c := 399) rfl g101 rfl rfl rfl rfl ?_
  refine ex_go (S := (22, [(2, .inl 0), (0, gx_r 383), (1, .inl 0)], [.inl 0, gx_r 399], t101, n, 0)) rfl (fun _ => rfl) rfl ?_
  refine ex_go (S := (23, [(2, .inl 0), (0, gx_r 383), (1, .inl 0)], [.inl 1, .inl 0, gx_r 399], t101, n, 0)) rfl (fun _ => rfl) rfl ?_
  refine ex_go (S := (24, [(2, .inl 0), (0, gx_r 383), (1, .inl 0)], [.inl 1, gx_r 399], t101, n, 0)) rfl (fun _ => rfl) rfl ?_
  refine ex_go (S := (25, [(2, .inl 0), (0, gx_r 383), (1, .inl 0)], [.inl 0, .inl 1, gx_r 399], t101, n, 0)) rfl (fun _ => rfl) rfl ?_
  refine ex_go (S := (26, [(2, .inl 0), (0, gx_r 383), (1, .inl 0)], [.inl 1, gx_r 399], t101, n, 0)) rfl (fun _ => rfl) rfl ?_
  refine ex_go (S := (27, [(2, .inl 0), (0, gx_r 383), (1, .inl 0)], [gx_r 383, .inl 1, gx_r 399], t101, n, 0)) rfl (fun _ => rfl) rfl ?_
  refine gx_ref (c := 389) rfl g101 rfl rfl rfl rfl ?_
  refine ex_go (S := (32, [(2, .inl 0), (0, gx_r 383), (1, .inl 0)], [.inl 76, gx_r 389, .inl 1, gx_r 399], t101, n, 0)) rfl (fun _ => rfl) rfl ?_
  refine ex_go (S := (33, [(2, .inl 0), (0, gx_r 383), (1, .inl 0)], [.inl 3, .inl 76, gx_r 389, .inl 1, gx_r 399], t101, n, 0)) rfl (fun _ => rfl) rfl ?_
  refine ex_go (S := (34, [(2, .inl 0), (0, gx_r 383), (1, .inl 0)], [.inl 0, .inl 3, .inl 76, gx_r 389, .inl 1, gx_r 399], t101, n, 0)) rfl (fun _ => rfl) rfl ?_
  refine ex_go (S := (35, [(2, .inl 0), (0, gx_r 383), (1, .inl 0)], [.inl 0, .inl 76, gx_r 389, .inl 1, gx_r 399], t101, n, 0)) rfl (fun _ => rfl) rfl ?_
  refine ex_go (S := (36, [(2, .inl 0), (0, gx_r 383), (1, .inl 0)], [.inl 76, gx_r 389, .inl 1, gx_r 399], t101, n, 0)) rfl (fun _ => rfl) rfl ?_
  refine ex_go (S := (37, [(2, .inl 0), (0, gx_r 383), (1, .inl 0)], [.inl 1, .inl 76, gx_r 389, .inl 1, gx_r 399], t101, n, 0)) rfl (fun _ => rfl) rfl ?_
  refine ex_go (S := (38, [(2, .inl 0), (0, gx_r 383), (1, .inl 0)], [.inl 77, gx_r 389, .inl 1, gx_r 399], t101, n, 0)) rfl (fun _ => rfl) rfl ?_
  obtain ⟨m2, k3, m2l, m2h⟩ := gx_in (c := 389) (i := 77) (lo := 0) (hi := 7) g101 rfl rfl rfl rfl
  refine gx_ag (v := .inl m2) (cb := fun c => Nat.beq c 0) rfl (fun _ => rfl) g101 rfl rfl k3 (by first | decide | omega) rfl ?_
  refine ex_go (S := (41, [(2, .inl 0), (0, gx_r 383), (1, .inl 0)], [.inl 8, .inl m2, .inl 1, gx_r 399], t101, n, 0)) rfl (fun _ => rfl) rfl ?_
  refine ex_go (S := (42, [(2, .inl 0), (0, gx_r 383), (1, .inl 0)], [gx_r 383, .inl 8, .inl m2, .inl 1, gx_r 399], t101, n, 0)) rfl (fun _ => rfl) rfl ?_
  refine gx_ref (c := 389) rfl g101 rfl rfl rfl rfl ?_
  refine ex_go (S := (47, [(2, .inl 0), (0, gx_r 383), (1, .inl 0)], [.inl 76, gx_r 389, .inl 8, .inl m2, .inl 1, gx_r 399], t101, n, 0)) rfl (fun _ => rfl) rfl ?_
  refine ex_go (S := (48, [(2, .inl 0), (0, gx_r 383), (1, .inl 0)], [.inl 3, .inl 76, gx_r 389, .inl 8, .inl m2, .inl 1, gx_r 399], t101, n, 0)) rfl (fun _ => rfl) rfl ?_
  refine ex_go (S := (49, [(2, .inl 0), (0, gx_r 383), (1, .inl 0)], [.inl 0, .inl 3, .inl 76, gx_r 389, .inl 8, .inl m2, .inl 1, gx_r 399], t101, n, 0)) rfl (fun _ => rfl) rfl ?_
  refine ex_go (S := (50, [(2, .inl 0), (0, gx_r 383), (1, .inl 0)], [.inl 0, .inl 76, gx_r 389, .inl 8, .inl m2, .inl 1, gx_r 399], t101, n, 0)) rfl (fun _ => rfl) rfl ?_
  refine ex_go (S := (51, [(2, .inl 0), (0, gx_r 383), (1, .inl 0)], [.inl 76, gx_r 389, .inl 8, .inl m2, .inl 1, gx_r 399], t101, n, 0)) rfl (fun _ => rfl) rfl ?_
  refine ex_go (S := (52, [(2, .inl 0), (0, gx_r 383), (1, .inl 0)], [.inl 2, .inl 76, gx_r 389, .inl 8, .inl m2, .inl 1, gx_r 399], t101, n, 0)) rfl (fun _ => rfl) rfl ?_
  refine ex_go (S := (53, [(2, .inl 0), (0, gx_r 383), (1, .inl 0)], [.inl 78, gx_r 389, .inl 8, .inl m2, .inl 1, gx_r 399], t101, n, 0)) rfl (fun _ => rfl) rfl ?_
  obtain ⟨m4, k5, m4l, m4h⟩ := gx_in (c := 389) (i := 78) (lo := 0) (hi := 7) g101 rfl rfl rfl rfl
  refine gx_ag (v := .inl m4) (cb := fun c => Nat.beq c 0) rfl (fun _ => rfl) g101 rfl rfl k5 (by first | decide | omega) rfl ?_
  refine gx_imul rfl (by first | decide | omega) rfl ?_
  refine ex_iadd rfl (by first | decide | omega) rfl ?_
  refine gx_ap rfl (fun _ => rfl) g101 rfl rfl rfl (show 1 < 1035 from by omega) rfl (ai_in_h (by first | decide | omega) (by first | decide | omega) (by first | decide | omega)) rfl (fun t106 g106 k106 e106 => ?_)
  refine ex_go (S := (60, [(2, .inl 1), (0, gx_r 383), (1, .inl 0)], [], t106, n, 0)) rfl (fun _ => rfl) rfl ?_
  refine ex_go (S := (11, [(2, .inl 1), (0, gx_r 383), (1, .inl 0)], [], t106, n, 0)) rfl (fun _ => rfl) rfl ?_
  refine ex_go (S := (12, [(2, .inl 1), (0, gx_r 383), (1, .inl 0)], [.inl 1], t106, n, 0)) rfl (fun _ => rfl) rfl ?_
  refine ex_go (S := (14, [(2, .inl 1), (0, gx_r 383), (1, .inl 0)], [.inl 6, .inl 1], t106, n, 0)) rfl (fun _ => rfl) rfl ?_
  refine ex_go (S := (17, [(2, .inl 1), (0, gx_r 383), (1, .inl 0)], [], t106, n, 0)) rfl (fun _ => rfl) rfl ?_
  refine ex_go (S := (18, [(2, .inl 1), (0, gx_r 383), (1, .inl 0)], [gx_r 383], t106, n, 0)) rfl (fun _ => rfl) rfl ?_
  refine gx_ref (c := 399) rfl g106 rfl rfl rfl rfl ?_
  refine ex_go (S := (22, [(2, .inl 1), (0, gx_r 383), (1, .inl 0)], [.inl 0, gx_r 399], t106, n, 0)) rfl (fun _ => rfl) rfl ?_
  refine ex_go (S := (23, [(2, .inl 1), (0, gx_r 383), (1, .inl 0)], [.inl 1, .inl 0, gx_r 399], t106, n, 0)) rfl (fun _ => rfl) rfl ?_
  refine ex_go (S := (24, [(2, .inl 1), (0, gx_r 383), (1, .inl 0)], [.inl 1, gx_r 399], t106, n, 0)) rfl (fun _ => rfl) rfl ?_
  refine ex_go (S := (25, [(2, .inl 1), (0, gx_r 383), (1, .inl 0)], [.inl 1, .inl 1, gx_r 399], t106, n, 0)) rfl (fun _ => rfl) rfl ?_
  refine ex_go (S := (26, [(2, .inl 1), (0, gx_r 383), (1, .inl 0)], [.inl 2, gx_r 399], t106, n, 0)) rfl (fun _ => rfl) rfl ?_
  refine ex_go (S := (27, [(2, .inl 1), (0, gx_r 383), (1, .inl 0)], [gx_r 383, .inl 2, gx_r 399], t106, n, 0)) rfl (fun _ => rfl) rfl ?_
  refine gx_ref (c := 389) rfl g106 rfl rfl rfl rfl ?_
  refine ex_go (S := (32, [(2, .inl 1), (0, gx_r 383), (1, .inl 0)], [.inl 76, gx_r 389, .inl 2, gx_r 399], t106, n, 0)) rfl (fun _ => rfl) rfl ?_
  refine ex_go (S := (33, [(2, .inl 1), (0, gx_r 383), (1, .inl 0)], [.inl 3, .inl 76, gx_r 389, .inl 2, gx_r 399], t106, n, 0)) rfl (fun _ => rfl) rfl ?_
  refine ex_go (S := (34, [(2, .inl 1), (0, gx_r 383), (1, .inl 0)], [.inl 1, .inl 3, .inl 76, gx_r 389, .inl 2, gx_r 399], t106, n, 0)) rfl (fun _ => rfl) rfl ?_
  refine ex_go (S := (35, [(2, .inl 1), (0, gx_r 383), (1, .inl 0)], [.inl 3, .inl 76, gx_r 389, .inl 2, gx_r 399], t106, n, 0)) rfl (fun _ => rfl) rfl ?_
  refine ex_go (S := (36, [(2, .inl 1), (0, gx_r 383), (1, .inl 0)], [.inl 79, gx_r 389, .inl 2, gx_r 399], t106, n, 0)) rfl (fun _ => rfl) rfl ?_
  refine ex_go (S := (37, [(2, .inl 1), (0, gx_r 383), (1, .inl 0)], [.inl 1, .inl 79, gx_r 389, .inl 2, gx_r 399], t106, n, 0)) rfl (fun _ => rfl) rfl ?_
  refine ex_go (S := (38, [(2, .inl 1), (0, gx_r 383), (1, .inl 0)], [.inl 80, gx_r 389, .inl 2, gx_r 399], t106, n, 0)) rfl (fun _ => rfl) rfl ?_
  obtain ⟨m7, k8, m7l, m7h⟩ := gx_in (c := 389) (i := 80) (lo := 0) (hi := 7) g106 rfl rfl rfl rfl
  refine gx_ag (v := .inl m7) (cb := fun c => Nat.beq c 0) rfl (fun _ => rfl) g106 rfl rfl k8 (by first | decide | omega) rfl ?_
  refine ex_go (S := (41, [(2, .inl 1), (0, gx_r 383), (1, .inl 0)], [.inl 8, .inl m7, .inl 2, gx_r 399], t106, n, 0)) rfl (fun _ => rfl) rfl ?_
  refine ex_go (S := (42, [(2, .inl 1), (0, gx_r 383), (1, .inl 0)], [gx_r 383, .inl 8, .inl m7, .inl 2, gx_r 399], t106, n, 0)) rfl (fun _ => rfl) rfl ?_
  refine gx_ref (c := 389) rfl g106 rfl rfl rfl rfl ?_
  refine ex_go (S := (47, [(2, .inl 1), (0, gx_r 383), (1, .inl 0)], [.inl 76, gx_r 389, .inl 8, .inl m7, .inl 2, gx_r 399], t106, n, 0)) rfl (fun _ => rfl) rfl ?_
  refine ex_go (S := (48, [(2, .inl 1), (0, gx_r 383), (1, .inl 0)], [.inl 3, .inl 76, gx_r 389, .inl 8, .inl m7, .inl 2, gx_r 399], t106, n, 0)) rfl (fun _ => rfl) rfl ?_
  refine ex_go (S := (49, [(2, .inl 1), (0, gx_r 383), (1, .inl 0)], [.inl 1, .inl 3, .inl 76, gx_r 389, .inl 8, .inl m7, .inl 2, gx_r 399], t106, n, 0)) rfl (fun _ => rfl) rfl ?_
  refine ex_go (S := (50, [(2, .inl 1), (0, gx_r 383), (1, .inl 0)], [.inl 3, .inl 76, gx_r 389, .inl 8, .inl m7, .inl 2, gx_r 399], t106, n, 0)) rfl (fun _ => rfl) rfl ?_
  refine ex_go (S := (51, [(2, .inl 1), (0, gx_r 383), (1, .inl 0)], [.inl 79, gx_r 389, .inl 8, .inl m7, .inl 2, gx_r 399], t106, n, 0)) rfl (fun _ => rfl) rfl ?_
  refine ex_go (S := (52, [(2, .inl 1), (0, gx_r 383), (1, .inl 0)], [.inl 2, .inl 79, gx_r 389, .inl 8, .inl m7, .inl 2, gx_r 399], t106, n, 0)) rfl (fun _ => rfl) rfl ?_
  refine ex_go (S := (53, [(2, .inl 1), (0, gx_r 383), (1, .inl 0)], [.inl 81, gx_r 389, .inl 8, .inl m7, .inl 2, gx_r 399], t106, n, 0)) rfl (fun _ => rfl) rfl ?_
  obtain ⟨m9, k10, m9l, m9h⟩ := gx_in (c := 389) (i := 81) (lo := 0) (hi := 7) g106 rfl rfl rfl rfl
  refine gx_ag (v := .inl m9) (cb := fun c => Nat.beq c 0) rfl (fun _ => rfl) g106 rfl rfl k10 (by first | decide | omega) rfl ?_
  refine gx_imul rfl (by first | decide | omega) rfl ?_
  refine ex_iadd rfl (by first | decide | omega) rfl ?_
  refine gx_ap rfl (fun _ => rfl) g106 rfl rfl rfl (show 2 < 1035 from by omega) rfl (ai_in_h (by first | decide | omega) (by first | decide | omega) (by first | decide | omega)) rfl (fun t111 g111 k111 e111 => ?_)
  refine ex_go (S := (60, [(2, .inl 2), (0, gx_r 383), (1, .inl 0)], [], t111, n, 0)) rfl (fun _ => rfl) rfl ?_
  refine ex_go (S := (11, [(2, .inl 2), (0, gx_r 383), (1, .inl 0)], [], t111, n, 0)) rfl (fun _ => rfl) rfl ?_
  refine ex_go (S := (12, [(2, .inl 2), (0, gx_r 383), (1, .inl 0)], [.inl 2], t111, n, 0)) rfl (fun _ => rfl) rfl ?_
  refine ex_go (S := (14, [(2, .inl 2), (0, gx_r 383), (1, .inl 0)], [.inl 6, .inl 2], t111, n, 0)) rfl (fun _ => rfl) rfl ?_
  refine ex_go (S := (17, [(2, .inl 2), (0, gx_r 383), (1, .inl 0)], [], t111, n, 0)) rfl (fun _ => rfl) rfl ?_
  refine ex_go (S := (18, [(2, .inl 2), (0, gx_r 383), (1, .inl 0)], [gx_r 383], t111, n, 0)) rfl (fun _ => rfl) rfl ?_
  refine gx_ref (c := 399) rfl g111 rfl rfl rfl rfl ?_
  refine ex_go (S := (22, [(2, .inl 2), (0, gx_r 383), (1, .inl 0)], [.inl 0, gx_r 399], t111, n, 0)) rfl (fun _ => rfl) rfl ?_
  refine ex_go (S := (23, [(2, .inl 2), (0, gx_r 383), (1, .inl 0)], [.inl 1, .inl 0, gx_r 399], t111, n, 0)) rfl (fun _ => rfl) rfl ?_
  refine ex_go (S := (24, [(2, .inl 2), (0, gx_r 383), (1, .inl 0)], [.inl 1, gx_r 399], t111, n, 0)) rfl (fun _ => rfl) rfl ?_
  refine ex_go (S := (25, [(2, .inl 2), (0, gx_r 383), (1, .inl 0)], [.inl 2, .inl 1, gx_r 399], t111, n, 0)) rfl (fun _ => rfl) rfl ?_
  refine ex_go (S := (26, [(2, .inl 2), (0, gx_r 383), (1, .inl 0)], [.inl 3, gx_r 399], t111, n, 0)) rfl (fun _ => rfl) rfl ?_
  refine ex_go (S := (27, [(2, .inl 2), (0, gx_r 383), (1, .inl 0)], [gx_r 383, .inl 3, gx_r 399], t111, n, 0)) rfl (fun _ => rfl) rfl ?_
  refine gx_ref (c := 389) rfl g111 rfl rfl rfl rfl ?_
  refine ex_go (S := (32, [(2, .inl 2), (0, gx_r 383), (1, .inl 0)], [.inl 76, gx_r 389, .inl 3, gx_r 399], t111, n, 0)) rfl (fun _ => rfl) rfl ?_
  refine ex_go (S := (33, [(2, .inl 2), (0, gx_r 383), (1, .inl 0)], [.inl 3, .inl 76, gx_r 389, .inl 3, gx_r 399], t111, n, 0)) rfl (fun _ => rfl) rfl ?_
  refine ex_go (S := (34, [(2, .inl 2), (0, gx_r 383), (1, .inl 0)], [.inl 2, .inl 3, .inl 76, gx_r 389, .inl 3, gx_r 399], t111, n, 0)) rfl (fun _ => rfl) rfl ?_
  refine ex_go (S := (35, [(2, .inl 2), (0, gx_r 383), (1, .inl 0)], [.inl 6, .inl 76, gx_r 389, .inl 3, gx_r 399], t111, n, 0)) rfl (fun _ => rfl) rfl ?_
  refine ex_go (S := (36, [(2, .inl 2), (0, gx_r 383), (1, .inl 0)], [.inl 82, gx_r 389, .inl 3, gx_r 399], t111, n, 0)) rfl (fun _ => rfl) rfl ?_
  refine ex_go (S := (37, [(2, .inl 2), (0, gx_r 383), (1, .inl 0)], [.inl 1, .inl 82, gx_r 389, .inl 3, gx_r 399], t111, n, 0)) rfl (fun _ => rfl) rfl ?_
  refine ex_go (S := (38, [(2, .inl 2), (0, gx_r 383), (1, .inl 0)], [.inl 83, gx_r 389, .inl 3, gx_r 399], t111, n, 0)) rfl (fun _ => rfl) rfl ?_
  obtain ⟨m12, k13, m12l, m12h⟩ := gx_in (c := 389) (i := 83) (lo := 0) (hi := 7) g111 rfl rfl rfl rfl
  refine gx_ag (v := .inl m12) (cb := fun c => Nat.beq c 0) rfl (fun _ => rfl) g111 rfl rfl k13 (by first | decide | omega) rfl ?_
  refine ex_go (S := (41, [(2, .inl 2), (0, gx_r 383), (1, .inl 0)], [.inl 8, .inl m12, .inl 3, gx_r 399], t111, n, 0)) rfl (fun _ => rfl) rfl ?_
  refine ex_go (S := (42, [(2, .inl 2), (0, gx_r 383), (1, .inl 0)], [gx_r 383, .inl 8, .inl m12, .inl 3, gx_r 399], t111, n, 0)) rfl (fun _ => rfl) rfl ?_
  refine gx_ref (c := 389) rfl g111 rfl rfl rfl rfl ?_
  refine ex_go (S := (47, [(2, .inl 2), (0, gx_r 383), (1, .inl 0)], [.inl 76, gx_r 389, .inl 8, .inl m12, .inl 3, gx_r 399], t111, n, 0)) rfl (fun _ => rfl) rfl ?_
  refine ex_go (S := (48, [(2, .inl 2), (0, gx_r 383), (1, .inl 0)], [.inl 3, .inl 76, gx_r 389, .inl 8, .inl m12, .inl 3, gx_r 399], t111, n, 0)) rfl (fun _ => rfl) rfl ?_
  refine ex_go (S := (49, [(2, .inl 2), (0, gx_r 383), (1, .inl 0)], [.inl 2, .inl 3, .inl 76, gx_r 389, .inl 8, .inl m12, .inl 3, gx_r 399], t111, n, 0)) rfl (fun _ => rfl) rfl ?_
  refine ex_go (S := (50, [(2, .inl 2), (0, gx_r 383), (1, .inl 0)], [.inl 6, .inl 76, gx_r 389, .inl 8, .inl m12, .inl 3, gx_r 399], t111, n, 0)) rfl (fun _ => rfl) rfl ?_
  refine ex_go (S := (51, [(2, .inl 2), (0, gx_r 383), (1, .inl 0)], [.inl 82, gx_r 389, .inl 8, .inl m12, .inl 3, gx_r 399], t111, n, 0)) rfl (fun _ => rfl) rfl ?_
  refine ex_go (S := (52, [(2, .inl 2), (0, gx_r 383), (1, .inl 0)], [.inl 2, .inl 82, gx_r 389, .inl 8, .inl m12, .inl 3, gx_r 399], t111, n, 0)) rfl (fun _ => rfl) rfl ?_
  refine ex_go (S := (53, [(2, .inl 2), (0, gx_r 383), (1, .inl 0)], [.inl 84, gx_r 389, .inl 8, .inl m12, .inl 3, gx_r 399], t111, n, 0)) rfl (fun _ => rfl) rfl ?_
  obtain ⟨m14, k15, m14l, m14h⟩ := gx_in (c := 389) (i := 84) (lo := 0) (hi := 7) g111 rfl rfl rfl rfl
  refine gx_ag (v := .inl m14) (cb := fun c => Nat.beq c 0) rfl (fun _ => rfl) g111 rfl rfl k15 (by first | decide | omega) rfl ?_
  refine gx_imul rfl (by first | decide | omega) rfl ?_
  refine ex_iadd rfl (by first | decide | omega) rfl ?_
  refine gx_ap rfl (fun _ => rfl) g111 rfl rfl rfl (show 3 < 1035 from by omega) rfl (ai_in_h (by first | decide | omega) (by first | decide | omega) (by first | decide | omega)) rfl (fun t116 g116 k116 e116 => ?_)
  refine ex_go (S := (60, [(2, .inl 3), (0, gx_r 383), (1, .inl 0)], [], t116, n, 0)) rfl (fun _ => rfl) rfl ?_
  refine ex_go (S := (11, [(2, .inl 3), (0, gx_r 383), (1, .inl 0)], [], t116, n, 0)) rfl (fun _ => rfl) rfl ?_
  refine ex_go (S := (12, [(2, .inl 3), (0, gx_r 383), (1, .inl 0)], [.inl 3], t116, n, 0)) rfl (fun _ => rfl) rfl ?_
  refine ex_go (S := (14, [(2, .inl 3), (0, gx_r 383), (1, .inl 0)], [.inl 6, .inl 3], t116, n, 0)) rfl (fun _ => rfl) rfl ?_
  refine ex_go (S := (17, [(2, .inl 3), (0, gx_r 383), (1, .inl 0)], [], t116, n, 0)) rfl (fun _ => rfl) rfl ?_
  refine ex_go (S := (18, [(2, .inl 3), (0, gx_r 383), (1, .inl 0)], [gx_r 383], t116, n, 0)) rfl (fun _ => rfl) rfl ?_
  refine gx_ref (c := 399) rfl g116 rfl rfl rfl rfl ?_
  refine ex_go (S := (22, [(2, .inl 3), (0, gx_r 383), (1, .inl 0)], [.inl 0, gx_r 399], t116, n, 0)) rfl (fun _ => rfl) rfl ?_
  refine ex_go (S := (23, [(2, .inl 3), (0, gx_r 383), (1, .inl 0)], [.inl 1, .inl 0, gx_r 399], t116, n, 0)) rfl (fun _ => rfl) rfl ?_
  refine ex_go (S := (24, [(2, .inl 3), (0, gx_r 383), (1, .inl 0)], [.inl 1, gx_r 399], t116, n, 0)) rfl (fun _ => rfl) rfl ?_
  refine ex_go (S := (25, [(2, .inl 3), (0, gx_r 383), (1, .inl 0)], [.inl 3, .inl 1, gx_r 399], t116, n, 0)) rfl (fun _ => rfl) rfl ?_
  refine ex_go (S := (26, [(2, .inl 3), (0, gx_r 383), (1, .inl 0)], [.inl 4, gx_r 399], t116, n, 0)) rfl (fun _ => rfl) rfl ?_
  refine ex_go (S := (27, [(2, .inl 3), (0, gx_r 383), (1, .inl 0)], [gx_r 383, .inl 4, gx_r 399], t116, n, 0)) rfl (fun _ => rfl) rfl ?_
  refine gx_ref (c := 389) rfl g116 rfl rfl rfl rfl ?_
  refine ex_go (S := (32, [(2, .inl 3), (0, gx_r 383), (1, .inl 0)], [.inl 76, gx_r 389, .inl 4, gx_r 399], t116, n, 0)) rfl (fun _ => rfl) rfl ?_
  refine ex_go (S := (33, [(2, .inl 3), (0, gx_r 383), (1, .inl 0)], [.inl 3, .inl 76, gx_r 389, .inl 4, gx_r 399], t116, n, 0)) rfl (fun _ => rfl) rfl ?_
  refine ex_go (S := (34, [(2, .inl 3), (0, gx_r 383), (1, .inl 0)], [.inl 3, .inl 3, .inl 76, gx_r 389, .inl 4, gx_r 399], t116, n, 0)) rfl (fun _ => rfl) rfl ?_
  refine ex_go (S := (35, [(2, .inl 3), (0, gx_r 383), (1, .inl 0)], [.inl 9, .inl 76, gx_r 389, .inl 4, gx_r 399], t116, n, 0)) rfl (fun _ => rfl) rfl ?_
  refine ex_go (S := (36, [(2, .inl 3), (0, gx_r 383), (1, .inl 0)], [.inl 85, gx_r 389, .inl 4, gx_r 399], t116, n, 0)) rfl (fun _ => rfl) rfl ?_
  refine ex_go (S := (37, [(2, .inl 3), (0, gx_r 383), (1, .inl 0)], [.inl 1, .inl 85, gx_r 389, .inl 4, gx_r 399], t116, n, 0)) rfl (fun _ => rfl) rfl ?_
  refine ex_go (S := (38, [(2, .inl 3), (0, gx_r 383), (1, .inl 0)], [.inl 86, gx_r 389, .inl 4, gx_r 399], t116, n, 0)) rfl (fun _ => rfl) rfl ?_
  obtain ⟨m17, k18, m17l, m17h⟩ := gx_in (c := 389) (i := 86) (lo := 0) (hi := 7) g116 rfl rfl rfl rfl
  refine gx_ag (v := .inl m17) (cb := fun c => Nat.beq c 0) rfl (fun _ => rfl) g116 rfl rfl k18 (by first | decide | omega) rfl ?_
  refine ex_go (S := (41, [(2, .inl 3), (0, gx_r 383), (1, .inl 0)], [.inl 8, .inl m17, .inl 4, gx_r 399], t116, n, 0)) rfl (fun _ => rfl) rfl ?_
  refine ex_go (S := (42, [(2, .inl 3), (0, gx_r 383), (1, .inl 0)], [gx_r 383, .inl 8, .inl m17, .inl 4, gx_r 399], t116, n, 0)) rfl (fun _ => rfl) rfl ?_
  refine gx_ref (c := 389) rfl g116 rfl rfl rfl rfl ?_
  refine ex_go (S := (47, [(2, .inl 3), (0, gx_r 383), (1, .inl 0)], [.inl 76, gx_r 389, .inl 8, .inl m17, .inl 4, gx_r 399], t116, n, 0)) rfl (fun _ => rfl) rfl ?_
  refine ex_go (S := (48, [(2, .inl 3), (0, gx_r 383), (1, .inl 0)], [.inl 3, .inl 76, gx_r 389, .inl 8, .inl m17, .inl 4, gx_r 399], t116, n, 0)) rfl (fun _ => rfl) rfl ?_
  refine ex_go (S := (49, [(2, .inl 3), (0, gx_r 383), (1, .inl 0)], [.inl 3, .inl 3, .inl 76, gx_r 389, .inl 8, .inl m17, .inl 4, gx_r 399], t116, n, 0)) rfl (fun _ => rfl) rfl ?_
  refine ex_go (S := (50, [(2, .inl 3), (0, gx_r 383), (1, .inl 0)], [.inl 9, .inl 76, gx_r 389, .inl 8, .inl m17, .inl 4, gx_r 399], t116, n, 0)) rfl (fun _ => rfl) rfl ?_
  refine ex_go (S := (51, [(2, .inl 3), (0, gx_r 383), (1, .inl 0)], [.inl 85, gx_r 389, .inl 8, .inl m17, .inl 4, gx_r 399], t116, n, 0)) rfl (fun _ => rfl) rfl ?_
  refine ex_go (S := (52, [(2, .inl 3), (0, gx_r 383), (1, .inl 0)], [.inl 2, .inl 85, gx_r 389, .inl 8, .inl m17, .inl 4, gx_r 399], t116, n, 0)) rfl (fun _ => rfl) rfl ?_
  refine ex_go (S := (53, [(2, .inl 3), (0, gx_r 383), (1, .inl 0)], [.inl 87, gx_r 389, .inl 8, .inl m17, .inl 4, gx_r 399], t116, n, 0)) rfl (fun _ => rfl) rfl ?_
  obtain ⟨m19, k20, m19l, m19h⟩ := gx_in (c := 389) (i := 87) (lo := 0) (hi := 7) g116 rfl rfl rfl rfl
  refine gx_ag (v := .inl m19) (cb := fun c => Nat.beq c 0) rfl (fun _ => rfl) g116 rfl rfl k20 (by first | decide | omega) rfl ?_
  refine gx_imul rfl (by first | decide | omega) rfl ?_
  refine ex_iadd rfl (by first | decide | omega) rfl ?_
  refine gx_ap rfl (fun _ => rfl) g116 rfl rfl rfl (show 4 < 1035 from by omega) rfl (ai_in_h (by first | decide | omega) (by first | decide | omega) (by first | decide | omega)) rfl (fun t121 g121 k121 e121 => ?_)
  refine ex_go (S := (60, [(2, .inl 4), (0, gx_r 383), (1, .inl 0)], [], t121, n, 0)) rfl (fun _ => rfl) rfl ?_
  refine ex_go (S := (11, [(2, .inl 4), (0, gx_r 383), (1, .inl 0)], [], t121, n, 0)) rfl (fun _ => rfl) rfl ?_
  refine ex_go (S := (12, [(2, .inl 4), (0, gx_r 383), (1, .inl 0)], [.inl 4], t121, n, 0)) rfl (fun _ => rfl) rfl ?_
  refine ex_go (S := (14, [(2, .inl 4), (0, gx_r 383), (1, .inl 0)], [.inl 6, .inl 4], t121, n, 0)) rfl (fun _ => rfl) rfl ?_
  refine ex_go (S := (17, [(2, .inl 4), (0, gx_r 383), (1, .inl 0)], [], t121, n, 0)) rfl (fun _ => rfl) rfl ?_
  refine ex_go (S := (18, [(2, .inl 4), (0, gx_r 383), (1, .inl 0)], [gx_r 383], t121, n, 0)) rfl (fun _ => rfl) rfl ?_
  refine gx_ref (c := 399) rfl g121 rfl rfl rfl rfl ?_
  refine ex_go (S := (22, [(2, .inl 4), (0, gx_r 383), (1, .inl 0)], [.inl 0, gx_r 399], t121, n, 0)) rfl (fun _ => rfl) rfl ?_
  refine ex_go (S := (23, [(2, .inl 4), (0, gx_r 383), (1, .inl 0)], [.inl 1, .inl 0, gx_r 399], t121, n, 0)) rfl (fun _ => rfl) rfl ?_
  refine ex_go (S := (24, [(2, .inl 4), (0, gx_r 383), (1, .inl 0)], [.inl 1, gx_r 399], t121, n, 0)) rfl (fun _ => rfl) rfl ?_
  refine ex_go (S := (25, [(2, .inl 4), (0, gx_r 383), (1, .inl 0)], [.inl 4, .inl 1, gx_r 399], t121, n, 0)) rfl (fun _ => rfl) rfl ?_
  refine ex_go (S := (26, [(2, .inl 4), (0, gx_r 383), (1, .inl 0)], [.inl 5, gx_r 399], t121, n, 0)) rfl (fun _ => rfl) rfl ?_
  refine ex_go (S := (27, [(2, .inl 4), (0, gx_r 383), (1, .inl 0)], [gx_r 383, .inl 5, gx_r 399], t121, n, 0)) rfl (fun _ => rfl) rfl ?_
  refine gx_ref (c := 389) rfl g121 rfl rfl rfl rfl ?_
  refine ex_go (S := (32, [(2, .inl 4), (0, gx_r 383), (1, .inl 0)], [.inl 76, gx_r 389, .inl 5, gx_r 399], t121, n, 0)) rfl (fun _ => rfl) rfl ?_
  refine ex_go (S := (33, [(2, .inl 4), (0, gx_r 383), (1, .inl 0)], [.inl 3, .inl 76, gx_r 389, .inl 5, gx_r 399], t121, n, 0)) rfl (fun _ => rfl) rfl ?_
  refine ex_go (S := (34, [(2, .inl 4), (0, gx_r 383), (1, .inl 0)], [.inl 4, .inl 3, .inl 76, gx_r 389, .inl 5, gx_r 399], t121, n, 0)) rfl (fun _ => rfl) rfl ?_
  refine ex_go (S := (35, [(2, .inl 4), (0, gx_r 383), (1, .inl 0)], [.inl 12, .inl 76, gx_r 389, .inl 5, gx_r 399], t121, n, 0)) rfl (fun _ => rfl) rfl ?_
  refine ex_go (S := (36, [(2, .inl 4), (0, gx_r 383), (1, .inl 0)], [.inl 88, gx_r 389, .inl 5, gx_r 399], t121, n, 0)) rfl (fun _ => rfl) rfl ?_
  refine ex_go (S := (37, [(2, .inl 4), (0, gx_r 383), (1, .inl 0)], [.inl 1, .inl 88, gx_r 389, .inl 5, gx_r 399], t121, n, 0)) rfl (fun _ => rfl) rfl ?_
  refine ex_go (S := (38, [(2, .inl 4), (0, gx_r 383), (1, .inl 0)], [.inl 89, gx_r 389, .inl 5, gx_r 399], t121, n, 0)) rfl (fun _ => rfl) rfl ?_
  obtain ⟨m22, k23, m22l, m22h⟩ := gx_in (c := 389) (i := 89) (lo := 0) (hi := 7) g121 rfl rfl rfl rfl
  refine gx_ag (v := .inl m22) (cb := fun c => Nat.beq c 0) rfl (fun _ => rfl) g121 rfl rfl k23 (by first | decide | omega) rfl ?_
  refine ex_go (S := (41, [(2, .inl 4), (0, gx_r 383), (1, .inl 0)], [.inl 8, .inl m22, .inl 5, gx_r 399], t121, n, 0)) rfl (fun _ => rfl) rfl ?_
  refine ex_go (S := (42, [(2, .inl 4), (0, gx_r 383), (1, .inl 0)], [gx_r 383, .inl 8, .inl m22, .inl 5, gx_r 399], t121, n, 0)) rfl (fun _ => rfl) rfl ?_
  refine gx_ref (c := 389) rfl g121 rfl rfl rfl rfl ?_
  refine ex_go (S := (47, [(2, .inl 4), (0, gx_r 383), (1, .inl 0)], [.inl 76, gx_r 389, .inl 8, .inl m22, .inl 5, gx_r 399], t121, n, 0)) rfl (fun _ => rfl) rfl ?_
  refine ex_go (S := (48, [(2, .inl 4), (0, gx_r 383), (1, .inl 0)], [.inl 3, .inl 76, gx_r 389, .inl 8, .inl m22, .inl 5, gx_r 399], t121, n, 0)) rfl (fun _ => rfl) rfl ?_
  refine ex_go (S := (49, [(2, .inl 4), (0, gx_r 383), (1, .inl 0)], [.inl 4, .inl 3, .inl 76, gx_r 389, .inl 8, .inl m22, .inl 5, gx_r 399], t121, n, 0)) rfl (fun _ => rfl) rfl ?_
  refine ex_go (S := (50, [(2, .inl 4), (0, gx_r 383), (1, .inl 0)], [.inl 12, .inl 76, gx_r 389, .inl 8, .inl m22, .inl 5, gx_r 399], t121, n, 0)) rfl (fun _ => rfl) rfl ?_
  refine ex_go (S := (51, [(2, .inl 4), (0, gx_r 383), (1, .inl 0)], [.inl 88, gx_r 389, .inl 8, .inl m22, .inl 5, gx_r 399], t121, n, 0)) rfl (fun _ => rfl) rfl ?_
  refine ex_go (S := (52, [(2, .inl 4), (0, gx_r 383), (1, .inl 0)], [.inl 2, .inl 88, gx_r 389, .inl 8, .inl m22, .inl 5, gx_r 399], t121, n, 0)) rfl (fun _ => rfl) rfl ?_
  refine ex_go (S := (53, [(2, .inl 4), (0, gx_r 383), (1, .inl 0)], [.inl 90, gx_r 389, .inl 8, .inl m22, .inl 5, gx_r 399], t121, n, 0)) rfl (fun _ => rfl) rfl ?_
  obtain ⟨m24, k25, m24l, m24h⟩ := gx_in (c := 389) (i := 90) (lo := 0) (hi := 7) g121 rfl rfl rfl rfl
  refine gx_ag (v := .inl m24) (cb := fun c => Nat.beq c 0) rfl (fun _ => rfl) g121 rfl rfl k25 (by first | decide | omega) rfl ?_
  refine gx_imul rfl (by first | decide | omega) rfl ?_
  refine ex_iadd rfl (by first | decide | omega) rfl ?_
  refine gx_ap rfl (fun _ => rfl) g121 rfl rfl rfl (show 5 < 1035 from by omega) rfl (ai_in_h (by first | decide | omega) (by first | decide | omega) (by first | decide | omega)) rfl (fun t126 g126 k126 e126 => ?_)
  refine ex_go (S := (60, [(2, .inl 5), (0, gx_r 383), (1, .inl 0)], [], t126, n, 0)) rfl (fun _ => rfl) rfl ?_
  refine ex_go (S := (11, [(2, .inl 5), (0, gx_r 383), (1, .inl 0)], [], t126, n, 0)) rfl (fun _ => rfl) rfl ?_
  refine ex_go (S := (12, [(2, .inl 5), (0, gx_r 383), (1, .inl 0)], [.inl 5], t126, n, 0)) rfl (fun _ => rfl) rfl ?_
  refine ex_go (S := (14, [(2, .inl 5), (0, gx_r 383), (1, .inl 0)], [.inl 6, .inl 5], t126, n, 0)) rfl (fun _ => rfl) rfl ?_
  refine ex_go (S := (17, [(2, .inl 5), (0, gx_r 383), (1, .inl 0)], [], t126, n, 0)) rfl (fun _ => rfl) rfl ?_
  refine ex_go (S := (18, [(2, .inl 5), (0, gx_r 383), (1, .inl 0)], [gx_r 383], t126, n, 0)) rfl (fun _ => rfl) rfl ?_
  refine gx_ref (c := 399) rfl g126 rfl rfl rfl rfl ?_
  refine ex_go (S := (22, [(2, .inl 5), (0, gx_r 383), (1, .inl 0)], [.inl 0, gx_r 399], t126, n, 0)) rfl (fun _ => rfl) rfl ?_
  refine ex_go (S := (23, [(2, .inl 5), (0, gx_r 383), (1, .inl 0)], [.inl 1, .inl 0, gx_r 399], t126, n, 0)) rfl (fun _ => rfl) rfl ?_
  refine ex_go (S := (24, [(2, .inl 5), (0, gx_r 383), (1, .inl 0)], [.inl 1, gx_r 399], t126, n, 0)) rfl (fun _ => rfl) rfl ?_
  refine ex_go (S := (25, [(2, .inl 5), (0, gx_r 383), (1, .inl 0)], [.inl 5, .inl 1, gx_r 399], t126, n, 0)) rfl (fun _ => rfl) rfl ?_
  refine ex_go (S := (26, [(2, .inl 5), (0, gx_r 383), (1, .inl 0)], [.inl 6, gx_r 399], t126, n, 0)) rfl (fun _ => rfl) rfl ?_
  refine ex_go (S := (27, [(2, .inl 5), (0, gx_r 383), (1, .inl 0)], [gx_r 383, .inl 6, gx_r 399], t126, n, 0)) rfl (fun _ => rfl) rfl ?_
  refine gx_ref (c := 389) rfl g126 rfl rfl rfl rfl ?_
  refine ex_go (S := (32, [(2, .inl 5), (0, gx_r 383), (1, .inl 0)], [.inl 76, gx_r 389, .inl 6, gx_r 399], t126, n, 0)) rfl (fun _ => rfl) rfl ?_
  refine ex_go (S := (33, [(2, .inl 5), (0, gx_r 383), (1, .inl 0)], [.inl 3, .inl 76, gx_r 389, .inl 6, gx_r 399], t126, n, 0)) rfl (fun _ => rfl) rfl ?_
  refine ex_go (S := (34, [(2, .inl 5), (0, gx_r 383), (1, .inl 0)], [.inl 5, .inl 3, .inl 76, gx_r 389, .inl 6, gx_r 399], t126, n, 0)) rfl (fun _ => rfl) rfl ?_
  refine ex_go (S := (35, [(2, .inl 5), (0, gx_r 383), (1, .inl 0)], [.inl 15, .inl 76, gx_r 389, .inl 6, gx_r 399], t126, n, 0)) rfl (fun _ => rfl) rfl ?_
  refine ex_go (S := (36, [(2, .inl 5), (0, gx_r 383), (1, .inl 0)], [.inl 91, gx_r 389, .inl 6, gx_r 399], t126, n, 0)) rfl (fun _ => rfl) rfl ?_
  refine ex_go (S := (37, [(2, .inl 5), (0, gx_r 383), (1, .inl 0)], [.inl 1, .inl 91, gx_r 389, .inl 6, gx_r 399], t126, n, 0)) rfl (fun _ => rfl) rfl ?_
  refine ex_go (S := (38, [(2, .inl 5), (0, gx_r 383), (1, .inl 0)], [.inl 92, gx_r 389, .inl 6, gx_r 399], t126, n, 0)) rfl (fun _ => rfl) rfl ?_
  obtain ⟨m27, k28, m27l, m27h⟩ := gx_in (c := 389) (i := 92) (lo := 0) (hi := 7) g126 rfl rfl rfl rfl
  refine gx_ag (v := .inl m27) (cb := fun c => Nat.beq c 0) rfl (fun _ => rfl) g126 rfl rfl k28 (by first | decide | omega) rfl ?_
  refine ex_go (S := (41, [(2, .inl 5), (0, gx_r 383), (1, .inl 0)], [.inl 8, .inl m27, .inl 6, gx_r 399], t126, n, 0)) rfl (fun _ => rfl) rfl ?_
  refine ex_go (S := (42, [(2, .inl 5), (0, gx_r 383), (1, .inl 0)], [gx_r 383, .inl 8, .inl m27, .inl 6, gx_r 399], t126, n, 0)) rfl (fun _ => rfl) rfl ?_
  refine gx_ref (c := 389) rfl g126 rfl rfl rfl rfl ?_
  refine ex_go (S := (47, [(2, .inl 5), (0, gx_r 383), (1, .inl 0)], [.inl 76, gx_r 389, .inl 8, .inl m27, .inl 6, gx_r 399], t126, n, 0)) rfl (fun _ => rfl) rfl ?_
  refine ex_go (S := (48, [(2, .inl 5), (0, gx_r 383), (1, .inl 0)], [.inl 3, .inl 76, gx_r 389, .inl 8, .inl m27, .inl 6, gx_r 399], t126, n, 0)) rfl (fun _ => rfl) rfl ?_
  refine ex_go (S := (49, [(2, .inl 5), (0, gx_r 383), (1, .inl 0)], [.inl 5, .inl 3, .inl 76, gx_r 389, .inl 8, .inl m27, .inl 6, gx_r 399], t126, n, 0)) rfl (fun _ => rfl) rfl ?_
  refine ex_go (S := (50, [(2, .inl 5), (0, gx_r 383), (1, .inl 0)], [.inl 15, .inl 76, gx_r 389, .inl 8, .inl m27, .inl 6, gx_r 399], t126, n, 0)) rfl (fun _ => rfl) rfl ?_
  refine ex_go (S := (51, [(2, .inl 5), (0, gx_r 383), (1, .inl 0)], [.inl 91, gx_r 389, .inl 8, .inl m27, .inl 6, gx_r 399], t126, n, 0)) rfl (fun _ => rfl) rfl ?_
  refine ex_go (S := (52, [(2, .inl 5), (0, gx_r 383), (1, .inl 0)], [.inl 2, .inl 91, gx_r 389, .inl 8, .inl m27, .inl 6, gx_r 399], t126, n, 0)) rfl (fun _ => rfl) rfl ?_
  refine ex_go (S := (53, [(2, .inl 5), (0, gx_r 383), (1, .inl 0)], [.inl 93, gx_r 389, .inl 8, .inl m27, .inl 6, gx_r 399], t126, n, 0)) rfl (fun _ => rfl) rfl ?_
  obtain ⟨m29, k30, m29l, m29h⟩ := gx_in (c := 389) (i := 93) (lo := 0) (hi := 7) g126 rfl rfl rfl rfl
  refine gx_ag (v := .inl m29) (cb := fun c => Nat.beq c 0) rfl (fun _ => rfl) g126 rfl rfl k30 (by first | decide | omega) rfl ?_
  refine gx_imul rfl (by first | decide | omega) rfl ?_
  refine ex_iadd rfl (by first | decide | omega) rfl ?_
  refine gx_ap rfl (fun _ => rfl) g126 rfl rfl rfl (show 6 < 1035 from by omega) rfl (ai_in_h (by first | decide | omega) (by first | decide | omega) (by first | decide | omega)) rfl (fun t131 g131 k131 e131 => ?_)
  refine ex_go (S := (60, [(2, .inl 6), (0, gx_r 383), (1, .inl 0)], [], t131, n, 0)) rfl (fun _ => rfl) rfl ?_
  refine ex_go (S := (11, [(2, .inl 6), (0, gx_r 383), (1, .inl 0)], [], t131, n, 0)) rfl (fun _ => rfl) rfl ?_
  refine ex_go (S := (12, [(2, .inl 6), (0, gx_r 383), (1, .inl 0)], [.inl 6], t131, n, 0)) rfl (fun _ => rfl) rfl ?_
  refine ex_go (S := (14, [(2, .inl 6), (0, gx_r 383), (1, .inl 0)], [.inl 6, .inl 6], t131, n, 0)) rfl (fun _ => rfl) rfl ?_
  refine ex_go (S := (63, [(2, .inl 6), (0, gx_r 383), (1, .inl 0)], [], t131, n, 0)) rfl (fun _ => rfl) rfl ?_
  refine ex_go (S := (64, [(2, .inl 6), (0, gx_r 383), (1, .inl 0)], [.inl 0], t131, n, 0)) rfl (fun _ => rfl) rfl ?_
  refine ex_go (S := (65, [(2, .inl 0), (0, gx_r 383), (1, .inl 0)], [], t131, n, 0)) rfl (fun _ => rfl) rfl ?_
  refine ex_go (S := (66, [(2, .inl 0), (0, gx_r 383), (1, .inl 0)], [.inl 0], t131, n, 0)) rfl (fun _ => rfl) rfl ?_
  refine ex_go (S := (67, [(2, .inl 0), (0, gx_r 383), (1, .inl 0)], [.inl 2, .inl 0], t131, n, 0)) rfl (fun _ => rfl) rfl ?_
  refine ex_go (S := (70, [(2, .inl 0), (0, gx_r 383), (1, .inl 0)], [], t131, n, 0)) rfl (fun _ => rfl) rfl ?_
  refine ex_go (S := (71, [(2, .inl 0), (0, gx_r 383), (1, .inl 0)], [gx_r 383], t131, n, 0)) rfl (fun _ => rfl) rfl ?_
  refine gx_ref (c := 399) rfl g131 rfl rfl rfl rfl ?_
  refine ex_go (S := (75, [(2, .inl 0), (0, gx_r 383), (1, .inl 0)], [.inl 0, gx_r 399], t131, n, 0)) rfl (fun _ => rfl) rfl ?_
  refine ex_go (S := (77, [(2, .inl 0), (0, gx_r 383), (1, .inl 0)], [.inl 7, .inl 0, gx_r 399], t131, n, 0)) rfl (fun _ => rfl) rfl ?_
  refine ex_go (S := (78, [(2, .inl 0), (0, gx_r 383), (1, .inl 0)], [.inl 7, gx_r 399], t131, n, 0)) rfl (fun _ => rfl) rfl ?_
  refine ex_go (S := (79, [(2, .inl 0), (0, gx_r 383), (1, .inl 0)], [.inl 0, .inl 7, gx_r 399], t131, n, 0)) rfl (fun _ => rfl) rfl ?_
  refine ex_go (S := (80, [(2, .inl 0), (0, gx_r 383), (1, .inl 0)], [.inl 7, gx_r 399], t131, n, 0)) rfl (fun _ => rfl) rfl ?_
  refine ex_go (S := (81, [(2, .inl 0), (0, gx_r 383), (1, .inl 0)], [gx_r 383, .inl 7, gx_r 399], t131, n, 0)) rfl (fun _ => rfl) rfl ?_
  refine ex_go (S := (82, [(2, .inl 0), (0, gx_r 383), (1, .inl 0)], [.inl 0, gx_r 383, .inl 7, gx_r 399], t131, n, 0)) rfl (fun _ => rfl) rfl ?_
  refine ex_go (S := (83, [(2, .inl 0), (0, gx_r 383), (1, .inl 0)], [.inl 2, .inl 0, gx_r 383, .inl 7, gx_r 399], t131, n, 0)) rfl (fun _ => rfl) rfl ?_
  obtain ⟨_, r32, b33, rfl, q34⟩ := pk_crewOf0 d n g131
  refine gx_call1 rfl rfl g131 rfl rfl r32 rfl ?_
  refine gx_ap rfl (fun _ => rfl) g131 rfl rfl rfl (show 7 < 1035 from by omega) rfl (ai_in_h (by first | decide | omega) (by first | decide | omega) (by first | decide | omega)) rfl (fun t135 g135 k135 e135 => ?_)
  refine ex_go (S := (88, [(2, .inl 0), (0, gx_r 383), (1, .inl 0)], [gx_r 383], t135, n, 0)) rfl (fun _ => rfl) rfl ?_
  refine gx_ref (c := 399) rfl g135 rfl rfl rfl rfl ?_
  refine ex_go (S := (92, [(2, .inl 0), (0, gx_r 383), (1, .inl 0)], [.inl 0, gx_r 399], t135, n, 0)) rfl (fun _ => rfl) rfl ?_
  refine ex_go (S := (94, [(2, .inl 0), (0, gx_r 383), (1, .inl 0)], [.inl 9, .inl 0, gx_r 399], t135, n, 0)) rfl (fun _ => rfl) rfl ?_
  refine ex_go (S := (95, [(2, .inl 0), (0, gx_r 383), (1, .inl 0)], [.inl 9, gx_r 399], t135, n, 0)) rfl (fun _ => rfl) rfl ?_
  refine ex_go (S := (96, [(2, .inl 0), (0, gx_r 383), (1, .inl 0)], [.inl 0, .inl 9, gx_r 399], t135, n, 0)) rfl (fun _ => rfl) rfl ?_
  refine ex_go (S := (97, [(2, .inl 0), (0, gx_r 383), (1, .inl 0)], [.inl 9, gx_r 399], t135, n, 0)) rfl (fun _ => rfl) rfl ?_
  refine ex_go (S := (98, [(2, .inl 0), (0, gx_r 383), (1, .inl 0)], [.inl 0, .inl 9, gx_r 399], t135, n, 0)) rfl (fun _ => rfl) rfl ?_
  refine gx_ap rfl (fun _ => rfl) g135 rfl rfl rfl (show 9 < 1035 from by omega) rfl (gx_full (by first | decide | omega)) rfl (fun t136 g136 k136 e136 => ?_)
  have k37 : ai_hv t136 399 7 = some (.inl b33) := (e136 399 7 (by first | decide | omega)).trans k135
  refine ex_go (S := (100, [(2, .inl 0), (0, gx_r 383), (1, .inl 0)], [gx_r 383], t136, n, 0)) rfl (fun _ => rfl) rfl ?_
  refine gx_ref (c := 399) rfl g136 rfl rfl rfl rfl ?_
  refine ex_go (S := (104, [(2, .inl 0), (0, gx_r 383), (1, .inl 0)], [.inl 0, gx_r 399], t136, n, 0)) rfl (fun _ => rfl) rfl ?_
  refine ex_go (S := (106, [(2, .inl 0), (0, gx_r 383), (1, .inl 0)], [.inl 11, .inl 0, gx_r 399], t136, n, 0)) rfl (fun _ => rfl) rfl ?_
  refine ex_go (S := (107, [(2, .inl 0), (0, gx_r 383), (1, .inl 0)], [.inl 11, gx_r 399], t136, n, 0)) rfl (fun _ => rfl) rfl ?_
  refine ex_go (S := (108, [(2, .inl 0), (0, gx_r 383), (1, .inl 0)], [.inl 0, .inl 11, gx_r 399], t136, n, 0)) rfl (fun _ => rfl) rfl ?_
  refine ex_go (S := (109, [(2, .inl 0), (0, gx_r 383), (1, .inl 0)], [.inl 11, gx_r 399], t136, n, 0)) rfl (fun _ => rfl) rfl ?_
  refine ex_go (S := (110, [(2, .inl 0), (0, gx_r 383), (1, .inl 0)], [.inl 0, .inl 11, gx_r 399], t136, n, 0)) rfl (fun _ => rfl) rfl ?_
  refine gx_ap rfl (fun _ => rfl) g136 rfl rfl rfl (show 11 < 1035 from by omega) rfl (ai_in_h (by first | decide | omega) (by first | decide | omega) (by first | decide | omega)) rfl (fun t138 g138 k138 e138 => ?_)
  have k39 : ai_hv t138 399 7 = some (.inl b33) := (e138 399 7 (by first | decide | omega)).trans k37
  refine ex_go (S := (112, [(2, .inl 0), (0, gx_r 383), (1, .inl 0)], [gx_r 383], t138, n, 0)) rfl (fun _ => rfl) rfl ?_
  refine gx_ref (c := 399) rfl g138 rfl rfl rfl rfl ?_
  refine ex_go (S := (116, [(2, .inl 0), (0, gx_r 383), (1, .inl 0)], [.inl 0, gx_r 399], t138, n, 0)) rfl (fun _ => rfl) rfl ?_
  refine ex_go (S := (118, [(2, .inl 0), (0, gx_r 383), (1, .inl 0)], [.inl 13, .inl 0, gx_r 399], t138, n, 0)) rfl (fun _ => rfl) rfl ?_
  refine ex_go (S := (119, [(2, .inl 0), (0, gx_r 383), (1, .inl 0)], [.inl 13, gx_r 399], t138, n, 0)) rfl (fun _ => rfl) rfl ?_
  refine ex_go (S := (120, [(2, .inl 0), (0, gx_r 383), (1, .inl 0)], [.inl 0, .inl 13, gx_r 399], t138, n, 0)) rfl (fun _ => rfl) rfl ?_
  refine ex_go (S := (121, [(2, .inl 0), (0, gx_r 383), (1, .inl 0)], [.inl 13, gx_r 399], t138, n, 0)) rfl (fun _ => rfl) rfl ?_
  refine ex_go (S := (122, [(2, .inl 0), (0, gx_r 383), (1, .inl 0)], [.inl 0, .inl 13, gx_r 399], t138, n, 0)) rfl (fun _ => rfl) rfl ?_
  refine gx_ap rfl (fun _ => rfl) g138 rfl rfl rfl (show 13 < 1035 from by omega) rfl (ai_in_h (by first | decide | omega) (by first | decide | omega) (by first | decide | omega)) rfl (fun t140 g140 k140 e140 => ?_)
  have k41 : ai_hv t140 399 7 = some (.inl b33) := (e140 399 7 (by first | decide | omega)).trans k39
  refine ex_go (S := (124, [(2, .inl 0), (0, gx_r 383), (1, .inl 0)], [gx_r 383], t140, n, 0)) rfl (fun _ => rfl) rfl ?_
  refine gx_ref (c := 399) rfl g140 rfl rfl rfl rfl ?_
  refine ex_go (S := (128, [(2, .inl 0), (0, gx_r 383), (1, .inl 0)], [.inl 0, gx_r 399], t140, n, 0)) rfl (fun _ => rfl) rfl ?_
  refine ex_go (S := (130, [(2, .inl 0), (0, gx_r 383), (1, .inl 0)], [.inl 15, .inl 0, gx_r 399], t140, n, 0)) rfl (fun _ => rfl) rfl ?_
  refine ex_go (S := (131, [(2, .inl 0), (0, gx_r 383), (1, .inl 0)], [.inl 15, gx_r 399], t140, n, 0)) rfl (fun _ => rfl) rfl ?_
  refine ex_go (S := (132, [(2, .inl 0), (0, gx_r 383), (1, .inl 0)], [.inl 0, .inl 15, gx_r 399], t140, n, 0)) rfl (fun _ => rfl) rfl ?_
  refine ex_go (S := (133, [(2, .inl 0), (0, gx_r 383), (1, .inl 0)], [.inl 15, gx_r 399], t140, n, 0)) rfl (fun _ => rfl) rfl ?_
  refine ex_go (S := (134, [(2, .inl 0), (0, gx_r 383), (1, .inl 0)], [.inl 0, .inl 15, gx_r 399], t140, n, 0)) rfl (fun _ => rfl) rfl ?_
  refine gx_ap rfl (fun _ => rfl) g140 rfl rfl rfl (show 15 < 1035 from by omega) rfl (ai_in_h (by first | decide | omega) (by first | decide | omega) (by first | decide | omega)) rfl (fun t142 g142 k142 e142 => ?_)
  have k43 : ai_hv t142 399 7 = some (.inl b33) := (e142 399 7 (by first | decide | omega)).trans k41
  refine ex_go (S := (138, [(2, .inl 1), (0, gx_r 383), (1, .inl 0)], [], t142, n, 0)) rfl (fun _ => rfl) rfl ?_
  refine ex_go (S := (65, [(2, .inl 1), (0, gx_r 383), (1, .inl 0)], [], t142, n, 0)) rfl (fun _ => rfl) rfl ?_
  refine ex_go (S := (66, [(2, .inl 1), (0, gx_r 383), (1, .inl 0)], [.inl 1], t142, n, 0)) rfl (fun _ => rfl) rfl ?_
  refine ex_go (S := (67, [(2, .inl 1), (0, gx_r 383), (1, .inl 0)], [.inl 2, .inl 1], t142, n, 0)) rfl (fun _ => rfl) rfl ?_
  refine ex_go (S := (70, [(2, .inl 1), (0, gx_r 383), (1, .inl 0)], [], t142, n, 0)) rfl (fun _ => rfl) rfl ?_
  refine ex_go (S := (71, [(2, .inl 1), (0, gx_r 383), (1, .inl 0)], [gx_r 383], t142, n, 0)) rfl (fun _ => rfl) rfl ?_
  refine gx_ref (c := 399) rfl g142 rfl rfl rfl rfl ?_
  refine ex_go (S := (75, [(2, .inl 1), (0, gx_r 383), (1, .inl 0)], [.inl 0, gx_r 399], t142, n, 0)) rfl (fun _ => rfl) rfl ?_
  refine ex_go (S := (77, [(2, .inl 1), (0, gx_r 383), (1, .inl 0)], [.inl 7, .inl 0, gx_r 399], t142, n, 0)) rfl (fun _ => rfl) rfl ?_
  refine ex_go (S := (78, [(2, .inl 1), (0, gx_r 383), (1, .inl 0)], [.inl 7, gx_r 399], t142, n, 0)) rfl (fun _ => rfl) rfl ?_
  refine ex_go (S := (79, [(2, .inl 1), (0, gx_r 383), (1, .inl 0)], [.inl 1, .inl 7, gx_r 399], t142, n, 0)) rfl (fun _ => rfl) rfl ?_
  refine ex_go (S := (80, [(2, .inl 1), (0, gx_r 383), (1, .inl 0)], [.inl 8, gx_r 399], t142, n, 0)) rfl (fun _ => rfl) rfl ?_
  refine ex_go (S := (81, [(2, .inl 1), (0, gx_r 383), (1, .inl 0)], [gx_r 383, .inl 8, gx_r 399], t142, n, 0)) rfl (fun _ => rfl) rfl ?_
  refine ex_go (S := (82, [(2, .inl 1), (0, gx_r 383), (1, .inl 0)], [.inl 1, gx_r 383, .inl 8, gx_r 399], t142, n, 0)) rfl (fun _ => rfl) rfl ?_
  refine ex_go (S := (83, [(2, .inl 1), (0, gx_r 383), (1, .inl 0)], [.inl 2, .inl 1, gx_r 383, .inl 8, gx_r 399], t142, n, 0)) rfl (fun _ => rfl) rfl ?_
  obtain ⟨_, r44, b45, rfl, q46⟩ := pk_crewOf1 d n g142
  refine gx_call1 rfl rfl g142 rfl rfl r44 rfl ?_
  refine gx_ap rfl (fun _ => rfl) g142 rfl rfl rfl (show 8 < 1035 from by omega) rfl (ai_in_h (by first | decide | omega) (by first | decide | omega) (by first | decide | omega)) rfl (fun t147 g147 k147 e147 => ?_)
  have k48 : ai_hv t147 399 7 = some (.inl b33) := (e147 399 7 (by first | decide | omega)).trans k43
  refine ex_go (S := (88, [(2, .inl 1), (0, gx_r 383), (1, .inl 0)], [gx_r 383], t147, n, 0)) rfl (fun _ => rfl) rfl ?_
  refine gx_ref (c := 399) rfl g147 rfl rfl rfl rfl ?_
  refine ex_go (S := (92, [(2, .inl 1), (0, gx_r 383), (1, .inl 0)], [.inl 0, gx_r 399], t147, n, 0)) rfl (fun _ => rfl) rfl ?_
  refine ex_go (S := (94, [(2, .inl 1), (0, gx_r 383), (1, .inl 0)], [.inl 9, .inl 0, gx_r 399], t147, n, 0)) rfl (fun _ => rfl) rfl ?_
  refine ex_go (S := (95, [(2, .inl 1), (0, gx_r 383), (1, .inl 0)], [.inl 9, gx_r 399], t147, n, 0)) rfl (fun _ => rfl) rfl ?_
  refine ex_go (S := (96, [(2, .inl 1), (0, gx_r 383), (1, .inl 0)], [.inl 1, .inl 9, gx_r 399], t147, n, 0)) rfl (fun _ => rfl) rfl ?_
  refine ex_go (S := (97, [(2, .inl 1), (0, gx_r 383), (1, .inl 0)], [.inl 10, gx_r 399], t147, n, 0)) rfl (fun _ => rfl) rfl ?_
  refine ex_go (S := (98, [(2, .inl 1), (0, gx_r 383), (1, .inl 0)], [.inl 0, .inl 10, gx_r 399], t147, n, 0)) rfl (fun _ => rfl) rfl ?_
  refine gx_ap rfl (fun _ => rfl) g147 rfl rfl rfl (show 10 < 1035 from by omega) rfl (gx_full (by first | decide | omega)) rfl (fun t149 g149 k149 e149 => ?_)
  have k50 : ai_hv t149 399 7 = some (.inl b33) := (e149 399 7 (by first | decide | omega)).trans k48
  have k51 : ai_hv t149 399 8 = some (.inl b45) := (e149 399 8 (by first | decide | omega)).trans k147
  refine ex_go (S := (100, [(2, .inl 1), (0, gx_r 383), (1, .inl 0)], [gx_r 383], t149, n, 0)) rfl (fun _ => rfl) rfl ?_
  refine gx_ref (c := 399) rfl g149 rfl rfl rfl rfl ?_
  refine ex_go (S := (104, [(2, .inl 1), (0, gx_r 383), (1, .inl 0)], [.inl 0, gx_r 399], t149, n, 0)) rfl (fun _ => rfl) rfl ?_
  refine ex_go (S := (106, [(2, .inl 1), (0, gx_r 383), (1, .inl 0)], [.inl 11, .inl 0, gx_r 399], t149, n, 0)) rfl (fun _ => rfl) rfl ?_
  refine ex_go (S := (107, [(2, .inl 1), (0, gx_r 383), (1, .inl 0)], [.inl 11, gx_r 399], t149, n, 0)) rfl (fun _ => rfl) rfl ?_
  refine ex_go (S := (108, [(2, .inl 1), (0, gx_r 383), (1, .inl 0)], [.inl 1, .inl 11, gx_r 399], t149, n, 0)) rfl (fun _ => rfl) rfl ?_
  refine ex_go (S := (109, [(2, .inl 1), (0, gx_r 383), (1, .inl 0)], [.inl 12, gx_r 399], t149, n, 0)) rfl (fun _ => rfl) rfl ?_
  refine ex_go (S := (110, [(2, .inl 1), (0, gx_r 383), (1, .inl 0)], [.inl 0, .inl 12, gx_r 399], t149, n, 0)) rfl (fun _ => rfl) rfl ?_
  refine gx_ap rfl (fun _ => rfl) g149 rfl rfl rfl (show 12 < 1035 from by omega) rfl (ai_in_h (by first | decide | omega) (by first | decide | omega) (by first | decide | omega)) rfl (fun t152 g152 k152 e152 => ?_)
  have k53 : ai_hv t152 399 7 = some (.inl b33) := (e152 399 7 (by first | decide | omega)).trans k50
  have k54 : ai_hv t152 399 8 = some (.inl b45) := (e152 399 8 (by first | decide | omega)).trans k51
  refine ex_go (S := (112, [(2, .inl 1), (0, gx_r 383), (1, .inl 0)], [gx_r 383], t152, n, 0)) rfl (fun _ => rfl) rfl ?_
  refine gx_ref (c := 399) rfl g152 rfl rfl rfl rfl ?_
  refine ex_go (S := (116, [(2, .inl 1), (0, gx_r 383), (1, .inl 0)], [.inl 0, gx_r 399], t152, n, 0)) rfl (fun _ => rfl) rfl ?_
  refine ex_go (S := (118, [(2, .inl 1), (0, gx_r 383), (1, .inl 0)], [.inl 13, .inl 0, gx_r 399], t152, n, 0)) rfl (fun _ => rfl) rfl ?_
  refine ex_go (S := (119, [(2, .inl 1), (0, gx_r 383), (1, .inl 0)], [.inl 13, gx_r 399], t152, n, 0)) rfl (fun _ => rfl) rfl ?_
  refine ex_go (S := (120, [(2, .inl 1), (0, gx_r 383), (1, .inl 0)], [.inl 1, .inl 13, gx_r 399], t152, n, 0)) rfl (fun _ => rfl) rfl ?_
  refine ex_go (S := (121, [(2, .inl 1), (0, gx_r 383), (1, .inl 0)], [.inl 14, gx_r 399], t152, n, 0)) rfl (fun _ => rfl) rfl ?_
  refine ex_go (S := (122, [(2, .inl 1), (0, gx_r 383), (1, .inl 0)], [.inl 0, .inl 14, gx_r 399], t152, n, 0)) rfl (fun _ => rfl) rfl ?_
  refine gx_ap rfl (fun _ => rfl) g152 rfl rfl rfl (show 14 < 1035 from by omega) rfl (ai_in_h (by first | decide | omega) (by first | decide | omega) (by first | decide | omega)) rfl (fun t155 g155 k155 e155 => ?_)
  have k56 : ai_hv t155 399 7 = some (.inl b33) := (e155 399 7 (by first | decide | omega)).trans k53
  have k57 : ai_hv t155 399 8 = some (.inl b45) := (e155 399 8 (by first | decide | omega)).trans k54
  refine ex_go (S := (124, [(2, .inl 1), (0, gx_r 383), (1, .inl 0)], [gx_r 383], t155, n, 0)) rfl (fun _ => rfl) rfl ?_
  refine gx_ref (c := 399) rfl g155 rfl rfl rfl rfl ?_
  refine ex_go (S := (128, [(2, .inl 1), (0, gx_r 383), (1, .inl 0)], [.inl 0, gx_r 399], t155, n, 0)) rfl (fun _ => rfl) rfl ?_
  refine ex_go (S := (130, [(2, .inl 1), (0, gx_r 383), (1, .inl 0)], [.inl 15, .inl 0, gx_r 399], t155, n, 0)) rfl (fun _ => rfl) rfl ?_
  refine ex_go (S := (131, [(2, .inl 1), (0, gx_r 383), (1, .inl 0)], [.inl 15, gx_r 399], t155, n, 0)) rfl (fun _ => rfl) rfl ?_
  refine ex_go (S := (132, [(2, .inl 1), (0, gx_r 383), (1, .inl 0)], [.inl 1, .inl 15, gx_r 399], t155, n, 0)) rfl (fun _ => rfl) rfl ?_
  refine ex_go (S := (133, [(2, .inl 1), (0, gx_r 383), (1, .inl 0)], [.inl 16, gx_r 399], t155, n, 0)) rfl (fun _ => rfl) rfl ?_
  refine ex_go (S := (134, [(2, .inl 1), (0, gx_r 383), (1, .inl 0)], [.inl 0, .inl 16, gx_r 399], t155, n, 0)) rfl (fun _ => rfl) rfl ?_
  refine gx_ap rfl (fun _ => rfl) g155 rfl rfl rfl (show 16 < 1035 from by omega) rfl (ai_in_h (by first | decide | omega) (by first | decide | omega) (by first | decide | omega)) rfl (fun t158 g158 k158 e158 => ?_)
  have k59 : ai_hv t158 399 7 = some (.inl b33) := (e158 399 7 (by first | decide | omega)).trans k56
  have k60 : ai_hv t158 399 8 = some (.inl b45) := (e158 399 8 (by first | decide | omega)).trans k57
  refine ex_go (S := (138, [(2, .inl 2), (0, gx_r 383), (1, .inl 0)], [], t158, n, 0)) rfl (fun _ => rfl) rfl ?_
  refine ex_go (S := (65, [(2, .inl 2), (0, gx_r 383), (1, .inl 0)], [], t158, n, 0)) rfl (fun _ => rfl) rfl ?_
  refine ex_go (S := (66, [(2, .inl 2), (0, gx_r 383), (1, .inl 0)], [.inl 2], t158, n, 0)) rfl (fun _ => rfl) rfl ?_
  refine ex_go (S := (67, [(2, .inl 2), (0, gx_r 383), (1, .inl 0)], [.inl 2, .inl 2], t158, n, 0)) rfl (fun _ => rfl) rfl ?_
  refine ex_go (S := (141, [(2, .inl 2), (0, gx_r 383), (1, .inl 0)], [], t158, n, 0)) rfl (fun _ => rfl) rfl ?_
  refine ex_ret (r := (none, t158, n, 0)) rfl (fun _ => rfl) ?_
  exact ⟨_, rfl, t158, rfl, g158, (fun c i h => (e158 c i (by first | decide | omega)).trans ((e155 c i (by first | decide | omega)).trans ((e152 c i (by first | decide | omega)).trans ((e149 c i (by first | decide | omega)).trans ((e147 c i (by first | decide | omega)).trans ((e142 c i (by first | decide | omega)).trans ((e140 c i (by first | decide | omega)).trans ((e138 c i (by first | decide | omega)).trans ((e136 c i (by first | decide | omega)).trans ((e135 c i (by first | decide | omega)).trans ((e131 c i (by first | decide | omega)).trans ((e126 c i (by first | decide | omega)).trans ((e121 c i (by first | decide | omega)).trans ((e116 c i (by first | decide | omega)).trans ((e111 c i (by first | decide | omega)).trans ((e106 c i (by first | decide | omega)).trans (e101 c i (by first | decide | omega)))))))))))))))))), ⟨b33, k59, by omega, by omega⟩, ⟨b45, k60, by omega, by omega⟩⟩
set_option maxRecDepth 100000 in
theorem pk_starts945 (d n : Nat) {t0 : en_H} (g0 : ai_HG ah_G t0) : ∃ r, en_u (d + 2) 28 [gx_r 383, .inl 945] t0 n = some r ∧ ∃ t', r = (none, t', n, 0) ∧ ai_HG ah_G t' ∧ (∀ c i, ¬ (c = 399 ∧ 945 ≤ i ∧ i < 962) → ai_hv t' c i = ai_hv t0 c i) ∧ ai_En t' 399 952 0 9999 ∧ ai_En t' 399 953 0 9999 := by
  refine en_u_ex (d := d + 1) rfl ?_
  show en_ex _ _ _ _ (0, [(0, gx_r 383), (1, .inl 945)], [], t0, n, 0) _
  refine ex_go (S := (1, [(0, gx_r 383), (1, .inl 945)], [gx_r 383], t0, n, 0)) rfl (fun _ => rfl) rfl ?_
  refine gx_ref (c := 399) rfl g0 rfl rfl rfl rfl ?_
  refine ex_go (S := (5, [(0, gx_r 383), (1, .inl 945)], [.inl 945, gx_r 399], t0, n, 0)) rfl (fun _ => rfl) rfl ?_
  refine ex_go (S := (6, [(0, gx_r 383), (1, .inl 945)], [.inl 0, .inl 945, gx_r 399], t0, n, 0)) rfl (fun _ => rfl) rfl ?_
  refine ex_go (S := (7, [(0, gx_r 383), (1, .inl 945)], [.inl 945, gx_r 399], t0, n, 0)) rfl (fun _ => rfl) rfl ?_
  refine ex_go (S := (8, [(0, gx_r 383), (1, .inl 945)], [.inl 0, .inl 945, gx_r 399], t0, n, 0)) rfl (fun _ => rfl) rfl ?_
  refine gx_ap rfl (fun _ => rfl) g0 rfl rfl rfl (show 945 < 1035 from by omega) rfl (gx_full (by first | decide | omega)) rfl (fun t101 g101 k101 e101 => ?_)
  refine ex_go (S := (10, [(0, gx_r 383), (1, .inl 945)], [.inl 0], t101, n, 0)) rfl (fun _ => rfl) rfl ?_
  refine ex_go (S := (11, [(2, .inl 0), (0, gx_r 383), (1, .inl 945)], [], t101, n, 0)) rfl (fun _ => rfl) rfl ?_
  refine ex_go (S := (12, [(2, .inl 0), (0, gx_r 383), (1, .inl 945)], [.inl 0], t101, n, 0)) rfl (fun _ => rfl) rfl ?_
  refine ex_go (S := (14, [(2, .inl 0), (0, gx_r 383), (1, .inl 945)], [.inl 6, .inl 0], t101, n, 0)) rfl (fun _ => rfl) rfl ?_
  refine ex_go (S := (17, [(2, .inl 0), (0, gx_r 383), (1, .inl 945)], [], t101, n, 0)) rfl (fun _ => rfl) rfl ?_
  refine ex_go (S := (18, [(2, .inl 0), (0, gx_r 383), (1, .inl 945)], [gx_r 383], t101, n, 0)) rfl (fun _ => rfl) rfl ?_
  refine gx_ref (c := 399) rfl g101 rfl rfl rfl rfl ?_
  refine ex_go (S := (22, [(2, .inl 0), (0, gx_r 383), (1, .inl 945)], [.inl 945, gx_r 399], t101, n, 0)) rfl (fun _ => rfl) rfl ?_
  refine ex_go (S := (23, [(2, .inl 0), (0, gx_r 383), (1, .inl 945)], [.inl 1, .inl 945, gx_r 399], t101, n, 0)) rfl (fun _ => rfl) rfl ?_
  refine ex_go (S := (24, [(2, .inl 0), (0, gx_r 383), (1, .inl 945)], [.inl 946, gx_r 399], t101, n, 0)) rfl (fun _ => rfl) rfl ?_
  refine ex_go (S := (25, [(2, .inl 0), (0, gx_r 383), (1, .inl 945)], [.inl 0, .inl 946, gx_r 399], t101, n, 0)) rfl (fun _ => rfl) rfl ?_
  refine ex_go (S := (26, [(2, .inl 0), (0, gx_r 383), (1, .inl 945)], [.inl 946, gx_r 399], t101, n, 0)) rfl (fun _ => rfl) rfl ?_
  refine ex_go (S := (27, [(2, .inl 0), (0, gx_r 383), (1, .inl 945)], [gx_r 383, .inl 946, gx_r 399], t101, n, 0)) rfl (fun _ => rfl) rfl ?_
  refine gx_ref (c := 389) rfl g101 rfl rfl rfl rfl ?_
  refine ex_go (S := (32, [(2, .inl 0), (0, gx_r 383), (1, .inl 945)], [.inl 76, gx_r 389, .inl 946, gx_r 399], t101, n, 0)) rfl (fun _ => rfl) rfl ?_
  refine ex_go (S := (33, [(2, .inl 0), (0, gx_r 383), (1, .inl 945)], [.inl 3, .inl 76, gx_r 389, .inl 946, gx_r 399], t101, n, 0)) rfl (fun _ => rfl) rfl ?_
  refine ex_go (S := (34, [(2, .inl 0), (0, gx_r 383), (1, .inl 945)], [.inl 0, .inl 3, .inl 76, gx_r 389, .inl 946, gx_r 399], t101, n, 0)) rfl (fun _ => rfl) rfl ?_
  refine ex_go (S := (35, [(2, .inl 0), (0, gx_r 383), (1, .inl 945)], [.inl 0, .inl 76, gx_r 389, .inl 946, gx_r 399], t101, n, 0)) rfl (fun _ => rfl) rfl ?_
  refine ex_go (S := (36, [(2, .inl 0), (0, gx_r 383), (1, .inl 945)], [.inl 76, gx_r 389, .inl 946, gx_r 399], t101, n, 0)) rfl (fun _ => rfl) rfl ?_
  refine ex_go (S := (37, [(2, .inl 0), (0, gx_r 383), (1, .inl 945)], [.inl 1, .inl 76, gx_r 389, .inl 946, gx_r 399], t101, n, 0)) rfl (fun _ => rfl) rfl ?_
  refine ex_go (S := (38, [(2, .inl 0), (0, gx_r 383), (1, .inl 945)], [.inl 77, gx_r 389, .inl 946, gx_r 399], t101, n, 0)) rfl (fun _ => rfl) rfl ?_
  obtain ⟨m2, k3, m2l, m2h⟩ := gx_in (c := 389) (i := 77) (lo := 0) (hi := 7) g101 rfl rfl rfl rfl
  refine gx_ag (v := .inl m2) (cb := fun c => Nat.beq c 0) rfl (fun _ => rfl) g101 rfl rfl k3 (by first | decide | omega) rfl ?_
  refine ex_go (S := (41, [(2, .inl 0), (0, gx_r 383), (1, .inl 945)], [.inl 8, .inl m2, .inl 946, gx_r 399], t101, n, 0)) rfl (fun _ => rfl) rfl ?_
  refine ex_go (S := (42, [(2, .inl 0), (0, gx_r 383), (1, .inl 945)], [gx_r 383, .inl 8, .inl m2, .inl 946, gx_r 399], t101, n, 0)) rfl (fun _ => rfl) rfl ?_
  refine gx_ref (c := 389) rfl g101 rfl rfl rfl rfl ?_
  refine ex_go (S := (47, [(2, .inl 0), (0, gx_r 383), (1, .inl 945)], [.inl 76, gx_r 389, .inl 8, .inl m2, .inl 946, gx_r 399], t101, n, 0)) rfl (fun _ => rfl) rfl ?_
  refine ex_go (S := (48, [(2, .inl 0), (0, gx_r 383), (1, .inl 945)], [.inl 3, .inl 76, gx_r 389, .inl 8, .inl m2, .inl 946, gx_r 399], t101, n, 0)) rfl (fun _ => rfl) rfl ?_
  refine ex_go (S := (49, [(2, .inl 0), (0, gx_r 383), (1, .inl 945)], [.inl 0, .inl 3, .inl 76, gx_r 389, .inl 8, .inl m2, .inl 946, gx_r 399], t101, n, 0)) rfl (fun _ => rfl) rfl ?_
  refine ex_go (S := (50, [(2, .inl 0), (0, gx_r 383), (1, .inl 945)], [.inl 0, .inl 76, gx_r 389, .inl 8, .inl m2, .inl 946, gx_r 399], t101, n, 0)) rfl (fun _ => rfl) rfl ?_
  refine ex_go (S := (51, [(2, .inl 0), (0, gx_r 383), (1, .inl 945)], [.inl 76, gx_r 389, .inl 8, .inl m2, .inl 946, gx_r 399], t101, n, 0)) rfl (fun _ => rfl) rfl ?_
  refine ex_go (S := (52, [(2, .inl 0), (0, gx_r 383), (1, .inl 945)], [.inl 2, .inl 76, gx_r 389, .inl 8, .inl m2, .inl 946, gx_r 399], t101, n, 0)) rfl (fun _ => rfl) rfl ?_
  refine ex_go (S := (53, [(2, .inl 0), (0, gx_r 383), (1, .inl 945)], [.inl 78, gx_r 389, .inl 8, .inl m2, .inl 946, gx_r 399], t101, n, 0)) rfl (fun _ => rfl) rfl ?_
  obtain ⟨m4, k5, m4l, m4h⟩ := gx_in (c := 389) (i := 78) (lo := 0) (hi := 7) g101 rfl rfl rfl rfl
  refine gx_ag (v := .inl m4) (cb := fun c => Nat.beq c 0) rfl (fun _ => rfl) g101 rfl rfl k5 (by first | decide | omega) rfl ?_
  refine gx_imul rfl (by first | decide | omega) rfl ?_
  refine ex_iadd rfl (by first | decide | omega) rfl ?_
  refine gx_ap rfl (fun _ => rfl) g101 rfl rfl rfl (show 946 < 1035 from by omega) rfl (ai_in_h (by first | decide | omega) (by first | decide | omega) (by first | decide | omega)) rfl (fun t106 g106 k106 e106 => ?_)
  refine ex_go (S := (60, [(2, .inl 1), (0, gx_r 383), (1, .inl 945)], [], t106, n, 0)) rfl (fun _ => rfl) rfl ?_
  refine ex_go (S := (11, [(2, .inl 1), (0, gx_r 383), (1, .inl 945)], [], t106, n, 0)) rfl (fun _ => rfl) rfl ?_
  refine ex_go (S := (12, [(2, .inl 1), (0, gx_r 383), (1, .inl 945)], [.inl 1], t106, n, 0)) rfl (fun _ => rfl) rfl ?_
  refine ex_go (S := (14, [(2, .inl 1), (0, gx_r 383), (1, .inl 945)], [.inl 6, .inl 1], t106, n, 0)) rfl (fun _ => rfl) rfl ?_
  refine ex_go (S := (17, [(2, .inl 1), (0, gx_r 383), (1, .inl 945)], [], t106, n, 0)) rfl (fun _ => rfl) rfl ?_
  refine ex_go (S := (18, [(2, .inl 1), (0, gx_r 383), (1, .inl 945)], [gx_r 383], t106, n, 0)) rfl (fun _ => rfl) rfl ?_
  refine gx_ref (c := 399) rfl g106 rfl rfl rfl rfl ?_
  refine ex_go (S := (22, [(2, .inl 1), (0, gx_r 383), (1, .inl 945)], [.inl 945, gx_r 399], t106, n, 0)) rfl (fun _ => rfl) rfl ?_
  refine ex_go (S := (23, [(2, .inl 1), (0, gx_r 383), (1, .inl 945)], [.inl 1, .inl 945, gx_r 399], t106, n, 0)) rfl (fun _ => rfl) rfl ?_
  refine ex_go (S := (24, [(2, .inl 1), (0, gx_r 383), (1, .inl 945)], [.inl 946, gx_r 399], t106, n, 0)) rfl (fun _ => rfl) rfl ?_
  refine ex_go (S := (25, [(2, .inl 1), (0, gx_r 383), (1, .inl 945)], [.inl 1, .inl 946, gx_r 399], t106, n, 0)) rfl (fun _ => rfl) rfl ?_
  refine ex_go (S := (26, [(2, .inl 1), (0, gx_r 383), (1, .inl 945)], [.inl 947, gx_r 399], t106, n, 0)) rfl (fun _ => rfl) rfl ?_
  refine ex_go (S := (27, [(2, .inl 1), (0, gx_r 383), (1, .inl 945)], [gx_r 383, .inl 947, gx_r 399], t106, n, 0)) rfl (fun _ => rfl) rfl ?_
  refine gx_ref (c := 389) rfl g106 rfl rfl rfl rfl ?_
  refine ex_go (S := (32, [(2, .inl 1), (0, gx_r 383), (1, .inl 945)], [.inl 76, gx_r 389, .inl 947, gx_r 399], t106, n, 0)) rfl (fun _ => rfl) rfl ?_
  refine ex_go (S := (33, [(2, .inl 1), (0, gx_r 383), (1, .inl 945)], [.inl 3, .inl 76, gx_r 389, .inl 947, gx_r 399], t106, n, 0)) rfl (fun _ => rfl) rfl ?_
  refine ex_go (S := (34, [(2, .inl 1), (0, gx_r 383), (1, .inl 945)], [.inl 1, .inl 3, .inl 76, gx_r 389, .inl 947, gx_r 399], t106, n, 0)) rfl (fun _ => rfl) rfl ?_
  refine ex_go (S := (35, [(2, .inl 1), (0, gx_r 383), (1, .inl 945)], [.inl 3, .inl 76, gx_r 389, .inl 947, gx_r 399], t106, n, 0)) rfl (fun _ => rfl) rfl ?_
  refine ex_go (S := (36, [(2, .inl 1), (0, gx_r 383), (1, .inl 945)], [.inl 79, gx_r 389, .inl 947, gx_r 399], t106, n, 0)) rfl (fun _ => rfl) rfl ?_
  refine ex_go (S := (37, [(2, .inl 1), (0, gx_r 383), (1, .inl 945)], [.inl 1, .inl 79, gx_r 389, .inl 947, gx_r 399], t106, n, 0)) rfl (fun _ => rfl) rfl ?_
  refine ex_go (S := (38, [(2, .inl 1), (0, gx_r 383), (1, .inl 945)], [.inl 80, gx_r 389, .inl 947, gx_r 399], t106, n, 0)) rfl (fun _ => rfl) rfl ?_
  obtain ⟨m7, k8, m7l, m7h⟩ := gx_in (c := 389) (i := 80) (lo := 0) (hi := 7) g106 rfl rfl rfl rfl
  refine gx_ag (v := .inl m7) (cb := fun c => Nat.beq c 0) rfl (fun _ => rfl) g106 rfl rfl k8 (by first | decide | omega) rfl ?_
  refine ex_go (S := (41, [(2, .inl 1), (0, gx_r 383), (1, .inl 945)], [.inl 8, .inl m7, .inl 947, gx_r 399], t106, n, 0)) rfl (fun _ => rfl) rfl ?_
  refine ex_go (S := (42, [(2, .inl 1), (0, gx_r 383), (1, .inl 945)], [gx_r 383, .inl 8, .inl m7, .inl 947, gx_r 399], t106, n, 0)) rfl (fun _ => rfl) rfl ?_
  refine gx_ref (c := 389) rfl g106 rfl rfl rfl rfl ?_
  refine ex_go (S := (47, [(2, .inl 1), (0, gx_r 383), (1, .inl 945)], [.inl 76, gx_r 389, .inl 8, .inl m7, .inl 947, gx_r 399], t106, n, 0)) rfl (fun _ => rfl) rfl ?_
  refine ex_go (S := (48, [(2, .inl 1), (0, gx_r 383), (1, .inl 945)], [.inl 3, .inl 76, gx_r 389, .inl 8, .inl m7, .inl 947, gx_r 399], t106, n, 0)) rfl (fun _ => rfl) rfl ?_
  refine ex_go (S := (49, [(2, .inl 1), (0, gx_r 383), (1, .inl 945)], [.inl 1, .inl 3, .inl 76, gx_r 389, .inl 8, .inl m7, .inl 947, gx_r 399], t106, n, 0)) rfl (fun _ => rfl) rfl ?_
  refine ex_go (S := (50, [(2, .inl 1), (0, gx_r 383), (1, .inl 945)], [.inl 3, .inl 76, gx_r 389, .inl 8, .inl m7, .inl 947, gx_r 399], t106, n, 0)) rfl (fun _ => rfl) rfl ?_
  refine ex_go (S := (51, [(2, .inl 1), (0, gx_r 383), (1, .inl 945)], [.inl 79, gx_r 389, .inl 8, .inl m7, .inl 947, gx_r 399], t106, n, 0)) rfl (fun _ => rfl) rfl ?_
  refine ex_go (S := (52, [(2, .inl 1), (0, gx_r 383), (1, .inl 945)], [.inl 2, .inl 79, gx_r 389, .inl 8, .inl m7, .inl 947, gx_r 399], t106, n, 0)) rfl (fun _ => rfl) rfl ?_
  refine ex_go (S := (53, [(2, .inl 1), (0, gx_r 383), (1, .inl 945)], [.inl 81, gx_r 389, .inl 8, .inl m7, .inl 947, gx_r 399], t106, n, 0)) rfl (fun _ => rfl) rfl ?_
  obtain ⟨m9, k10, m9l, m9h⟩ := gx_in (c := 389) (i := 81) (lo := 0) (hi := 7) g106 rfl rfl rfl rfl
  refine gx_ag (v := .inl m9) (cb := fun c => Nat.beq c 0) rfl (fun _ => rfl) g106 rfl rfl k10 (by first | decide | omega) rfl ?_
  refine gx_imul rfl (by first | decide | omega) rfl ?_
  refine ex_iadd rfl (by first | decide | omega) rfl ?_
  refine gx_ap rfl (fun _ => rfl) g106 rfl rfl rfl (show 947 < 1035 from by omega) rfl (ai_in_h (by first | decide | omega) (by first | decide | omega) (by first | decide | omega)) rfl (fun t111 g111 k111 e111 => ?_)
  refine ex_go (S := (60, [(2, .inl 2), (0, gx_r 383), (1, .inl 945)], [], t111, n, 0)) rfl (fun _ => rfl) rfl ?_
  refine ex_go (S := (11, [(2, .inl 2), (0, gx_r 383), (1, .inl 945)], [], t111, n, 0)) rfl (fun _ => rfl) rfl ?_
  refine ex_go (S := (12, [(2, .inl 2), (0, gx_r 383), (1, .inl 945)], [.inl 2], t111, n, 0)) rfl (fun _ => rfl) rfl ?_
  refine ex_go (S := (14, [(2, .inl 2), (0, gx_r 383), (1, .inl 945)], [.inl 6, .inl 2], t111, n, 0)) rfl (fun _ => rfl) rfl ?_
  refine ex_go (S := (17, [(2, .inl 2), (0, gx_r 383), (1, .inl 945)], [], t111, n, 0)) rfl (fun _ => rfl) rfl ?_
  refine ex_go (S := (18, [(2, .inl 2), (0, gx_r 383), (1, .inl 945)], [gx_r 383], t111, n, 0)) rfl (fun _ => rfl) rfl ?_
  refine gx_ref (c := 399) rfl g111 rfl rfl rfl rfl ?_
  refine ex_go (S := (22, [(2, .inl 2), (0, gx_r 383), (1, .inl 945)], [.inl 945, gx_r 399], t111, n, 0)) rfl (fun _ => rfl) rfl ?_
  refine ex_go (S := (23, [(2, .inl 2), (0, gx_r 383), (1, .inl 945)], [.inl 1, .inl 945, gx_r 399], t111, n, 0)) rfl (fun _ => rfl) rfl ?_
  refine ex_go (S := (24, [(2, .inl 2), (0, gx_r 383), (1, .inl 945)], [.inl 946, gx_r 399], t111, n, 0)) rfl (fun _ => rfl) rfl ?_
  refine ex_go (S := (25, [(2, .inl 2), (0, gx_r 383), (1, .inl 945)], [.inl 2, .inl 946, gx_r 399], t111, n, 0)) rfl (fun _ => rfl) rfl ?_
  refine ex_go (S := (26, [(2, .inl 2), (0, gx_r 383), (1, .inl 945)], [.inl 948, gx_r 399], t111, n, 0)) rfl (fun _ => rfl) rfl ?_
  refine ex_go (S := (27, [(2, .inl 2), (0, gx_r 383), (1, .inl 945)], [gx_r 383, .inl 948, gx_r 399], t111, n, 0)) rfl (fun _ => rfl) rfl ?_
  refine gx_ref (c := 389) rfl g111 rfl rfl rfl rfl ?_
  refine ex_go (S := (32, [(2, .inl 2), (0, gx_r 383), (1, .inl 945)], [.inl 76, gx_r 389, .inl 948, gx_r 399], t111, n, 0)) rfl (fun _ => rfl) rfl ?_
  refine ex_go (S := (33, [(2, .inl 2), (0, gx_r 383), (1, .inl 945)], [.inl 3, .inl 76, gx_r 389, .inl 948, gx_r 399], t111, n, 0)) rfl (fun _ => rfl) rfl ?_
  refine ex_go (S := (34, [(2, .inl 2), (0, gx_r 383), (1, .inl 945)], [.inl 2, .inl 3, .inl 76, gx_r 389, .inl 948, gx_r 399], t111, n, 0)) rfl (fun _ => rfl) rfl ?_
  refine ex_go (S := (35, [(2, .inl 2), (0, gx_r 383), (1, .inl 945)], [.inl 6, .inl 76, gx_r 389, .inl 948, gx_r 399], t111, n, 0)) rfl (fun _ => rfl) rfl ?_
  refine ex_go (S := (36, [(2, .inl 2), (0, gx_r 383), (1, .inl 945)], [.inl 82, gx_r 389, .inl 948, gx_r 399], t111, n, 0)) rfl (fun _ => rfl) rfl ?_
  refine ex_go (S := (37, [(2, .inl 2), (0, gx_r 383), (1, .inl 945)], [.inl 1, .inl 82, gx_r 389, .inl 948, gx_r 399], t111, n, 0)) rfl (fun _ => rfl) rfl ?_
  refine ex_go (S := (38, [(2, .inl 2), (0, gx_r 383), (1, .inl 945)], [.inl 83, gx_r 389, .inl 948, gx_r 399], t111, n, 0)) rfl (fun _ => rfl) rfl ?_
  obtain ⟨m12, k13, m12l, m12h⟩ := gx_in (c := 389) (i := 83) (lo := 0) (hi := 7) g111 rfl rfl rfl rfl
  refine gx_ag (v := .inl m12) (cb := fun c => Nat.beq c 0) rfl (fun _ => rfl) g111 rfl rfl k13 (by first | decide | omega) rfl ?_
  refine ex_go (S := (41, [(2, .inl 2), (0, gx_r 383), (1, .inl 945)], [.inl 8, .inl m12, .inl 948, gx_r 399], t111, n, 0)) rfl (fun _ => rfl) rfl ?_
  refine ex_go (S := (42, [(2, .inl 2), (0, gx_r 383), (1, .inl 945)], [gx_r 383, .inl 8, .inl m12, .inl 948, gx_r 399], t111, n, 0)) rfl (fun _ => rfl) rfl ?_
  refine gx_ref (c := 389) rfl g111 rfl rfl rfl rfl ?_
  refine ex_go (S := (47, [(2, .inl 2), (0, gx_r 383), (1, .inl 945)], [.inl 76, gx_r 389, .inl 8, .inl m12, .inl 948, gx_r 399], t111, n, 0)) rfl (fun _ => rfl) rfl ?_
  refine ex_go (S := (48, [(2, .inl 2), (0, gx_r 383), (1, .inl 945)], [.inl 3, .inl 76, gx_r 389, .inl 8, .inl m12, .inl 948, gx_r 399], t111, n, 0)) rfl (fun _ => rfl) rfl ?_
  refine ex_go (S := (49, [(2, .inl 2), (0, gx_r 383), (1, .inl 945)], [.inl 2, .inl 3, .inl 76, gx_r 389, .inl 8, .inl m12, .inl 948, gx_r 399], t111, n, 0)) rfl (fun _ => rfl) rfl ?_
  refine ex_go (S := (50, [(2, .inl 2), (0, gx_r 383), (1, .inl 945)], [.inl 6, .inl 76, gx_r 389, .inl 8, .inl m12, .inl 948, gx_r 399], t111, n, 0)) rfl (fun _ => rfl) rfl ?_
  refine ex_go (S := (51, [(2, .inl 2), (0, gx_r 383), (1, .inl 945)], [.inl 82, gx_r 389, .inl 8, .inl m12, .inl 948, gx_r 399], t111, n, 0)) rfl (fun _ => rfl) rfl ?_
  refine ex_go (S := (52, [(2, .inl 2), (0, gx_r 383), (1, .inl 945)], [.inl 2, .inl 82, gx_r 389, .inl 8, .inl m12, .inl 948, gx_r 399], t111, n, 0)) rfl (fun _ => rfl) rfl ?_
  refine ex_go (S := (53, [(2, .inl 2), (0, gx_r 383), (1, .inl 945)], [.inl 84, gx_r 389, .inl 8, .inl m12, .inl 948, gx_r 399], t111, n, 0)) rfl (fun _ => rfl) rfl ?_
  obtain ⟨m14, k15, m14l, m14h⟩ := gx_in (c := 389) (i := 84) (lo := 0) (hi := 7) g111 rfl rfl rfl rfl
  refine gx_ag (v := .inl m14) (cb := fun c => Nat.beq c 0) rfl (fun _ => rfl) g111 rfl rfl k15 (by first | decide | omega) rfl ?_
  refine gx_imul rfl (by first | decide | omega) rfl ?_
  refine ex_iadd rfl (by first | decide | omega) rfl ?_
  refine gx_ap rfl (fun _ => rfl) g111 rfl rfl rfl (show 948 < 1035 from by omega) rfl (ai_in_h (by first | decide | omega) (by first | decide | omega) (by first | decide | omega)) rfl (fun t116 g116 k116 e116 => ?_)
  refine ex_go (S := (60, [(2, .inl 3), (0, gx_r 383), (1, .inl 945)], [], t116, n, 0)) rfl (fun _ => rfl) rfl ?_
  refine ex_go (S := (11, [(2, .inl 3), (0, gx_r 383), (1, .inl 945)], [], t116, n, 0)) rfl (fun _ => rfl) rfl ?_
  refine ex_go (S := (12, [(2, .inl 3), (0, gx_r 383), (1, .inl 945)], [.inl 3], t116, n, 0)) rfl (fun _ => rfl) rfl ?_
  refine ex_go (S := (14, [(2, .inl 3), (0, gx_r 383), (1, .inl 945)], [.inl 6, .inl 3], t116, n, 0)) rfl (fun _ => rfl) rfl ?_
  refine ex_go (S := (17, [(2, .inl 3), (0, gx_r 383), (1, .inl 945)], [], t116, n, 0)) rfl (fun _ => rfl) rfl ?_
  refine ex_go (S := (18, [(2, .inl 3), (0, gx_r 383), (1, .inl 945)], [gx_r 383], t116, n, 0)) rfl (fun _ => rfl) rfl ?_
  refine gx_ref (c := 399) rfl g116 rfl rfl rfl rfl ?_
  refine ex_go (S := (22, [(2, .inl 3), (0, gx_r 383), (1, .inl 945)], [.inl 945, gx_r 399], t116, n, 0)) rfl (fun _ => rfl) rfl ?_
  refine ex_go (S := (23, [(2, .inl 3), (0, gx_r 383), (1, .inl 945)], [.inl 1, .inl 945, gx_r 399], t116, n, 0)) rfl (fun _ => rfl) rfl ?_
  refine ex_go (S := (24, [(2, .inl 3), (0, gx_r 383), (1, .inl 945)], [.inl 946, gx_r 399], t116, n, 0)) rfl (fun _ => rfl) rfl ?_
  refine ex_go (S := (25, [(2, .inl 3), (0, gx_r 383), (1, .inl 945)], [.inl 3, .inl 946, gx_r 399], t116, n, 0)) rfl (fun _ => rfl) rfl ?_
  refine ex_go (S := (26, [(2, .inl 3), (0, gx_r 383), (1, .inl 945)], [.inl 949, gx_r 399], t116, n, 0)) rfl (fun _ => rfl) rfl ?_
  refine ex_go (S := (27, [(2, .inl 3), (0, gx_r 383), (1, .inl 945)], [gx_r 383, .inl 949, gx_r 399], t116, n, 0)) rfl (fun _ => rfl) rfl ?_
  refine gx_ref (c := 389) rfl g116 rfl rfl rfl rfl ?_
  refine ex_go (S := (32, [(2, .inl 3), (0, gx_r 383), (1, .inl 945)], [.inl 76, gx_r 389, .inl 949, gx_r 399], t116, n, 0)) rfl (fun _ => rfl) rfl ?_
  refine ex_go (S := (33, [(2, .inl 3), (0, gx_r 383), (1, .inl 945)], [.inl 3, .inl 76, gx_r 389, .inl 949, gx_r 399], t116, n, 0)) rfl (fun _ => rfl) rfl ?_
  refine ex_go (S := (34, [(2, .inl 3), (0, gx_r 383), (1, .inl 945)], [.inl 3, .inl 3, .inl 76, gx_r 389, .inl 949, gx_r 399], t116, n, 0)) rfl (fun _ => rfl) rfl ?_
  refine ex_go (S := (35, [(2, .inl 3), (0, gx_r 383), (1, .inl 945)], [.inl 9, .inl 76, gx_r 389, .inl 949, gx_r 399], t116, n, 0)) rfl (fun _ => rfl) rfl ?_
  refine ex_go (S := (36, [(2, .inl 3), (0, gx_r 383), (1, .inl 945)], [.inl 85, gx_r 389, .inl 949, gx_r 399], t116, n, 0)) rfl (fun _ => rfl) rfl ?_
  refine ex_go (S := (37, [(2, .inl 3), (0, gx_r 383), (1, .inl 945)], [.inl 1, .inl 85, gx_r 389, .inl 949, gx_r 399], t116, n, 0)) rfl (fun _ => rfl) rfl ?_
  refine ex_go (S := (38, [(2, .inl 3), (0, gx_r 383), (1, .inl 945)], [.inl 86, gx_r 389, .inl 949, gx_r 399], t116, n, 0)) rfl (fun _ => rfl) rfl ?_
  obtain ⟨m17, k18, m17l, m17h⟩ := gx_in (c := 389) (i := 86) (lo := 0) (hi := 7) g116 rfl rfl rfl rfl
  refine gx_ag (v := .inl m17) (cb := fun c => Nat.beq c 0) rfl (fun _ => rfl) g116 rfl rfl k18 (by first | decide | omega) rfl ?_
  refine ex_go (S := (41, [(2, .inl 3), (0, gx_r 383), (1, .inl 945)], [.inl 8, .inl m17, .inl 949, gx_r 399], t116, n, 0)) rfl (fun _ => rfl) rfl ?_
  refine ex_go (S := (42, [(2, .inl 3), (0, gx_r 383), (1, .inl 945)], [gx_r 383, .inl 8, .inl m17, .inl 949, gx_r 399], t116, n, 0)) rfl (fun _ => rfl) rfl ?_
  refine gx_ref (c := 389) rfl g116 rfl rfl rfl rfl ?_
  refine ex_go (S := (47, [(2, .inl 3), (0, gx_r 383), (1, .inl 945)], [.inl 76, gx_r 389, .inl 8, .inl m17, .inl 949, gx_r 399], t116, n, 0)) rfl (fun _ => rfl) rfl ?_
  refine ex_go (S := (48, [(2, .inl 3), (0, gx_r 383), (1, .inl 945)], [.inl 3, .inl 76, gx_r 389, .inl 8, .inl m17, .inl 949, gx_r 399], t116, n, 0)) rfl (fun _ => rfl) rfl ?_
  refine ex_go (S := (49, [(2, .inl 3), (0, gx_r 383), (1, .inl 945)], [.inl 3, .inl 3, .inl 76, gx_r 389, .inl 8, .inl m17, .inl 949, gx_r 399], t116, n, 0)) rfl (fun _ => rfl) rfl ?_
  refine ex_go (S := (50, [(2, .inl 3), (0, gx_r 383), (1, .inl 945)], [.inl 9, .inl 76, gx_r 389, .inl 8, .inl m17, .inl 949, gx_r 399], t116, n, 0)) rfl (fun _ => rfl) rfl ?_
  refine ex_go (S := (51, [(2, .inl 3), (0, gx_r 383), (1, .inl 945)], [.inl 85, gx_r 389, .inl 8, .inl m17, .inl 949, gx_r 399], t116, n, 0)) rfl (fun _ => rfl) rfl ?_
  refine ex_go (S := (52, [(2, .inl 3), (0, gx_r 383), (1, .inl 945)], [.inl 2, .inl 85, gx_r 389, .inl 8, .inl m17, .inl 949, gx_r 399], t116, n, 0)) rfl (fun _ => rfl) rfl ?_
  refine ex_go (S := (53, [(2, .inl 3), (0, gx_r 383), (1, .inl 945)], [.inl 87, gx_r 389, .inl 8, .inl m17, .inl 949, gx_r 399], t116, n, 0)) rfl (fun _ => rfl) rfl ?_
  obtain ⟨m19, k20, m19l, m19h⟩ := gx_in (c := 389) (i := 87) (lo := 0) (hi := 7) g116 rfl rfl rfl rfl
  refine gx_ag (v := .inl m19) (cb := fun c => Nat.beq c 0) rfl (fun _ => rfl) g116 rfl rfl k20 (by first | decide | omega) rfl ?_
  refine gx_imul rfl (by first | decide | omega) rfl ?_
  refine ex_iadd rfl (by first | decide | omega) rfl ?_
  refine gx_ap rfl (fun _ => rfl) g116 rfl rfl rfl (show 949 < 1035 from by omega) rfl (ai_in_h (by first | decide | omega) (by first | decide | omega) (by first | decide | omega)) rfl (fun t121 g121 k121 e121 => ?_)
  refine ex_go (S := (60, [(2, .inl 4), (0, gx_r 383), (1, .inl 945)], [], t121, n, 0)) rfl (fun _ => rfl) rfl ?_
  refine ex_go (S := (11, [(2, .inl 4), (0, gx_r 383), (1, .inl 945)], [], t121, n, 0)) rfl (fun _ => rfl) rfl ?_
  refine ex_go (S := (12, [(2, .inl 4), (0, gx_r 383), (1, .inl 945)], [.inl 4], t121, n, 0)) rfl (fun _ => rfl) rfl ?_
  refine ex_go (S := (14, [(2, .inl 4), (0, gx_r 383), (1, .inl 945)], [.inl 6, .inl 4], t121, n, 0)) rfl (fun _ => rfl) rfl ?_
  refine ex_go (S := (17, [(2, .inl 4), (0, gx_r 383), (1, .inl 945)], [], t121, n, 0)) rfl (fun _ => rfl) rfl ?_
  refine ex_go (S := (18, [(2, .inl 4), (0, gx_r 383), (1, .inl 945)], [gx_r 383], t121, n, 0)) rfl (fun _ => rfl) rfl ?_
  refine gx_ref (c := 399) rfl g121 rfl rfl rfl rfl ?_
  refine ex_go (S := (22, [(2, .inl 4), (0, gx_r 383), (1, .inl 945)], [.inl 945, gx_r 399], t121, n, 0)) rfl (fun _ => rfl) rfl ?_
  refine ex_go (S := (23, [(2, .inl 4), (0, gx_r 383), (1, .inl 945)], [.inl 1, .inl 945, gx_r 399], t121, n, 0)) rfl (fun _ => rfl) rfl ?_
  refine ex_go (S := (24, [(2, .inl 4), (0, gx_r 383), (1, .inl 945)], [.inl 946, gx_r 399], t121, n, 0)) rfl (fun _ => rfl) rfl ?_
  refine ex_go (S := (25, [(2, .inl 4), (0, gx_r 383), (1, .inl 945)], [.inl 4, .inl 946, gx_r 399], t121, n, 0)) rfl (fun _ => rfl) rfl ?_
  refine ex_go (S := (26, [(2, .inl 4), (0, gx_r 383), (1, .inl 945)], [.inl 950, gx_r 399], t121, n, 0)) rfl (fun _ => rfl) rfl ?_
  refine ex_go (S := (27, [(2, .inl 4), (0, gx_r 383), (1, .inl 945)], [gx_r 383, .inl 950, gx_r 399], t121, n, 0)) rfl (fun _ => rfl) rfl ?_
  refine gx_ref (c := 389) rfl g121 rfl rfl rfl rfl ?_
  refine ex_go (S := (32, [(2, .inl 4), (0, gx_r 383), (1, .inl 945)], [.inl 76, gx_r 389, .inl 950, gx_r 399], t121, n, 0)) rfl (fun _ => rfl) rfl ?_
  refine ex_go (S := (33, [(2, .inl 4), (0, gx_r 383), (1, .inl 945)], [.inl 3, .inl 76, gx_r 389, .inl 950, gx_r 399], t121, n, 0)) rfl (fun _ => rfl) rfl ?_
  refine ex_go (S := (34, [(2, .inl 4), (0, gx_r 383), (1, .inl 945)], [.inl 4, .inl 3, .inl 76, gx_r 389, .inl 950, gx_r 399], t121, n, 0)) rfl (fun _ => rfl) rfl ?_
  refine ex_go (S := (35, [(2, .inl 4), (0, gx_r 383), (1, .inl 945)], [.inl 12, .inl 76, gx_r 389, .inl 950, gx_r 399], t121, n, 0)) rfl (fun _ => rfl) rfl ?_
  refine ex_go (S := (36, [(2, .inl 4), (0, gx_r 383), (1, .inl 945)], [.inl 88, gx_r 389, .inl 950, gx_r 399], t121, n, 0)) rfl (fun _ => rfl) rfl ?_
  refine ex_go (S := (37, [(2, .inl 4), (0, gx_r 383), (1, .inl 945)], [.inl 1, .inl 88, gx_r 389, .inl 950, gx_r 399], t121, n, 0)) rfl (fun _ => rfl) rfl ?_
  refine ex_go (S := (38, [(2, .inl 4), (0, gx_r 383), (1, .inl 945)], [.inl 89, gx_r 389, .inl 950, gx_r 399], t121, n, 0)) rfl (fun _ => rfl) rfl ?_
  obtain ⟨m22, k23, m22l, m22h⟩ := gx_in (c := 389) (i := 89) (lo := 0) (hi := 7) g121 rfl rfl rfl rfl
  refine gx_ag (v := .inl m22) (cb := fun c => Nat.beq c 0) rfl (fun _ => rfl) g121 rfl rfl k23 (by first | decide | omega) rfl ?_
  refine ex_go (S := (41, [(2, .inl 4), (0, gx_r 383), (1, .inl 945)], [.inl 8, .inl m22, .inl 950, gx_r 399], t121, n, 0)) rfl (fun _ => rfl) rfl ?_
  refine ex_go (S := (42, [(2, .inl 4), (0, gx_r 383), (1, .inl 945)], [gx_r 383, .inl 8, .inl m22, .inl 950, gx_r 399], t121, n, 0)) rfl (fun _ => rfl) rfl ?_
  refine gx_ref (c := 389) rfl g121 rfl rfl rfl rfl ?_
  refine ex_go (S := (47, [(2, .inl 4), (0, gx_r 383), (1, .inl 945)], [.inl 76, gx_r 389, .inl 8, .inl m22, .inl 950, gx_r 399], t121, n, 0)) rfl (fun _ => rfl) rfl ?_
  refine ex_go (S := (48, [(2, .inl 4), (0, gx_r 383), (1, .inl 945)], [.inl 3, .inl 76, gx_r 389, .inl 8, .inl m22, .inl 950, gx_r 399], t121, n, 0)) rfl (fun _ => rfl) rfl ?_
  refine ex_go (S := (49, [(2, .inl 4), (0, gx_r 383), (1, .inl 945)], [.inl 4, .inl 3, .inl 76, gx_r 389, .inl 8, .inl m22, .inl 950, gx_r 399], t121, n, 0)) rfl (fun _ => rfl) rfl ?_
  refine ex_go (S := (50, [(2, .inl 4), (0, gx_r 383), (1, .inl 945)], [.inl 12, .inl 76, gx_r 389, .inl 8, .inl m22, .inl 950, gx_r 399], t121, n, 0)) rfl (fun _ => rfl) rfl ?_
  refine ex_go (S := (51, [(2, .inl 4), (0, gx_r 383), (1, .inl 945)], [.inl 88, gx_r 389, .inl 8, .inl m22, .inl 950, gx_r 399], t121, n, 0)) rfl (fun _ => rfl) rfl ?_
  refine ex_go (S := (52, [(2, .inl 4), (0, gx_r 383), (1, .inl 945)], [.inl 2, .inl 88, gx_r 389, .inl 8, .inl m22, .inl 950, gx_r 399], t121, n, 0)) rfl (fun _ => rfl) rfl ?_
  refine ex_go (S := (53, [(2, .inl 4), (0, gx_r 383), (1, .inl 945)], [.inl 90, gx_r 389, .inl 8, .inl m22, .inl 950, gx_r 399], t121, n, 0)) rfl (fun _ => rfl) rfl ?_
  obtain ⟨m24, k25, m24l, m24h⟩ := gx_in (c := 389) (i := 90) (lo := 0) (hi := 7) g121 rfl rfl rfl rfl
  refine gx_ag (v := .inl m24) (cb := fun c => Nat.beq c 0) rfl (fun _ => rfl) g121 rfl rfl k25 (by first | decide | omega) rfl ?_
  refine gx_imul rfl (by first | decide | omega) rfl ?_
  refine ex_iadd rfl (by first | decide | omega) rfl ?_
  refine gx_ap rfl (fun _ => rfl) g121 rfl rfl rfl (show 950 < 1035 from by omega) rfl (ai_in_h (by first | decide | omega) (by first | decide | omega) (by first | decide | omega)) rfl (fun t126 g126 k126 e126 => ?_)
  refine ex_go (S := (60, [(2, .inl 5), (0, gx_r 383), (1, .inl 945)], [], t126, n, 0)) rfl (fun _ => rfl) rfl ?_
  refine ex_go (S := (11, [(2, .inl 5), (0, gx_r 383), (1, .inl 945)], [], t126, n, 0)) rfl (fun _ => rfl) rfl ?_
  refine ex_go (S := (12, [(2, .inl 5), (0, gx_r 383), (1, .inl 945)], [.inl 5], t126, n, 0)) rfl (fun _ => rfl) rfl ?_
  refine ex_go (S := (14, [(2, .inl 5), (0, gx_r 383), (1, .inl 945)], [.inl 6, .inl 5], t126, n, 0)) rfl (fun _ => rfl) rfl ?_
  refine ex_go (S := (17, [(2, .inl 5), (0, gx_r 383), (1, .inl 945)], [], t126, n, 0)) rfl (fun _ => rfl) rfl ?_
  refine ex_go (S := (18, [(2, .inl 5), (0, gx_r 383), (1, .inl 945)], [gx_r 383], t126, n, 0)) rfl (fun _ => rfl) rfl ?_
  refine gx_ref (c := 399) rfl g126 rfl rfl rfl rfl ?_
  refine ex_go (S := (22, [(2, .inl 5), (0, gx_r 383), (1, .inl 945)], [.inl 945, gx_r 399], t126, n, 0)) rfl (fun _ => rfl) rfl ?_
  refine ex_go (S := (23, [(2, .inl 5), (0, gx_r 383), (1, .inl 945)], [.inl 1, .inl 945, gx_r 399], t126, n, 0)) rfl (fun _ => rfl) rfl ?_
  refine ex_go (S := (24, [(2, .inl 5), (0, gx_r 383), (1, .inl 945)], [.inl 946, gx_r 399], t126, n, 0)) rfl (fun _ => rfl) rfl ?_
  refine ex_go (S := (25, [(2, .inl 5), (0, gx_r 383), (1, .inl 945)], [.inl 5, .inl 946, gx_r 399], t126, n, 0)) rfl (fun _ => rfl) rfl ?_
  refine ex_go (S := (26, [(2, .inl 5), (0, gx_r 383), (1, .inl 945)], [.inl 951, gx_r 399], t126, n, 0)) rfl (fun _ => rfl) rfl ?_
  refine ex_go (S := (27, [(2, .inl 5), (0, gx_r 383), (1, .inl 945)], [gx_r 383, .inl 951, gx_r 399], t126, n, 0)) rfl (fun _ => rfl) rfl ?_
  refine gx_ref (c := 389) rfl g126 rfl rfl rfl rfl ?_
  refine ex_go (S := (32, [(2, .inl 5), (0, gx_r 383), (1, .inl 945)], [.inl 76, gx_r 389, .inl 951, gx_r 399], t126, n, 0)) rfl (fun _ => rfl) rfl ?_
  refine ex_go (S := (33, [(2, .inl 5), (0, gx_r 383), (1, .inl 945)], [.inl 3, .inl 76, gx_r 389, .inl 951, gx_r 399], t126, n, 0)) rfl (fun _ => rfl) rfl ?_
  refine ex_go (S := (34, [(2, .inl 5), (0, gx_r 383), (1, .inl 945)], [.inl 5, .inl 3, .inl 76, gx_r 389, .inl 951, gx_r 399], t126, n, 0)) rfl (fun _ => rfl) rfl ?_
  refine ex_go (S := (35, [(2, .inl 5), (0, gx_r 383), (1, .inl 945)], [.inl 15, .inl 76, gx_r 389, .inl 951, gx_r 399], t126, n, 0)) rfl (fun _ => rfl) rfl ?_
  refine ex_go (S := (36, [(2, .inl 5), (0, gx_r 383), (1, .inl 945)], [.inl 91, gx_r 389, .inl 951, gx_r 399], t126, n, 0)) rfl (fun _ => rfl) rfl ?_
  refine ex_go (S := (37, [(2, .inl 5), (0, gx_r 383), (1, .inl 945)], [.inl 1, .inl 91, gx_r 389, .inl 951, gx_r 399], t126, n, 0)) rfl (fun _ => rfl) rfl ?_
  refine ex_go (S := (38, [(2, .inl 5), (0, gx_r 383), (1, .inl 945)], [.inl 92, gx_r 389, .inl 951, gx_r 399], t126, n, 0)) rfl (fun _ => rfl) rfl ?_
  obtain ⟨m27, k28, m27l, m27h⟩ := gx_in (c := 389) (i := 92) (lo := 0) (hi := 7) g126 rfl rfl rfl rfl
  refine gx_ag (v := .inl m27) (cb := fun c => Nat.beq c 0) rfl (fun _ => rfl) g126 rfl rfl k28 (by first | decide | omega) rfl ?_
  refine ex_go (S := (41, [(2, .inl 5), (0, gx_r 383), (1, .inl 945)], [.inl 8, .inl m27, .inl 951, gx_r 399], t126, n, 0)) rfl (fun _ => rfl) rfl ?_
  refine ex_go (S := (42, [(2, .inl 5), (0, gx_r 383), (1, .inl 945)], [gx_r 383, .inl 8, .inl m27, .inl 951, gx_r 399], t126, n, 0)) rfl (fun _ => rfl) rfl ?_
  refine gx_ref (c := 389) rfl g126 rfl rfl rfl rfl ?_
  refine ex_go (S := (47, [(2, .inl 5), (0, gx_r 383), (1, .inl 945)], [.inl 76, gx_r 389, .inl 8, .inl m27, .inl 951, gx_r 399], t126, n, 0)) rfl (fun _ => rfl) rfl ?_
  refine ex_go (S := (48, [(2, .inl 5), (0, gx_r 383), (1, .inl 945)], [.inl 3, .inl 76, gx_r 389, .inl 8, .inl m27, .inl 951, gx_r 399], t126, n, 0)) rfl (fun _ => rfl) rfl ?_
  refine ex_go (S := (49, [(2, .inl 5), (0, gx_r 383), (1, .inl 945)], [.inl 5, .inl 3, .inl 76, gx_r 389, .inl 8, .inl m27, .inl 951, gx_r 399], t126, n, 0)) rfl (fun _ => rfl) rfl ?_
  refine ex_go (S := (50, [(2, .inl 5), (0, gx_r 383), (1, .inl 945)], [.inl 15, .inl 76, gx_r 389, .inl 8, .inl m27, .inl 951, gx_r 399], t126, n, 0)) rfl (fun _ => rfl) rfl ?_
  refine ex_go (S := (51, [(2, .inl 5), (0, gx_r 383), (1, .inl 945)], [.inl 91, gx_r 389, .inl 8, .inl m27, .inl 951, gx_r 399], t126, n, 0)) rfl (fun _ => rfl) rfl ?_
  refine ex_go (S := (52, [(2, .inl 5), (0, gx_r 383), (1, .inl 945)], [.inl 2, .inl 91, gx_r 389, .inl 8, .inl m27, .inl 951, gx_r 399], t126, n, 0)) rfl (fun _ => rfl) rfl ?_
  refine ex_go (S := (53, [(2, .inl 5), (0, gx_r 383), (1, .inl 945)], [.inl 93, gx_r 389, .inl 8, .inl m27, .inl 951, gx_r 399], t126, n, 0)) rfl (fun _ => rfl) rfl ?_
  obtain ⟨m29, k30, m29l, m29h⟩ := gx_in (c := 389) (i := 93) (lo := 0) (hi := 7) g126 rfl rfl rfl rfl
  refine gx_ag (v := .inl m29) (cb := fun c => Nat.beq c 0) rfl (fun _ => rfl) g126 rfl rfl k30 (by first | decide | omega) rfl ?_
  refine gx_imul rfl (by first | decide | omega) rfl ?_
  refine ex_iadd rfl (by first | decide | omega) rfl ?_
  refine gx_ap rfl (fun _ => rfl) g126 rfl rfl rfl (show 951 < 1035 from by omega) rfl (ai_in_h (by first | decide | omega) (by first | decide | omega) (by first | decide | omega)) rfl (fun t131 g131 k131 e131 => ?_)
  refine ex_go (S := (60, [(2, .inl 6), (0, gx_r 383), (1, .inl 945)], [], t131, n, 0)) rfl (fun _ => rfl) rfl ?_
  refine ex_go (S := (11, [(2, .inl 6), (0, gx_r 383), (1, .inl 945)], [], t131, n, 0)) rfl (fun _ => rfl) rfl ?_
  refine ex_go (S := (12, [(2, .inl 6), (0, gx_r 383), (1, .inl 945)], [.inl 6], t131, n, 0)) rfl (fun _ => rfl) rfl ?_
  refine ex_go (S := (14, [(2, .inl 6), (0, gx_r 383), (1, .inl 945)], [.inl 6, .inl 6], t131, n, 0)) rfl (fun _ => rfl) rfl ?_
  refine ex_go (S := (63, [(2, .inl 6), (0, gx_r 383), (1, .inl 945)], [], t131, n, 0)) rfl (fun _ => rfl) rfl ?_
  refine ex_go (S := (64, [(2, .inl 6), (0, gx_r 383), (1, .inl 945)], [.inl 0], t131, n, 0)) rfl (fun _ => rfl) rfl ?_
  refine ex_go (S := (65, [(2, .inl 0), (0, gx_r 383), (1, .inl 945)], [], t131, n, 0)) rfl (fun _ => rfl) rfl ?_
  refine ex_go (S := (66, [(2, .inl 0), (0, gx_r 383), (1, .inl 945)], [.inl 0], t131, n, 0)) rfl (fun _ => rfl) rfl ?_
  refine ex_go (S := (67, [(2, .inl 0), (0, gx_r 383), (1, .inl 945)], [.inl 2, .inl 0], t131, n, 0)) rfl (fun _ => rfl) rfl ?_
  refine ex_go (S := (70, [(2, .inl 0), (0, gx_r 383), (1, .inl 945)], [], t131, n, 0)) rfl (fun _ => rfl) rfl ?_
  refine ex_go (S := (71, [(2, .inl 0), (0, gx_r 383), (1, .inl 945)], [gx_r 383], t131, n, 0)) rfl (fun _ => rfl) rfl ?_
  refine gx_ref (c := 399) rfl g131 rfl rfl rfl rfl ?_
  refine ex_go (S := (75, [(2, .inl 0), (0, gx_r 383), (1, .inl 945)], [.inl 945, gx_r 399], t131, n, 0)) rfl (fun _ => rfl) rfl ?_
  refine ex_go (S := (77, [(2, .inl 0), (0, gx_r 383), (1, .inl 945)], [.inl 7, .inl 945, gx_r 399], t131, n, 0)) rfl (fun _ => rfl) rfl ?_
  refine ex_go (S := (78, [(2, .inl 0), (0, gx_r 383), (1, .inl 945)], [.inl 952, gx_r 399], t131, n, 0)) rfl (fun _ => rfl) rfl ?_
  refine ex_go (S := (79, [(2, .inl 0), (0, gx_r 383), (1, .inl 945)], [.inl 0, .inl 952, gx_r 399], t131, n, 0)) rfl (fun _ => rfl) rfl ?_
  refine ex_go (S := (80, [(2, .inl 0), (0, gx_r 383), (1, .inl 945)], [.inl 952, gx_r 399], t131, n, 0)) rfl (fun _ => rfl) rfl ?_
  refine ex_go (S := (81, [(2, .inl 0), (0, gx_r 383), (1, .inl 945)], [gx_r 383, .inl 952, gx_r 399], t131, n, 0)) rfl (fun _ => rfl) rfl ?_
  refine ex_go (S := (82, [(2, .inl 0), (0, gx_r 383), (1, .inl 945)], [.inl 0, gx_r 383, .inl 952, gx_r 399], t131, n, 0)) rfl (fun _ => rfl) rfl ?_
  refine ex_go (S := (83, [(2, .inl 0), (0, gx_r 383), (1, .inl 945)], [.inl 2, .inl 0, gx_r 383, .inl 952, gx_r 399], t131, n, 0)) rfl (fun _ => rfl) rfl ?_
  obtain ⟨_, r32, b33, rfl, q34⟩ := pk_crewOf0 d n g131
  refine gx_call1 rfl rfl g131 rfl rfl r32 rfl ?_
  refine gx_ap rfl (fun _ => rfl) g131 rfl rfl rfl (show 952 < 1035 from by omega) rfl (ai_in_h (by first | decide | omega) (by first | decide | omega) (by first | decide | omega)) rfl (fun t135 g135 k135 e135 => ?_)
  refine ex_go (S := (88, [(2, .inl 0), (0, gx_r 383), (1, .inl 945)], [gx_r 383], t135, n, 0)) rfl (fun _ => rfl) rfl ?_
  refine gx_ref (c := 399) rfl g135 rfl rfl rfl rfl ?_
  refine ex_go (S := (92, [(2, .inl 0), (0, gx_r 383), (1, .inl 945)], [.inl 945, gx_r 399], t135, n, 0)) rfl (fun _ => rfl) rfl ?_
  refine ex_go (S := (94, [(2, .inl 0), (0, gx_r 383), (1, .inl 945)], [.inl 9, .inl 945, gx_r 399], t135, n, 0)) rfl (fun _ => rfl) rfl ?_
  refine ex_go (S := (95, [(2, .inl 0), (0, gx_r 383), (1, .inl 945)], [.inl 954, gx_r 399], t135, n, 0)) rfl (fun _ => rfl) rfl ?_
  refine ex_go (S := (96, [(2, .inl 0), (0, gx_r 383), (1, .inl 945)], [.inl 0, .inl 954, gx_r 399], t135, n, 0)) rfl (fun _ => rfl) rfl ?_
  refine ex_go (S := (97, [(2, .inl 0), (0, gx_r 383), (1, .inl 945)], [.inl 954, gx_r 399], t135, n, 0)) rfl (fun _ => rfl) rfl ?_
  refine ex_go (S := (98, [(2, .inl 0), (0, gx_r 383), (1, .inl 945)], [.inl 0, .inl 954, gx_r 399], t135, n, 0)) rfl (fun _ => rfl) rfl ?_
  refine gx_ap rfl (fun _ => rfl) g135 rfl rfl rfl (show 954 < 1035 from by omega) rfl (gx_full (by first | decide | omega)) rfl (fun t136 g136 k136 e136 => ?_)
  have k37 : ai_hv t136 399 952 = some (.inl b33) := (e136 399 952 (by first | decide | omega)).trans k135
  refine ex_go (S := (100, [(2, .inl 0), (0, gx_r 383), (1, .inl 945)], [gx_r 383], t136, n, 0)) rfl (fun _ => rfl) rfl ?_
  refine gx_ref (c := 399) rfl g136 rfl rfl rfl rfl ?_
  refine ex_go (S := (104, [(2, .inl 0), (0, gx_r 383), (1, .inl 945)], [.inl 945, gx_r 399], t136, n, 0)) rfl (fun _ => rfl) rfl ?_
  refine ex_go (S := (106, [(2, .inl 0), (0, gx_r 383), (1, .inl 945)], [.inl 11, .inl 945, gx_r 399], t136, n, 0)) rfl (fun _ => rfl) rfl ?_
  refine ex_go (S := (107, [(2, .inl 0), (0, gx_r 383), (1, .inl 945)], [.inl 956, gx_r 399], t136, n, 0)) rfl (fun _ => rfl) rfl ?_
  refine ex_go (S := (108, [(2, .inl 0), (0, gx_r 383), (1, .inl 945)], [.inl 0, .inl 956, gx_r 399], t136, n, 0)) rfl (fun _ => rfl) rfl ?_
  refine ex_go (S := (109, [(2, .inl 0), (0, gx_r 383), (1, .inl 945)], [.inl 956, gx_r 399], t136, n, 0)) rfl (fun _ => rfl) rfl ?_
  refine ex_go (S := (110, [(2, .inl 0), (0, gx_r 383), (1, .inl 945)], [.inl 0, .inl 956, gx_r 399], t136, n, 0)) rfl (fun _ => rfl) rfl ?_
  refine gx_ap rfl (fun _ => rfl) g136 rfl rfl rfl (show 956 < 1035 from by omega) rfl (ai_in_h (by first | decide | omega) (by first | decide | omega) (by first | decide | omega)) rfl (fun t138 g138 k138 e138 => ?_)
  have k39 : ai_hv t138 399 952 = some (.inl b33) := (e138 399 952 (by first | decide | omega)).trans k37
  refine ex_go (S := (112, [(2, .inl 0), (0, gx_r 383), (1, .inl 945)], [gx_r 383], t138, n, 0)) rfl (fun _ => rfl) rfl ?_
  refine gx_ref (c := 399) rfl g138 rfl rfl rfl rfl ?_
  refine ex_go (S := (116, [(2, .inl 0), (0, gx_r 383), (1, .inl 945)], [.inl 945, gx_r 399], t138, n, 0)) rfl (fun _ => rfl) rfl ?_
  refine ex_go (S := (118, [(2, .inl 0), (0, gx_r 383), (1, .inl 945)], [.inl 13, .inl 945, gx_r 399], t138, n, 0)) rfl (fun _ => rfl) rfl ?_
  refine ex_go (S := (119, [(2, .inl 0), (0, gx_r 383), (1, .inl 945)], [.inl 958, gx_r 399], t138, n, 0)) rfl (fun _ => rfl) rfl ?_
  refine ex_go (S := (120, [(2, .inl 0), (0, gx_r 383), (1, .inl 945)], [.inl 0, .inl 958, gx_r 399], t138, n, 0)) rfl (fun _ => rfl) rfl ?_
  refine ex_go (S := (121, [(2, .inl 0), (0, gx_r 383), (1, .inl 945)], [.inl 958, gx_r 399], t138, n, 0)) rfl (fun _ => rfl) rfl ?_
  refine ex_go (S := (122, [(2, .inl 0), (0, gx_r 383), (1, .inl 945)], [.inl 0, .inl 958, gx_r 399], t138, n, 0)) rfl (fun _ => rfl) rfl ?_
  refine gx_ap rfl (fun _ => rfl) g138 rfl rfl rfl (show 958 < 1035 from by omega) rfl (ai_in_h (by first | decide | omega) (by first | decide | omega) (by first | decide | omega)) rfl (fun t140 g140 k140 e140 => ?_)
  have k41 : ai_hv t140 399 952 = some (.inl b33) := (e140 399 952 (by first | decide | omega)).trans k39
  refine ex_go (S := (124, [(2, .inl 0), (0, gx_r 383), (1, .inl 945)], [gx_r 383], t140, n, 0)) rfl (fun _ => rfl) rfl ?_
  refine gx_ref (c := 399) rfl g140 rfl rfl rfl rfl ?_
  refine ex_go (S := (128, [(2, .inl 0), (0, gx_r 383), (1, .inl 945)], [.inl 945, gx_r 399], t140, n, 0)) rfl (fun _ => rfl) rfl ?_
  refine ex_go (S := (130, [(2, .inl 0), (0, gx_r 383), (1, .inl 945)], [.inl 15, .inl 945, gx_r 399], t140, n, 0)) rfl (fun _ => rfl) rfl ?_
  refine ex_go (S := (131, [(2, .inl 0), (0, gx_r 383), (1, .inl 945)], [.inl 960, gx_r 399], t140, n, 0)) rfl (fun _ => rfl) rfl ?_
  refine ex_go (S := (132, [(2, .inl 0), (0, gx_r 383), (1, .inl 945)], [.inl 0, .inl 960, gx_r 399], t140, n, 0)) rfl (fun _ => rfl) rfl ?_
  refine ex_go (S := (133, [(2, .inl 0), (0, gx_r 383), (1, .inl 945)], [.inl 960, gx_r 399], t140, n, 0)) rfl (fun _ => rfl) rfl ?_
  refine ex_go (S := (134, [(2, .inl 0), (0, gx_r 383), (1, .inl 945)], [.inl 0, .inl 960, gx_r 399], t140, n, 0)) rfl (fun _ => rfl) rfl ?_
  refine gx_ap rfl (fun _ => rfl) g140 rfl rfl rfl (show 960 < 1035 from by omega) rfl (ai_in_h (by first | decide | omega) (by first | decide | omega) (by first | decide | omega)) rfl (fun t142 g142 k142 e142 => ?_)
  have k43 : ai_hv t142 399 952 = some (.inl b33) := (e142 399 952 (by first | decide | omega)).trans k41
  refine ex_go (S := (138, [(2, .inl 1), (0, gx_r 383), (1, .inl 945)], [], t142, n, 0)) rfl (fun _ => rfl) rfl ?_
  refine ex_go (S := (65, [(2, .inl 1), (0, gx_r 383), (1, .inl 945)], [], t142, n, 0)) rfl (fun _ => rfl) rfl ?_
  refine ex_go (S := (66, [(2, .inl 1), (0, gx_r 383), (1, .inl 945)], [.inl 1], t142, n, 0)) rfl (fun _ => rfl) rfl ?_
  refine ex_go (S := (67, [(2, .inl 1), (0, gx_r 383), (1, .inl 945)], [.inl 2, .inl 1], t142, n, 0)) rfl (fun _ => rfl) rfl ?_
  refine ex_go (S := (70, [(2, .inl 1), (0, gx_r 383), (1, .inl 945)], [], t142, n, 0)) rfl (fun _ => rfl) rfl ?_
  refine ex_go (S := (71, [(2, .inl 1), (0, gx_r 383), (1, .inl 945)], [gx_r 383], t142, n, 0)) rfl (fun _ => rfl) rfl ?_
  refine gx_ref (c := 399) rfl g142 rfl rfl rfl rfl ?_
  refine ex_go (S := (75, [(2, .inl 1), (0, gx_r 383), (1, .inl 945)], [.inl 945, gx_r 399], t142, n, 0)) rfl (fun _ => rfl) rfl ?_
  refine ex_go (S := (77, [(2, .inl 1), (0, gx_r 383), (1, .inl 945)], [.inl 7, .inl 945, gx_r 399], t142, n, 0)) rfl (fun _ => rfl) rfl ?_
  refine ex_go (S := (78, [(2, .inl 1), (0, gx_r 383), (1, .inl 945)], [.inl 952, gx_r 399], t142, n, 0)) rfl (fun _ => rfl) rfl ?_
  refine ex_go (S := (79, [(2, .inl 1), (0, gx_r 383), (1, .inl 945)], [.inl 1, .inl 952, gx_r 399], t142, n, 0)) rfl (fun _ => rfl) rfl ?_
  refine ex_go (S := (80, [(2, .inl 1), (0, gx_r 383), (1, .inl 945)], [.inl 953, gx_r 399], t142, n, 0)) rfl (fun _ => rfl) rfl ?_
  refine ex_go (S := (81, [(2, .inl 1), (0, gx_r 383), (1, .inl 945)], [gx_r 383, .inl 953, gx_r 399], t142, n, 0)) rfl (fun _ => rfl) rfl ?_
  refine ex_go (S := (82, [(2, .inl 1), (0, gx_r 383), (1, .inl 945)], [.inl 1, gx_r 383, .inl 953, gx_r 399], t142, n, 0)) rfl (fun _ => rfl) rfl ?_
  refine ex_go (S := (83, [(2, .inl 1), (0, gx_r 383), (1, .inl 945)], [.inl 2, .inl 1, gx_r 383, .inl 953, gx_r 399], t142, n, 0)) rfl (fun _ => rfl) rfl ?_
  obtain ⟨_, r44, b45, rfl, q46⟩ := pk_crewOf1 d n g142
  refine gx_call1 rfl rfl g142 rfl rfl r44 rfl ?_
  refine gx_ap rfl (fun _ => rfl) g142 rfl rfl rfl (show 953 < 1035 from by omega) rfl (ai_in_h (by first | decide | omega) (by first | decide | omega) (by first | decide | omega)) rfl (fun t147 g147 k147 e147 => ?_)
  have k48 : ai_hv t147 399 952 = some (.inl b33) := (e147 399 952 (by first | decide | omega)).trans k43
  refine ex_go (S := (88, [(2, .inl 1), (0, gx_r 383), (1, .inl 945)], [gx_r 383], t147, n, 0)) rfl (fun _ => rfl) rfl ?_
  refine gx_ref (c := 399) rfl g147 rfl rfl rfl rfl ?_
  refine ex_go (S := (92, [(2, .inl 1), (0, gx_r 383), (1, .inl 945)], [.inl 945, gx_r 399], t147, n, 0)) rfl (fun _ => rfl) rfl ?_
  refine ex_go (S := (94, [(2, .inl 1), (0, gx_r 383), (1, .inl 945)], [.inl 9, .inl 945, gx_r 399], t147, n, 0)) rfl (fun _ => rfl) rfl ?_
  refine ex_go (S := (95, [(2, .inl 1), (0, gx_r 383), (1, .inl 945)], [.inl 954, gx_r 399], t147, n, 0)) rfl (fun _ => rfl) rfl ?_
  refine ex_go (S := (96, [(2, .inl 1), (0, gx_r 383), (1, .inl 945)], [.inl 1, .inl 954, gx_r 399], t147, n, 0)) rfl (fun _ => rfl) rfl ?_
  refine ex_go (S := (97, [(2, .inl 1), (0, gx_r 383), (1, .inl 945)], [.inl 955, gx_r 399], t147, n, 0)) rfl (fun _ => rfl) rfl ?_
  refine ex_go (S := (98, [(2, .inl 1), (0, gx_r 383), (1, .inl 945)], [.inl 0, .inl 955, gx_r 399], t147, n, 0)) rfl (fun _ => rfl) rfl ?_
  refine gx_ap rfl (fun _ => rfl) g147 rfl rfl rfl (show 955 < 1035 from by omega) rfl (gx_full (by first | decide | omega)) rfl (fun t149 g149 k149 e149 => ?_)
  have k50 : ai_hv t149 399 952 = some (.inl b33) := (e149 399 952 (by first | decide | omega)).trans k48
  have k51 : ai_hv t149 399 953 = some (.inl b45) := (e149 399 953 (by first | decide | omega)).trans k147
  refine ex_go (S := (100, [(2, .inl 1), (0, gx_r 383), (1, .inl 945)], [gx_r 383], t149, n, 0)) rfl (fun _ => rfl) rfl ?_
  refine gx_ref (c := 399) rfl g149 rfl rfl rfl rfl ?_
  refine ex_go (S := (104, [(2, .inl 1), (0, gx_r 383), (1, .inl 945)], [.inl 945, gx_r 399], t149, n, 0)) rfl (fun _ => rfl) rfl ?_
  refine ex_go (S := (106, [(2, .inl 1), (0, gx_r 383), (1, .inl 945)], [.inl 11, .inl 945, gx_r 399], t149, n, 0)) rfl (fun _ => rfl) rfl ?_
  refine ex_go (S := (107, [(2, .inl 1), (0, gx_r 383), (1, .inl 945)], [.inl 956, gx_r 399], t149, n, 0)) rfl (fun _ => rfl) rfl ?_
  refine ex_go (S := (108, [(2, .inl 1), (0, gx_r 383), (1, .inl 945)], [.inl 1, .inl 956, gx_r 399], t149, n, 0)) rfl (fun _ => rfl) rfl ?_
  refine ex_go (S := (109, [(2, .inl 1), (0, gx_r 383), (1, .inl 945)], [.inl 957, gx_r 399], t149, n, 0)) rfl (fun _ => rfl) rfl ?_
  refine ex_go (S := (110, [(2, .inl 1), (0, gx_r 383), (1, .inl 945)], [.inl 0, .inl 957, gx_r 399], t149, n, 0)) rfl (fun _ => rfl) rfl ?_
  refine gx_ap rfl (fun _ => rfl) g149 rfl rfl rfl (show 957 < 1035 from by omega) rfl (ai_in_h (by first | decide | omega) (by first | decide | omega) (by first | decide | omega)) rfl (fun t152 g152 k152 e152 => ?_)
  have k53 : ai_hv t152 399 952 = some (.inl b33) := (e152 399 952 (by first | decide | omega)).trans k50
  have k54 : ai_hv t152 399 953 = some (.inl b45) := (e152 399 953 (by first | decide | omega)).trans k51
  refine ex_go (S := (112, [(2, .inl 1), (0, gx_r 383), (1, .inl 945)], [gx_r 383], t152, n, 0)) rfl (fun _ => rfl) rfl ?_
  refine gx_ref (c := 399) rfl g152 rfl rfl rfl rfl ?_
  refine ex_go (S := (116, [(2, .inl 1), (0, gx_r 383), (1, .inl 945)], [.inl 945, gx_r 399], t152, n, 0)) rfl (fun _ => rfl) rfl ?_
  refine ex_go (S := (118, [(2, .inl 1), (0, gx_r 383), (1, .inl 945)], [.inl 13, .inl 945, gx_r 399], t152, n, 0)) rfl (fun _ => rfl) rfl ?_
  refine ex_go (S := (119, [(2, .inl 1), (0, gx_r 383), (1, .inl 945)], [.inl 958, gx_r 399], t152, n, 0)) rfl (fun _ => rfl) rfl ?_
  refine ex_go (S := (120, [(2, .inl 1), (0, gx_r 383), (1, .inl 945)], [.inl 1, .inl 958, gx_r 399], t152, n, 0)) rfl (fun _ => rfl) rfl ?_
  refine ex_go (S := (121, [(2, .inl 1), (0, gx_r 383), (1, .inl 945)], [.inl 959, gx_r 399], t152, n, 0)) rfl (fun _ => rfl) rfl ?_
  refine ex_go (S := (122, [(2, .inl 1), (0, gx_r 383), (1, .inl 945)], [.inl 0, .inl 959, gx_r 399], t152, n, 0)) rfl (fun _ => rfl) rfl ?_
  refine gx_ap rfl (fun _ => rfl) g152 rfl rfl rfl (show 959 < 1035 from by omega) rfl (ai_in_h (by first | decide | omega) (by first | decide | omega) (by first | decide | omega)) rfl (fun t155 g155 k155 e155 => ?_)
  have k56 : ai_hv t155 399 952 = some (.inl b33) := (e155 399 952 (by first | decide | omega)).trans k53
  have k57 : ai_hv t155 399 953 = some (.inl b45) := (e155 399 953 (by first | decide | omega)).trans k54
  refine ex_go (S := (124, [(2, .inl 1), (0, gx_r 383), (1, .inl 945)], [gx_r 383], t155, n, 0)) rfl (fun _ => rfl) rfl ?_
  refine gx_ref (c := 399) rfl g155 rfl rfl rfl rfl ?_
  refine ex_go (S := (128, [(2, .inl 1), (0, gx_r 383), (1, .inl 945)], [.inl 945, gx_r 399], t155, n, 0)) rfl (fun _ => rfl) rfl ?_
  refine ex_go (S := (130, [(2, .inl 1), (0, gx_r 383), (1, .inl 945)], [.inl 15, .inl 945, gx_r 399], t155, n, 0)) rfl (fun _ => rfl) rfl ?_
  refine ex_go (S := (131, [(2, .inl 1), (0, gx_r 383), (1, .inl 945)], [.inl 960, gx_r 399], t155, n, 0)) rfl (fun _ => rfl) rfl ?_
  refine ex_go (S := (132, [(2, .inl 1), (0, gx_r 383), (1, .inl 945)], [.inl 1, .inl 960, gx_r 399], t155, n, 0)) rfl (fun _ => rfl) rfl ?_
  refine ex_go (S := (133, [(2, .inl 1), (0, gx_r 383), (1, .inl 945)], [.inl 961, gx_r 399], t155, n, 0)) rfl (fun _ => rfl) rfl ?_
  refine ex_go (S := (134, [(2, .inl 1), (0, gx_r 383), (1, .inl 945)], [.inl 0, .inl 961, gx_r 399], t155, n, 0)) rfl (fun _ => rfl) rfl ?_
  refine gx_ap rfl (fun _ => rfl) g155 rfl rfl rfl (show 961 < 1035 from by omega) rfl (ai_in_h (by first | decide | omega) (by first | decide | omega) (by first | decide | omega)) rfl (fun t158 g158 k158 e158 => ?_)
  have k59 : ai_hv t158 399 952 = some (.inl b33) := (e158 399 952 (by first | decide | omega)).trans k56
  have k60 : ai_hv t158 399 953 = some (.inl b45) := (e158 399 953 (by first | decide | omega)).trans k57
  refine ex_go (S := (138, [(2, .inl 2), (0, gx_r 383), (1, .inl 945)], [], t158, n, 0)) rfl (fun _ => rfl) rfl ?_
  refine ex_go (S := (65, [(2, .inl 2), (0, gx_r 383), (1, .inl 945)], [], t158, n, 0)) rfl (fun _ => rfl) rfl ?_
  refine ex_go (S := (66, [(2, .inl 2), (0, gx_r 383), (1, .inl 945)], [.inl 2], t158, n, 0)) rfl (fun _ => rfl) rfl ?_
  refine ex_go (S := (67, [(2, .inl 2), (0, gx_r 383), (1, .inl 945)], [.inl 2, .inl 2], t158, n, 0)) rfl (fun _ => rfl) rfl ?_
  refine ex_go (S := (141, [(2, .inl 2), (0, gx_r 383), (1, .inl 945)], [], t158, n, 0)) rfl (fun _ => rfl) rfl ?_
  refine ex_ret (r := (none, t158, n, 0)) rfl (fun _ => rfl) ?_
  exact ⟨_, rfl, t158, rfl, g158, (fun c i h => (e158 c i (by first | decide | omega)).trans ((e155 c i (by first | decide | omega)).trans ((e152 c i (by first | decide | omega)).trans ((e149 c i (by first | decide | omega)).trans ((e147 c i (by first | decide | omega)).trans ((e142 c i (by first | decide | omega)).trans ((e140 c i (by first | decide | omega)).trans ((e138 c i (by first | decide | omega)).trans ((e136 c i (by first | decide | omega)).trans ((e135 c i (by first | decide | omega)).trans ((e131 c i (by first | decide | omega)).trans ((e126 c i (by first | decide | omega)).trans ((e121 c i (by first | decide | omega)).trans ((e116 c i (by first | decide | omega)).trans ((e111 c i (by first | decide | omega)).trans ((e106 c i (by first | decide | omega)).trans (e101 c i (by first | decide | omega)))))))))))))))))), ⟨b33, k59, by omega, by omega⟩, ⟨b45, k60, by omega, by omega⟩⟩
theorem pk_begins (d n : Nat) {t0 : en_H} (g0 : ai_HG ah_G t0) : ∃ r, en_u (d + 3) 27 [gx_r 383] t0 n = some r ∧ ∃ t', r = (none, t', n, 0) ∧ ai_HG ah_G t' ∧ (∀ c i, ¬ ((c = 399 ∧ i < 18) ∨ (c = 396 ∧ i = 0) ∨ (c = 383 ∧ i = 26) ∨ c = 400) → ai_hv t' c i = ai_hv t0 c i) ∧ ai_En t' 399 7 0 9999 ∧ ai_En t' 399 8 0 9999 := by
  refine en_u_ex (d := d + 2) rfl ?_
  show en_ex _ _ _ _ (0, [(0, gx_r 383)], [], t0, n, 0) _
  refine ex_go (S := (1, [(0, gx_r 383)], [gx_r 383], t0, n, 0)) rfl (fun _ => rfl) rfl ?_
  refine ex_go (S := (2, [(0, gx_r 383)], [.inl 0, gx_r 383], t0, n, 0)) rfl (fun _ => rfl) rfl ?_
  obtain ⟨_, r1, t1, rfl, g1, e1, ⟨b7, k7, _, h7⟩, ⟨b8, k8, _, h8⟩⟩ := pk_starts0 d n g0
  refine gx_call0 rfl rfl g0 rfl rfl r1 rfl ?_
  refine ex_go (S := (6, [(0, gx_r 383)], [gx_r 383], t1, n, 0)) rfl (fun _ => rfl) rfl ?_
  refine gx_ref (c := 399) rfl g1 rfl rfl rfl rfl ?_
  refine ex_go (S := (11, [(0, gx_r 383)], [.inl 17, gx_r 399], t1, n, 0)) rfl (fun _ => rfl) rfl ?_
  refine ex_go (S := (12, [(0, gx_r 383)], [.inl 0, .inl 17, gx_r 399], t1, n, 0)) rfl (fun _ => rfl) rfl ?_
  refine gx_ap rfl (fun _ => rfl) g1 rfl rfl rfl (show 17 < 1035 from by omega) rfl (ai_in_h (by first | decide | omega) (by first | decide | omega) (by first | decide | omega)) rfl (fun t101 g101 k101 e101 => ?_)
  have k2 : ai_hv t101 399 7 = some (.inl b7) := (e101 399 7 (by first | decide | omega)).trans k7
  have k3 : ai_hv t101 399 8 = some (.inl b8) := (e101 399 8 (by first | decide | omega)).trans k8
  refine ex_go (S := (14, [(0, gx_r 383)], [gx_r 383], t101, n, 0)) rfl (fun _ => rfl) rfl ?_
  refine gx_ref (c := 396) rfl g101 rfl rfl rfl rfl ?_
  refine ex_go (S := (18, [(0, gx_r 383)], [.inl 0, gx_r 396], t101, n, 0)) rfl (fun _ => rfl) rfl ?_
  refine ex_go (S := (19, [(0, gx_r 383)], [.inl 0, .inl 0, gx_r 396], t101, n, 0)) rfl (fun _ => rfl) rfl ?_
  refine gx_ap rfl (fun _ => rfl) g101 rfl rfl rfl (show 0 < 210 from by omega) rfl (ai_in_h (by first | decide | omega) (by first | decide | omega) (by first | decide | omega)) rfl (fun t104 g104 k104 e104 => ?_)
  have k5 : ai_hv t104 399 7 = some (.inl b7) := (e104 399 7 (by first | decide | omega)).trans k2
  have k6 : ai_hv t104 399 8 = some (.inl b8) := (e104 399 8 (by first | decide | omega)).trans k3
  refine ex_go (S := (21, [(0, gx_r 383)], [gx_r 383], t104, n, 0)) rfl (fun _ => rfl) rfl ?_
  refine ex_go (S := (22, [(0, gx_r 383)], [.inl 0, gx_r 383], t104, n, 0)) rfl (fun _ => rfl) rfl ?_
  refine gx_put rfl g104 rfl rfl (ai_in_h (by first | decide | omega) (by first | decide | omega) (by first | decide | omega)) rfl (fun t107 g107 k107 e107 => ?_)
  have k8 : ai_hv t107 399 7 = some (.inl b7) := (e107 399 7 (by first | decide | omega)).trans k5
  have k9 : ai_hv t107 399 8 = some (.inl b8) := (e107 399 8 (by first | decide | omega)).trans k6
  refine ex_go (S := (26, [(0, gx_r 383)], [.inl 0], t107, n, 0)) rfl (fun _ => rfl) rfl ?_
  refine ex_go (S := (27, [(1, .inl 0), (0, gx_r 383)], [], t107, n, 0)) rfl (fun _ => rfl) rfl ?_
  refine ex_go (S := (28, [(1, .inl 0), (0, gx_r 383)], [.inl 0], t107, n, 0)) rfl (fun _ => rfl) rfl ?_
  refine ex_go (S := (29, [(1, .inl 0), (0, gx_r 383)], [.inl 4, .inl 0], t107, n, 0)) rfl (fun _ => rfl) rfl ?_
  refine ex_go (S := (32, [(1, .inl 0), (0, gx_r 383)], [], t107, n, 0)) rfl (fun _ => rfl) rfl ?_
  refine ex_go (S := (33, [(1, .inl 0), (0, gx_r 383)], [gx_r 383], t107, n, 0)) rfl (fun _ => rfl) rfl ?_
  refine gx_ref (c := 400) rfl g107 rfl rfl rfl rfl ?_
  refine ex_go (S := (37, [(1, .inl 0), (0, gx_r 383)], [.inl 0, gx_r 400], t107, n, 0)) rfl (fun _ => rfl) rfl ?_
  refine ex_go (S := (38, [(1, .inl 0), (0, gx_r 383)], [.inl 0, .inl 0, gx_r 400], t107, n, 0)) rfl (fun _ => rfl) rfl ?_
  refine gx_apv (d := 2) rfl (fun _ => rfl) g107 rfl rfl rfl (show 0 < 4 from by omega) rfl (ai_in_h (by first | decide | omega) (by first | decide | omega) (by first | decide | omega)) rfl (fun t110 g110 k110 e110 => ?_)
  have k11 : ai_hv t110 399 7 = some (.inl b7) := (e110 399 7 (by first | decide | omega)).trans k8
  have k12 : ai_hv t110 399 8 = some (.inl b8) := (e110 399 8 (by first | decide | omega)).trans k9
  refine ex_go (S := (42, [(1, .inl 1), (0, gx_r 383)], [], t110, n, 0)) rfl (fun _ => rfl) rfl ?_
  refine ex_go (S := (27, [(1, .inl 1), (0, gx_r 383)], [], t110, n, 0)) rfl (fun _ => rfl) rfl ?_
  refine ex_go (S := (28, [(1, .inl 1), (0, gx_r 383)], [.inl 1], t110, n, 0)) rfl (fun _ => rfl) rfl ?_
  refine ex_go (S := (29, [(1, .inl 1), (0, gx_r 383)], [.inl 4, .inl 1], t110, n, 0)) rfl (fun _ => rfl) rfl ?_
  refine ex_go (S := (32, [(1, .inl 1), (0, gx_r 383)], [], t110, n, 0)) rfl (fun _ => rfl) rfl ?_
  refine ex_go (S := (33, [(1, .inl 1), (0, gx_r 383)], [gx_r 383], t110, n, 0)) rfl (fun _ => rfl) rfl ?_
  refine gx_ref (c := 400) rfl g110 rfl rfl rfl rfl ?_
  refine ex_go (S := (37, [(1, .inl 1), (0, gx_r 383)], [.inl 1, gx_r 400], t110, n, 0)) rfl (fun _ => rfl) rfl ?_
  refine ex_go (S := (38, [(1, .inl 1), (0, gx_r 383)], [.inl 0, .inl 1, gx_r 400], t110, n, 0)) rfl (fun _ => rfl) rfl ?_
  refine gx_apv (d := 2) rfl (fun _ => rfl) g110 rfl rfl rfl (show 1 < 4 from by omega) rfl (ai_in_h (by first | decide | omega) (by first | decide | omega) (by first | decide | omega)) rfl (fun t113 g113 k113 e113 => ?_)
  have k14 : ai_hv t113 399 7 = some (.inl b7) := (e113 399 7 (by first | decide | omega)).trans k11
  have k15 : ai_hv t113 399 8 = some (.inl b8) := (e113 399 8 (by first | decide | omega)).trans k12
  refine ex_go (S := (42, [(1, .inl 2), (0, gx_r 383)], [], t113, n, 0)) rfl (fun _ => rfl) rfl ?_
  refine ex_go (S := (27, [(1, .inl 2), (0, gx_r 383)], [], t113, n, 0)) rfl (fun _ => rfl) rfl ?_
  refine ex_go (S := (28, [(1, .inl 2), (0, gx_r 383)], [.inl 2], t113, n, 0)) rfl (fun _ => rfl) rfl ?_
  refine ex_go (S := (29, [(1, .inl 2), (0, gx_r 383)], [.inl 4, .inl 2], t113, n, 0)) rfl (fun _ => rfl) rfl ?_
  refine ex_go (S := (32, [(1, .inl 2), (0, gx_r 383)], [], t113, n, 0)) rfl (fun _ => rfl) rfl ?_
  refine ex_go (S := (33, [(1, .inl 2), (0, gx_r 383)], [gx_r 383], t113, n, 0)) rfl (fun _ => rfl) rfl ?_
  refine gx_ref (c := 400) rfl g113 rfl rfl rfl rfl ?_
  refine ex_go (S := (37, [(1, .inl 2), (0, gx_r 383)], [.inl 2, gx_r 400], t113, n, 0)) rfl (fun _ => rfl) rfl ?_
  refine ex_go (S := (38, [(1, .inl 2), (0, gx_r 383)], [.inl 0, .inl 2, gx_r 400], t113, n, 0)) rfl (fun _ => rfl) rfl ?_
  refine gx_apv (d := 2) rfl (fun _ => rfl) g113 rfl rfl rfl (show 2 < 4 from by omega) rfl (ai_in_h (by first | decide | omega) (by first | decide | omega) (by first | decide | omega)) rfl (fun t116 g116 k116 e116 => ?_)
  have k17 : ai_hv t116 399 7 = some (.inl b7) := (e116 399 7 (by first | decide | omega)).trans k14
  have k18 : ai_hv t116 399 8 = some (.inl b8) := (e116 399 8 (by first | decide | omega)).trans k15
  refine ex_go (S := (42, [(1, .inl 3), (0, gx_r 383)], [], t116, n, 0)) rfl (fun _ => rfl) rfl ?_
  refine ex_go (S := (27, [(1, .inl 3), (0, gx_r 383)], [], t116, n, 0)) rfl (fun _ => rfl) rfl ?_
  refine ex_go (S := (28, [(1, .inl 3), (0, gx_r 383)], [.inl 3], t116, n, 0)) rfl (fun _ => rfl) rfl ?_
  refine ex_go (S := (29, [(1, .inl 3), (0, gx_r 383)], [.inl 4, .inl 3], t116, n, 0)) rfl (fun _ => rfl) rfl ?_
  refine ex_go (S := (32, [(1, .inl 3), (0, gx_r 383)], [], t116, n, 0)) rfl (fun _ => rfl) rfl ?_
  refine ex_go (S := (33, [(1, .inl 3), (0, gx_r 383)], [gx_r 383], t116, n, 0)) rfl (fun _ => rfl) rfl ?_
  refine gx_ref (c := 400) rfl g116 rfl rfl rfl rfl ?_
  refine ex_go (S := (37, [(1, .inl 3), (0, gx_r 383)], [.inl 3, gx_r 400], t116, n, 0)) rfl (fun _ => rfl) rfl ?_
  refine ex_go (S := (38, [(1, .inl 3), (0, gx_r 383)], [.inl 0, .inl 3, gx_r 400], t116, n, 0)) rfl (fun _ => rfl) rfl ?_
  refine gx_apv (d := 2) rfl (fun _ => rfl) g116 rfl rfl rfl (show 3 < 4 from by omega) rfl (ai_in_h (by first | decide | omega) (by first | decide | omega) (by first | decide | omega)) rfl (fun t119 g119 k119 e119 => ?_)
  have k20 : ai_hv t119 399 7 = some (.inl b7) := (e119 399 7 (by first | decide | omega)).trans k17
  have k21 : ai_hv t119 399 8 = some (.inl b8) := (e119 399 8 (by first | decide | omega)).trans k18
  refine ex_go (S := (42, [(1, .inl 4), (0, gx_r 383)], [], t119, n, 0)) rfl (fun _ => rfl) rfl ?_
  refine ex_go (S := (27, [(1, .inl 4), (0, gx_r 383)], [], t119, n, 0)) rfl (fun _ => rfl) rfl ?_
  refine ex_go (S := (28, [(1, .inl 4), (0, gx_r 383)], [.inl 4], t119, n, 0)) rfl (fun _ => rfl) rfl ?_
  refine ex_go (S := (29, [(1, .inl 4), (0, gx_r 383)], [.inl 4, .inl 4], t119, n, 0)) rfl (fun _ => rfl) rfl ?_
  refine ex_go (S := (45, [(1, .inl 4), (0, gx_r 383)], [], t119, n, 0)) rfl (fun _ => rfl) rfl ?_
  refine ex_ret (r := (none, t119, n, 0)) rfl (fun _ => rfl) ?_
  exact ⟨_, rfl, t119, rfl, g119, (fun c i h => (e119 c i (by first | decide | omega)).trans ((e116 c i (by first | decide | omega)).trans ((e113 c i (by first | decide | omega)).trans ((e110 c i (by first | decide | omega)).trans ((e107 c i (by first | decide | omega)).trans ((e104 c i (by first | decide | omega)).trans ((e101 c i (by first | decide | omega)).trans (e1 c i (by first | decide | omega))))))))), ⟨b7, k20, by omega, by omega⟩, ⟨b8, k21, by omega, by omega⟩⟩
end PK7
section PK8
theorem pk_takeCrew (d n : Nat) {t0 : en_H} {a f : Nat} (s0 : px_S t0 a f) : ∃ r, en_u (d + 4) 195 [gx_r 383] t0 n = some r ∧ ∃ v t' a' f', r = (some (.inl v), t', n, 0) ∧ px_S t' a' f' ∧ px_F t0 t' ∧ (a ≤ a' ∧ a' ≤ a + 1 ∧ (f ≠ 0 → f' = f ∧ a' = a) ∧ (f' = 0 → f = 0 ∧ a' = a + 1 ∧ v ≤ 1) ∧ v < 4294967296) := by
  have b0 := s0.2.2.2
  refine en_u_ex (d := d + 3) rfl ?_
  show en_ex _ _ _ _ (0, [(0, gx_r 383)], [], t0, n, 0) _
  refine ex_go (S := (1, [(0, gx_r 383)], [gx_r 383], t0, n, 0)) rfl (fun _ => rfl) rfl ?_
  refine gx_get rfl s0.1 rfl s0.2.2.1 rfl ?_
  by_cases hc1 : f ≠ 0
  · refine gx_1t (c := .ne) rfl (by first | decide | omega) hc1 rfl ?_
    refine ex_go (S := (20, [(0, gx_r 383)], [gx_r 383], t0, n, 0)) rfl (fun _ => rfl) rfl ?_
    refine gx_get rfl s0.1 rfl s0.2.2.1 rfl ?_
    refine gx_1f (c := .le) rfl (by first | decide | omega) (show ¬ (f ≤ 0) from by omega) rfl ?_
    refine ex_go (S := (27, [(0, gx_r 383)], [.inl 4294967295], t0, n, 0)) rfl (fun _ => rfl) rfl ?_
    refine ex_go (S := (35, [(0, gx_r 383)], [.inl 4294967295], t0, n, 0)) rfl (fun _ => rfl) rfl ?_
    refine ex_go (S := (36, [(1, .inl 4294967295), (0, gx_r 383)], [], t0, n, 0)) rfl (fun _ => rfl) rfl ?_
    refine ex_go (S := (37, [(1, .inl 4294967295), (0, gx_r 383)], [.inl 4294967295], t0, n, 0)) rfl (fun _ => rfl) rfl ?_
    refine ex_go (S := (38, [(2, .inl 4294967295), (1, .inl 4294967295), (0, gx_r 383)], [], t0, n, 0)) rfl (fun _ => rfl) rfl ?_
    refine ex_go (S := (39, [(2, .inl 4294967295), (1, .inl 4294967295), (0, gx_r 383)], [.inl 0], t0, n, 0)) rfl (fun _ => rfl) rfl ?_
    refine ex_go (S := (40, [(3, .inl 0), (2, .inl 4294967295), (1, .inl 4294967295), (0, gx_r 383)], [], t0, n, 0)) rfl (fun _ => rfl) rfl ?_
    refine ex_go (S := (41, [(3, .inl 0), (2, .inl 4294967295), (1, .inl 4294967295), (0, gx_r 383)], [.inl 0], t0, n, 0)) rfl (fun _ => rfl) rfl ?_
    refine ex_go (S := (42, [(3, .inl 0), (2, .inl 4294967295), (1, .inl 4294967295), (0, gx_r 383)], [gx_r 383, .inl 0], t0, n, 0)) rfl (fun _ => rfl) rfl ?_
    refine gx_ref (c := 389) rfl s0.1 rfl rfl rfl rfl ?_
    refine ex_go (S := (46, [(3, .inl 0), (2, .inl 4294967295), (1, .inl 4294967295), (0, gx_r 383)], [.inl 4, gx_r 389, .inl 0], t0, n, 0)) rfl (fun _ => rfl) rfl ?_
    obtain ⟨m2, k3, m2l, m2h⟩ := gx_in (c := 389) (i := 4) (lo := 0) (hi := 2) s0.1 rfl rfl rfl rfl
    refine gx_ag (v := .inl m2) (cb := fun c => Nat.beq c 0) rfl (fun _ => rfl) s0.1 rfl rfl k3 (by first | decide | omega) rfl ?_
    by_cases hc4 : m2 ≤ 0
    · refine gx_2t (c := .ge) rfl (by first | decide | omega) (by first | decide | omega) hc4 rfl ?_
      refine ex_go (S := (82, [(3, .inl 0), (2, .inl 4294967295), (1, .inl 4294967295), (0, gx_r 383)], [gx_r 383], t0, n, 0)) rfl (fun _ => rfl) rfl ?_
      refine gx_get rfl s0.1 rfl s0.2.2.1 rfl ?_
      refine gx_1t (c := .ne) rfl (by first | decide | omega) (show f ≠ 0 from by omega) rfl ?_
      refine ex_go (S := (98, [(3, .inl 0), (2, .inl 4294967295), (1, .inl 4294967295), (0, gx_r 383)], [gx_r 383], t0, n, 0)) rfl (fun _ => rfl) rfl ?_
      refine ex_go (S := (99, [(3, .inl 0), (2, .inl 4294967295), (1, .inl 4294967295), (0, gx_r 383)], [gx_r 383, gx_r 383], t0, n, 0)) rfl (fun _ => rfl) rfl ?_
      refine gx_get rfl s0.1 rfl s0.2.1 rfl ?_
      refine ex_go (S := (103, [(3, .inl 0), (2, .inl 4294967295), (1, .inl 4294967295), (0, gx_r 383)], [gx_r 383, .inl a, gx_r 383], t0, n, 0)) rfl (fun _ => rfl) rfl ?_
      refine gx_get rfl s0.1 rfl s0.2.2.1 rfl ?_
      refine gx_1f (c := .le) rfl (by first | decide | omega) (show ¬ (f ≤ 0) from by omega) rfl ?_
      refine ex_go (S := (110, [(3, .inl 0), (2, .inl 4294967295), (1, .inl 4294967295), (0, gx_r 383)], [.inl 0, .inl a, gx_r 383], t0, n, 0)) rfl (fun _ => rfl) rfl ?_
      refine ex_go (S := (114, [(3, .inl 0), (2, .inl 4294967295), (1, .inl 4294967295), (0, gx_r 383)], [.inl 0, .inl a, gx_r 383], t0, n, 0)) rfl (fun _ => rfl) rfl ?_
      refine ex_iadd rfl (by first | decide | omega) rfl ?_
      refine gx_put rfl s0.1 rfl rfl (ai_in_h (by first | decide | omega) (by first | decide | omega) (by first | decide | omega)) rfl (fun t105 g105 k105 e105 => ?_)
      have k6 : ai_hv t105 389 4 = some (.inl m2) := (e105 389 4 (by first | decide | omega)).trans k3
      have s105 : px_S t105 (a + 0) f := ⟨g105, k105, (e105 383 8 (by first | decide | omega)).trans s0.2.2.1, by omega, s0.2.2.2.2⟩
      refine ex_go (S := (119, [(3, .inl 0), (2, .inl 4294967295), (1, .inl 4294967295), (0, gx_r 383)], [.inl 4294967295], t105, n, 0)) rfl (fun _ => rfl) rfl ?_
      refine ex_ret (r := (some (.inl 4294967295), t105, n, 0)) rfl (fun _ => rfl) ?_
      exact ⟨_, rfl, 4294967295, t105, a + 0, f, rfl, s105, (fun c i h => e105 c i (by first | decide | omega)), by omega⟩
    · refine gx_2f (c := .ge) rfl (by first | decide | omega) (by first | decide | omega) hc4 rfl ?_
      refine ex_go (S := (51, [(3, .inl 0), (2, .inl 4294967295), (1, .inl 4294967295), (0, gx_r 383)], [.inl 4294967295], t0, n, 0)) rfl (fun _ => rfl) rfl ?_
      refine ex_go (S := (81, [(3, .inl 0), (2, .inl 4294967295), (1, .inl 4294967295), (0, gx_r 383)], [], t0, n, 0)) rfl (fun _ => rfl) rfl ?_
      refine ex_go (S := (82, [(3, .inl 0), (2, .inl 4294967295), (1, .inl 4294967295), (0, gx_r 383)], [gx_r 383], t0, n, 0)) rfl (fun _ => rfl) rfl ?_
      refine gx_get rfl s0.1 rfl s0.2.2.1 rfl ?_
      refine gx_1t (c := .ne) rfl (by first | decide | omega) (show f ≠ 0 from by omega) rfl ?_
      refine ex_go (S := (98, [(3, .inl 0), (2, .inl 4294967295), (1, .inl 4294967295), (0, gx_r 383)], [gx_r 383], t0, n, 0)) rfl (fun _ => rfl) rfl ?_
      refine ex_go (S := (99, [(3, .inl 0), (2, .inl 4294967295), (1, .inl 4294967295), (0, gx_r 383)], [gx_r 383, gx_r 383], t0, n, 0)) rfl (fun _ => rfl) rfl ?_
      refine gx_get rfl s0.1 rfl s0.2.1 rfl ?_
      refine ex_go (S := (103, [(3, .inl 0), (2, .inl 4294967295), (1, .inl 4294967295), (0, gx_r 383)], [gx_r 383, .inl a, gx_r 383], t0, n, 0)) rfl (fun _ => rfl) rfl ?_
      refine gx_get rfl s0.1 rfl s0.2.2.1 rfl ?_
      refine gx_1f (c := .le) rfl (by first | decide | omega) (show ¬ (f ≤ 0) from by omega) rfl ?_
      refine ex_go (S := (110, [(3, .inl 0), (2, .inl 4294967295), (1, .inl 4294967295), (0, gx_r 383)], [.inl 0, .inl a, gx_r 383], t0, n, 0)) rfl (fun _ => rfl) rfl ?_
      refine ex_go (S := (114, [(3, .inl 0), (2, .inl 4294967295), (1, .inl 4294967295), (0, gx_r 383)], [.inl 0, .inl a, gx_r 383], t0, n, 0)) rfl (fun _ => rfl) rfl ?_
      refine ex_iadd rfl (by first | decide | omega) rfl ?_
      refine gx_put rfl s0.1 rfl rfl (ai_in_h (by first | decide | omega) (by first | decide | omega) (by first | decide | omega)) rfl (fun t107 g107 k107 e107 => ?_)
      have k8 : ai_hv t107 389 4 = some (.inl m2) := (e107 389 4 (by first | decide | omega)).trans k3
      have s107 : px_S t107 (a + 0) f := ⟨g107, k107, (e107 383 8 (by first | decide | omega)).trans s0.2.2.1, by omega, s0.2.2.2.2⟩
      refine ex_go (S := (119, [(3, .inl 0), (2, .inl 4294967295), (1, .inl 4294967295), (0, gx_r 383)], [.inl 4294967295], t107, n, 0)) rfl (fun _ => rfl) rfl ?_
      refine ex_ret (r := (some (.inl 4294967295), t107, n, 0)) rfl (fun _ => rfl) ?_
      exact ⟨_, rfl, 4294967295, t107, a + 0, f, rfl, s107, (fun c i h => e107 c i (by first | decide | omega)), by omega⟩
  · refine gx_1f (c := .ne) rfl (by first | decide | omega) hc1 rfl ?_
    refine ex_go (S := (8, [(0, gx_r 383)], [gx_r 383], t0, n, 0)) rfl (fun _ => rfl) rfl ?_
    obtain ⟨_, r11, b9, rfl, q10⟩ := pk_isName (d) n (s0) 
    refine gx_call1 rfl rfl s0.1 rfl rfl r11 rfl ?_
    by_cases hc12 : b9 ≠ 0
    · refine gx_1t (c := .ne) rfl (by first | decide | omega) hc12 rfl ?_
      refine ex_go (S := (20, [(0, gx_r 383)], [gx_r 383], t0, n, 0)) rfl (fun _ => rfl) rfl ?_
      refine gx_get rfl s0.1 rfl s0.2.2.1 rfl ?_
      refine gx_1t (c := .le) rfl (by first | decide | omega) (show f ≤ 0 from by omega) rfl ?_
      refine ex_go (S := (31, [(0, gx_r 383)], [gx_r 383], t0, n, 0)) rfl (fun _ => rfl) rfl ?_
      refine ex_go (S := (32, [(0, gx_r 383)], [.inl 0, gx_r 383], t0, n, 0)) rfl (fun _ => rfl) rfl ?_
      obtain ⟨_, r15, b13, rfl, q14⟩ := pk_find (d + 2) n (s0) (w := 0) (by first | decide | omega)
      refine gx_call1 rfl rfl s0.1 rfl rfl r15 rfl ?_
      rcases q14 with hn16 | hn16
      · have := hn16
        refine ex_go (S := (36, [(1, .inl b13), (0, gx_r 383)], [], t0, n, 0)) rfl (fun _ => rfl) rfl ?_
        refine ex_go (S := (37, [(1, .inl b13), (0, gx_r 383)], [.inl 4294967295], t0, n, 0)) rfl (fun _ => rfl) rfl ?_
        refine ex_go (S := (38, [(2, .inl 4294967295), (1, .inl b13), (0, gx_r 383)], [], t0, n, 0)) rfl (fun _ => rfl) rfl ?_
        refine ex_go (S := (39, [(2, .inl 4294967295), (1, .inl b13), (0, gx_r 383)], [.inl 0], t0, n, 0)) rfl (fun _ => rfl) rfl ?_
        refine ex_go (S := (40, [(3, .inl 0), (2, .inl 4294967295), (1, .inl b13), (0, gx_r 383)], [], t0, n, 0)) rfl (fun _ => rfl) rfl ?_
        refine ex_go (S := (41, [(3, .inl 0), (2, .inl 4294967295), (1, .inl b13), (0, gx_r 383)], [.inl 0], t0, n, 0)) rfl (fun _ => rfl) rfl ?_
        refine ex_go (S := (42, [(3, .inl 0), (2, .inl 4294967295), (1, .inl b13), (0, gx_r 383)], [gx_r 383, .inl 0], t0, n, 0)) rfl (fun _ => rfl) rfl ?_
        refine gx_ref (c := 389) rfl s0.1 rfl rfl rfl rfl ?_
        refine ex_go (S := (46, [(3, .inl 0), (2, .inl 4294967295), (1, .inl b13), (0, gx_r 383)], [.inl 4, gx_r 389, .inl 0], t0, n, 0)) rfl (fun _ => rfl) rfl ?_
        obtain ⟨m17, k18, m17l, m17h⟩ := gx_in (c := 389) (i := 4) (lo := 0) (hi := 2) s0.1 rfl rfl rfl rfl
        refine gx_ag (v := .inl m17) (cb := fun c => Nat.beq c 0) rfl (fun _ => rfl) s0.1 rfl rfl k18 (by first | decide | omega) rfl ?_
        by_cases hc19 : m17 ≤ 0
        · refine gx_2t (c := .ge) rfl (by first | decide | omega) (by first | decide | omega) hc19 rfl ?_
          refine ex_go (S := (82, [(3, .inl 0), (2, .inl 4294967295), (1, .inl b13), (0, gx_r 383)], [gx_r 383], t0, n, 0)) rfl (fun _ => rfl) rfl ?_
          refine gx_get rfl s0.1 rfl s0.2.2.1 rfl ?_
          refine gx_1f (c := .ne) rfl (by first | decide | omega) (show ¬ (f ≠ 0) from by omega) rfl ?_
          refine ex_go (S := (89, [(3, .inl 0), (2, .inl 4294967295), (1, .inl b13), (0, gx_r 383)], [.inl 4294967295], t0, n, 0)) rfl (fun _ => rfl) rfl ?_
          refine ex_go (S := (92, [(3, .inl 0), (2, .inl 4294967295), (1, .inl b13), (0, gx_r 383)], [], t0, n, 0)) rfl (fun _ => rfl) rfl ?_
          refine ex_go (S := (93, [(3, .inl 0), (2, .inl 4294967295), (1, .inl b13), (0, gx_r 383)], [gx_r 383], t0, n, 0)) rfl (fun _ => rfl) rfl ?_
          refine ex_go (S := (94, [(3, .inl 0), (2, .inl 4294967295), (1, .inl b13), (0, gx_r 383)], [.inl 2, gx_r 383], t0, n, 0)) rfl (fun _ => rfl) rfl ?_
          obtain ⟨_, r120, t120, a120, f120, rfl, s120, e120, q120⟩ := pk_wrong (d + 2) n (s0) (w := 2) (by first | decide | omega)
          have b120 := s120.2.2.2
          refine gx_call0 rfl rfl s0.1 rfl rfl r120 rfl ?_
          have k21 : ai_hv t120 389 4 = some (.inl m17) := (e120 389 4 (by first | decide | omega)).trans k18
          refine ex_go (S := (98, [(3, .inl 0), (2, .inl 4294967295), (1, .inl b13), (0, gx_r 383)], [gx_r 383], t120, n, 0)) rfl (fun _ => rfl) rfl ?_
          refine ex_go (S := (99, [(3, .inl 0), (2, .inl 4294967295), (1, .inl b13), (0, gx_r 383)], [gx_r 383, gx_r 383], t120, n, 0)) rfl (fun _ => rfl) rfl ?_
          refine gx_get rfl s120.1 rfl s120.2.1 rfl ?_
          refine ex_go (S := (103, [(3, .inl 0), (2, .inl 4294967295), (1, .inl b13), (0, gx_r 383)], [gx_r 383, .inl a120, gx_r 383], t120, n, 0)) rfl (fun _ => rfl) rfl ?_
          refine gx_get rfl s120.1 rfl s120.2.2.1 rfl ?_
          refine gx_1f (c := .le) rfl (by first | decide | omega) (show ¬ (f120 ≤ 0) from by omega) rfl ?_
          refine ex_go (S := (110, [(3, .inl 0), (2, .inl 4294967295), (1, .inl b13), (0, gx_r 383)], [.inl 0, .inl a120, gx_r 383], t120, n, 0)) rfl (fun _ => rfl) rfl ?_
          refine ex_go (S := (114, [(3, .inl 0), (2, .inl 4294967295), (1, .inl b13), (0, gx_r 383)], [.inl 0, .inl a120, gx_r 383], t120, n, 0)) rfl (fun _ => rfl) rfl ?_
          refine ex_iadd rfl (by first | decide | omega) rfl ?_
          refine gx_put rfl s120.1 rfl rfl (ai_in_h (by first | decide | omega) (by first | decide | omega) (by first | decide | omega)) rfl (fun t122 g122 k122 e122 => ?_)
          have k23 : ai_hv t122 389 4 = some (.inl m17) := (e122 389 4 (by first | decide | omega)).trans k21
          have s122 : px_S t122 (a120 + 0) f120 := ⟨g122, k122, (e122 383 8 (by first | decide | omega)).trans s120.2.2.1, by omega, s120.2.2.2.2⟩
          refine ex_go (S := (119, [(3, .inl 0), (2, .inl 4294967295), (1, .inl b13), (0, gx_r 383)], [.inl 4294967295], t122, n, 0)) rfl (fun _ => rfl) rfl ?_
          refine ex_ret (r := (some (.inl 4294967295), t122, n, 0)) rfl (fun _ => rfl) ?_
          exact ⟨_, rfl, 4294967295, t122, a120 + 0, f120, rfl, s122, (fun c i h => (e122 c i (by first | decide | omega)).trans (e120 c i (by first | decide | omega))), by omega⟩
        · refine gx_2f (c := .ge) rfl (by first | decide | omega) (by first | decide | omega) hc19 rfl ?_
          refine ex_go (S := (51, [(3, .inl 0), (2, .inl 4294967295), (1, .inl b13), (0, gx_r 383)], [.inl b13], t0, n, 0)) rfl (fun _ => rfl) rfl ?_
          refine gx_1f (c := .lt) rfl (by first | decide | omega) (show ¬ (b13 < 0) from by omega) rfl ?_
          refine ex_go (S := (55, [(3, .inl 0), (2, .inl 4294967295), (1, .inl b13), (0, gx_r 383)], [gx_r 383], t0, n, 0)) rfl (fun _ => rfl) rfl ?_
          refine gx_ref (c := 389) rfl s0.1 rfl rfl rfl rfl ?_
          refine ex_go (S := (60, [(3, .inl 0), (2, .inl 4294967295), (1, .inl b13), (0, gx_r 383)], [.inl 118, gx_r 389], t0, n, 0)) rfl (fun _ => rfl) rfl ?_
          refine ex_go (S := (61, [(3, .inl 0), (2, .inl 4294967295), (1, .inl b13), (0, gx_r 383)], [.inl 3, .inl 118, gx_r 389], t0, n, 0)) rfl (fun _ => rfl) rfl ?_
          refine ex_go (S := (62, [(3, .inl 0), (2, .inl 4294967295), (1, .inl b13), (0, gx_r 383)], [.inl 0, .inl 3, .inl 118, gx_r 389], t0, n, 0)) rfl (fun _ => rfl) rfl ?_
          refine ex_go (S := (63, [(3, .inl 0), (2, .inl 4294967295), (1, .inl b13), (0, gx_r 383)], [.inl 0, .inl 118, gx_r 389], t0, n, 0)) rfl (fun _ => rfl) rfl ?_
          refine ex_go (S := (64, [(3, .inl 0), (2, .inl 4294967295), (1, .inl b13), (0, gx_r 383)], [.inl 118, gx_r 389], t0, n, 0)) rfl (fun _ => rfl) rfl ?_
          obtain ⟨m24, k25, m24l, m24h⟩ := gx_in (c := 389) (i := 118) (lo := 0) (hi := 5) s0.1 rfl rfl rfl rfl
          refine gx_ag (v := .inl m24) (cb := fun c => Nat.beq c 0) rfl (fun _ => rfl) s0.1 rfl rfl k25 (by first | decide | omega) rfl ?_
          refine ex_go (S := (66, [(3, .inl 0), (2, .inl 4294967295), (1, .inl b13), (0, gx_r 383)], [.inl b13, .inl m24], t0, n, 0)) rfl (fun _ => rfl) rfl ?_
          by_cases hc26 : m24 ≠ b13
          · refine gx_2t (c := .ne) rfl (by first | decide | omega) (by first | decide | omega) hc26 rfl ?_
            refine ex_go (S := (74, [(3, .inl 0), (2, .inl 4294967295), (1, .inl b13), (0, gx_r 383)], [.inl 4294967295], t0, n, 0)) rfl (fun _ => rfl) rfl ?_
            refine ex_go (S := (75, [(2, .inl 4294967295), (3, .inl 0), (1, .inl b13), (0, gx_r 383)], [], t0, n, 0)) rfl (fun _ => rfl) rfl ?_
            refine ex_go (S := (78, [(3, .inl 1), (2, .inl 4294967295), (1, .inl b13), (0, gx_r 383)], [], t0, n, 0)) rfl (fun _ => rfl) rfl ?_
            refine ex_go (S := (40, [(3, .inl 1), (2, .inl 4294967295), (1, .inl b13), (0, gx_r 383)], [], t0, n, 0)) rfl (fun _ => rfl) rfl ?_
            refine ex_go (S := (41, [(3, .inl 1), (2, .inl 4294967295), (1, .inl b13), (0, gx_r 383)], [.inl 1], t0, n, 0)) rfl (fun _ => rfl) rfl ?_
            refine ex_go (S := (42, [(3, .inl 1), (2, .inl 4294967295), (1, .inl b13), (0, gx_r 383)], [gx_r 383, .inl 1], t0, n, 0)) rfl (fun _ => rfl) rfl ?_
            refine gx_ref (c := 389) rfl s0.1 rfl rfl rfl rfl ?_
            refine ex_go (S := (46, [(3, .inl 1), (2, .inl 4294967295), (1, .inl b13), (0, gx_r 383)], [.inl 4, gx_r 389, .inl 1], t0, n, 0)) rfl (fun _ => rfl) rfl ?_
            refine gx_ag (v := .inl m17) (cb := fun c => Nat.beq c 0) rfl (fun _ => rfl) s0.1 rfl rfl k18 (by first | decide | omega) rfl ?_
            by_cases hc27 : m17 ≤ 1
            · refine gx_2t (c := .ge) rfl (by first | decide | omega) (by first | decide | omega) hc27 rfl ?_
              refine ex_go (S := (82, [(3, .inl 1), (2, .inl 4294967295), (1, .inl b13), (0, gx_r 383)], [gx_r 383], t0, n, 0)) rfl (fun _ => rfl) rfl ?_
              refine gx_get rfl s0.1 rfl s0.2.2.1 rfl ?_
              refine gx_1f (c := .ne) rfl (by first | decide | omega) (show ¬ (f ≠ 0) from by omega) rfl ?_
              refine ex_go (S := (89, [(3, .inl 1), (2, .inl 4294967295), (1, .inl b13), (0, gx_r 383)], [.inl 4294967295], t0, n, 0)) rfl (fun _ => rfl) rfl ?_
              refine ex_go (S := (92, [(3, .inl 1), (2, .inl 4294967295), (1, .inl b13), (0, gx_r 383)], [], t0, n, 0)) rfl (fun _ => rfl) rfl ?_
              refine ex_go (S := (93, [(3, .inl 1), (2, .inl 4294967295), (1, .inl b13), (0, gx_r 383)], [gx_r 383], t0, n, 0)) rfl (fun _ => rfl) rfl ?_
              refine ex_go (S := (94, [(3, .inl 1), (2, .inl 4294967295), (1, .inl b13), (0, gx_r 383)], [.inl 2, gx_r 383], t0, n, 0)) rfl (fun _ => rfl) rfl ?_
              obtain ⟨_, r128, t128, a128, f128, rfl, s128, e128, q128⟩ := pk_wrong (d + 2) n (s0) (w := 2) (by first | decide | omega)
              have b128 := s128.2.2.2
              refine gx_call0 rfl rfl s0.1 rfl rfl r128 rfl ?_
              have k29 : ai_hv t128 389 4 = some (.inl m17) := (e128 389 4 (by first | decide | omega)).trans k18
              have k30 : ai_hv t128 389 118 = some (.inl m24) := (e128 389 118 (by first | decide | omega)).trans k25
              refine ex_go (S := (98, [(3, .inl 1), (2, .inl 4294967295), (1, .inl b13), (0, gx_r 383)], [gx_r 383], t128, n, 0)) rfl (fun _ => rfl) rfl ?_
              refine ex_go (S := (99, [(3, .inl 1), (2, .inl 4294967295), (1, .inl b13), (0, gx_r 383)], [gx_r 383, gx_r 383], t128, n, 0)) rfl (fun _ => rfl) rfl ?_
              refine gx_get rfl s128.1 rfl s128.2.1 rfl ?_
              refine ex_go (S := (103, [(3, .inl 1), (2, .inl 4294967295), (1, .inl b13), (0, gx_r 383)], [gx_r 383, .inl a128, gx_r 383], t128, n, 0)) rfl (fun _ => rfl) rfl ?_
              refine gx_get rfl s128.1 rfl s128.2.2.1 rfl ?_
              refine gx_1f (c := .le) rfl (by first | decide | omega) (show ¬ (f128 ≤ 0) from by omega) rfl ?_
              refine ex_go (S := (110, [(3, .inl 1), (2, .inl 4294967295), (1, .inl b13), (0, gx_r 383)], [.inl 0, .inl a128, gx_r 383], t128, n, 0)) rfl (fun _ => rfl) rfl ?_
              refine ex_go (S := (114, [(3, .inl 1), (2, .inl 4294967295), (1, .inl b13), (0, gx_r 383)], [.inl 0, .inl a128, gx_r 383], t128, n, 0)) rfl (fun _ => rfl) rfl ?_
              refine ex_iadd rfl (by first | decide | omega) rfl ?_
              refine gx_put rfl s128.1 rfl rfl (ai_in_h (by first | decide | omega) (by first | decide | omega) (by first | decide | omega)) rfl (fun t131 g131 k131 e131 => ?_)
              have k32 : ai_hv t131 389 4 = some (.inl m17) := (e131 389 4 (by first | decide | omega)).trans k29
              have k33 : ai_hv t131 389 118 = some (.inl m24) := (e131 389 118 (by first | decide | omega)).trans k30
              have s131 : px_S t131 (a128 + 0) f128 := ⟨g131, k131, (e131 383 8 (by first | decide | omega)).trans s128.2.2.1, by omega, s128.2.2.2.2⟩
              refine ex_go (S := (119, [(3, .inl 1), (2, .inl 4294967295), (1, .inl b13), (0, gx_r 383)], [.inl 4294967295], t131, n, 0)) rfl (fun _ => rfl) rfl ?_
              refine ex_ret (r := (some (.inl 4294967295), t131, n, 0)) rfl (fun _ => rfl) ?_
              exact ⟨_, rfl, 4294967295, t131, a128 + 0, f128, rfl, s131, (fun c i h => (e131 c i (by first | decide | omega)).trans (e128 c i (by first | decide | omega))), by omega⟩
            · refine gx_2f (c := .ge) rfl (by first | decide | omega) (by first | decide | omega) hc27 rfl ?_
              refine ex_go (S := (51, [(3, .inl 1), (2, .inl 4294967295), (1, .inl b13), (0, gx_r 383)], [.inl b13], t0, n, 0)) rfl (fun _ => rfl) rfl ?_
              refine gx_1f (c := .lt) rfl (by first | decide | omega) (show ¬ (b13 < 0) from by omega) rfl ?_
              refine ex_go (S := (55, [(3, .inl 1), (2, .inl 4294967295), (1, .inl b13), (0, gx_r 383)], [gx_r 383], t0, n, 0)) rfl (fun _ => rfl) rfl ?_
              refine gx_ref (c := 389) rfl s0.1 rfl rfl rfl rfl ?_
              refine ex_go (S := (60, [(3, .inl 1), (2, .inl 4294967295), (1, .inl b13), (0, gx_r 383)], [.inl 118, gx_r 389], t0, n, 0)) rfl (fun _ => rfl) rfl ?_
              refine ex_go (S := (61, [(3, .inl 1), (2, .inl 4294967295), (1, .inl b13), (0, gx_r 383)], [.inl 3, .inl 118, gx_r 389], t0, n, 0)) rfl (fun _ => rfl) rfl ?_
              refine ex_go (S := (62, [(3, .inl 1), (2, .inl 4294967295), (1, .inl b13), (0, gx_r 383)], [.inl 1, .inl 3, .inl 118, gx_r 389], t0, n, 0)) rfl (fun _ => rfl) rfl ?_
              refine ex_go (S := (63, [(3, .inl 1), (2, .inl 4294967295), (1, .inl b13), (0, gx_r 383)], [.inl 3, .inl 118, gx_r 389], t0, n, 0)) rfl (fun _ => rfl) rfl ?_
              refine ex_go (S := (64, [(3, .inl 1), (2, .inl 4294967295), (1, .inl b13), (0, gx_r 383)], [.inl 121, gx_r 389], t0, n, 0)) rfl (fun _ => rfl) rfl ?_
              obtain ⟨m34, k35, m34l, m34h⟩ := gx_in (c := 389) (i := 121) (lo := 0) (hi := 5) s0.1 rfl rfl rfl rfl
              refine gx_ag (v := .inl m34) (cb := fun c => Nat.beq c 0) rfl (fun _ => rfl) s0.1 rfl rfl k35 (by first | decide | omega) rfl ?_
              refine ex_go (S := (66, [(3, .inl 1), (2, .inl 4294967295), (1, .inl b13), (0, gx_r 383)], [.inl b13, .inl m34], t0, n, 0)) rfl (fun _ => rfl) rfl ?_
              by_cases hc36 : m34 ≠ b13
              · refine gx_2t (c := .ne) rfl (by first | decide | omega) (by first | decide | omega) hc36 rfl ?_
                refine ex_go (S := (74, [(3, .inl 1), (2, .inl 4294967295), (1, .inl b13), (0, gx_r 383)], [.inl 4294967295], t0, n, 0)) rfl (fun _ => rfl) rfl ?_
                refine ex_go (S := (75, [(2, .inl 4294967295), (3, .inl 1), (1, .inl b13), (0, gx_r 383)], [], t0, n, 0)) rfl (fun _ => rfl) rfl ?_
                refine ex_go (S := (78, [(3, .inl 2), (2, .inl 4294967295), (1, .inl b13), (0, gx_r 383)], [], t0, n, 0)) rfl (fun _ => rfl) rfl ?_
                refine ex_go (S := (40, [(3, .inl 2), (2, .inl 4294967295), (1, .inl b13), (0, gx_r 383)], [], t0, n, 0)) rfl (fun _ => rfl) rfl ?_
                refine ex_go (S := (41, [(3, .inl 2), (2, .inl 4294967295), (1, .inl b13), (0, gx_r 383)], [.inl 2], t0, n, 0)) rfl (fun _ => rfl) rfl ?_
                refine ex_go (S := (42, [(3, .inl 2), (2, .inl 4294967295), (1, .inl b13), (0, gx_r 383)], [gx_r 383, .inl 2], t0, n, 0)) rfl (fun _ => rfl) rfl ?_
                refine gx_ref (c := 389) rfl s0.1 rfl rfl rfl rfl ?_
                refine ex_go (S := (46, [(3, .inl 2), (2, .inl 4294967295), (1, .inl b13), (0, gx_r 383)], [.inl 4, gx_r 389, .inl 2], t0, n, 0)) rfl (fun _ => rfl) rfl ?_
                refine gx_ag (v := .inl m17) (cb := fun c => Nat.beq c 0) rfl (fun _ => rfl) s0.1 rfl rfl k18 (by first | decide | omega) rfl ?_
                refine gx_2t (c := .ge) rfl (by first | decide | omega) (by first | decide | omega) (show m17 ≤ 2 from by omega) rfl ?_
                refine ex_go (S := (82, [(3, .inl 2), (2, .inl 4294967295), (1, .inl b13), (0, gx_r 383)], [gx_r 383], t0, n, 0)) rfl (fun _ => rfl) rfl ?_
                refine gx_get rfl s0.1 rfl s0.2.2.1 rfl ?_
                refine gx_1f (c := .ne) rfl (by first | decide | omega) (show ¬ (f ≠ 0) from by omega) rfl ?_
                refine ex_go (S := (89, [(3, .inl 2), (2, .inl 4294967295), (1, .inl b13), (0, gx_r 383)], [.inl 4294967295], t0, n, 0)) rfl (fun _ => rfl) rfl ?_
                refine ex_go (S := (92, [(3, .inl 2), (2, .inl 4294967295), (1, .inl b13), (0, gx_r 383)], [], t0, n, 0)) rfl (fun _ => rfl) rfl ?_
                refine ex_go (S := (93, [(3, .inl 2), (2, .inl 4294967295), (1, .inl b13), (0, gx_r 383)], [gx_r 383], t0, n, 0)) rfl (fun _ => rfl) rfl ?_
                refine ex_go (S := (94, [(3, .inl 2), (2, .inl 4294967295), (1, .inl b13), (0, gx_r 383)], [.inl 2, gx_r 383], t0, n, 0)) rfl (fun _ => rfl) rfl ?_
                obtain ⟨_, r137, t137, a137, f137, rfl, s137, e137, q137⟩ := pk_wrong (d + 2) n (s0) (w := 2) (by first | decide | omega)
                have b137 := s137.2.2.2
                refine gx_call0 rfl rfl s0.1 rfl rfl r137 rfl ?_
                have k38 : ai_hv t137 389 4 = some (.inl m17) := (e137 389 4 (by first | decide | omega)).trans k18
                have k39 : ai_hv t137 389 118 = some (.inl m24) := (e137 389 118 (by first | decide | omega)).trans k25
                have k40 : ai_hv t137 389 121 = some (.inl m34) := (e137 389 121 (by first | decide | omega)).trans k35
                refine ex_go (S := (98, [(3, .inl 2), (2, .inl 4294967295), (1, .inl b13), (0, gx_r 383)], [gx_r 383], t137, n, 0)) rfl (fun _ => rfl) rfl ?_
                refine ex_go (S := (99, [(3, .inl 2), (2, .inl 4294967295), (1, .inl b13), (0, gx_r 383)], [gx_r 383, gx_r 383], t137, n, 0)) rfl (fun _ => rfl) rfl ?_
                refine gx_get rfl s137.1 rfl s137.2.1 rfl ?_
                refine ex_go (S := (103, [(3, .inl 2), (2, .inl 4294967295), (1, .inl b13), (0, gx_r 383)], [gx_r 383, .inl a137, gx_r 383], t137, n, 0)) rfl (fun _ => rfl) rfl ?_
                refine gx_get rfl s137.1 rfl s137.2.2.1 rfl ?_
                refine gx_1f (c := .le) rfl (by first | decide | omega) (show ¬ (f137 ≤ 0) from by omega) rfl ?_
                refine ex_go (S := (110, [(3, .inl 2), (2, .inl 4294967295), (1, .inl b13), (0, gx_r 383)], [.inl 0, .inl a137, gx_r 383], t137, n, 0)) rfl (fun _ => rfl) rfl ?_
                refine ex_go (S := (114, [(3, .inl 2), (2, .inl 4294967295), (1, .inl b13), (0, gx_r 383)], [.inl 0, .inl a137, gx_r 383], t137, n, 0)) rfl (fun _ => rfl) rfl ?_
                refine ex_iadd rfl (by first | decide | omega) rfl ?_
                refine gx_put rfl s137.1 rfl rfl (ai_in_h (by first | decide | omega) (by first | decide | omega) (by first | decide | omega)) rfl (fun t141 g141 k141 e141 => ?_)
                have k42 : ai_hv t141 389 4 = some (.inl m17) := (e141 389 4 (by first | decide | omega)).trans k38
                have k43 : ai_hv t141 389 118 = some (.inl m24) := (e141 389 118 (by first | decide | omega)).trans k39
                have k44 : ai_hv t141 389 121 = some (.inl m34) := (e141 389 121 (by first | decide | omega)).trans k40
                have s141 : px_S t141 (a137 + 0) f137 := ⟨g141, k141, (e141 383 8 (by first | decide | omega)).trans s137.2.2.1, by omega, s137.2.2.2.2⟩
                refine ex_go (S := (119, [(3, .inl 2), (2, .inl 4294967295), (1, .inl b13), (0, gx_r 383)], [.inl 4294967295], t141, n, 0)) rfl (fun _ => rfl) rfl ?_
                refine ex_ret (r := (some (.inl 4294967295), t141, n, 0)) rfl (fun _ => rfl) ?_
                exact ⟨_, rfl, 4294967295, t141, a137 + 0, f137, rfl, s141, (fun c i h => (e141 c i (by first | decide | omega)).trans (e137 c i (by first | decide | omega))), by omega⟩
              · refine gx_2f (c := .ne) rfl (by first | decide | omega) (by first | decide | omega) hc36 rfl ?_
                refine ex_go (S := (70, [(3, .inl 1), (2, .inl 4294967295), (1, .inl b13), (0, gx_r 383)], [.inl 1], t0, n, 0)) rfl (fun _ => rfl) rfl ?_
                refine ex_go (S := (74, [(3, .inl 1), (2, .inl 4294967295), (1, .inl b13), (0, gx_r 383)], [.inl 1], t0, n, 0)) rfl (fun _ => rfl) rfl ?_
                refine ex_go (S := (75, [(2, .inl 1), (3, .inl 1), (1, .inl b13), (0, gx_r 383)], [], t0, n, 0)) rfl (fun _ => rfl) rfl ?_
                refine ex_go (S := (78, [(3, .inl 2), (2, .inl 1), (1, .inl b13), (0, gx_r 383)], [], t0, n, 0)) rfl (fun _ => rfl) rfl ?_
                refine ex_go (S := (40, [(3, .inl 2), (2, .inl 1), (1, .inl b13), (0, gx_r 383)], [], t0, n, 0)) rfl (fun _ => rfl) rfl ?_
                refine ex_go (S := (41, [(3, .inl 2), (2, .inl 1), (1, .inl b13), (0, gx_r 383)], [.inl 2], t0, n, 0)) rfl (fun _ => rfl) rfl ?_
                refine ex_go (S := (42, [(3, .inl 2), (2, .inl 1), (1, .inl b13), (0, gx_r 383)], [gx_r 383, .inl 2], t0, n, 0)) rfl (fun _ => rfl) rfl ?_
                refine gx_ref (c := 389) rfl s0.1 rfl rfl rfl rfl ?_
                refine ex_go (S := (46, [(3, .inl 2), (2, .inl 1), (1, .inl b13), (0, gx_r 383)], [.inl 4, gx_r 389, .inl 2], t0, n, 0)) rfl (fun _ => rfl) rfl ?_
                refine gx_ag (v := .inl m17) (cb := fun c => Nat.beq c 0) rfl (fun _ => rfl) s0.1 rfl rfl k18 (by first | decide | omega) rfl ?_
                refine gx_2t (c := .ge) rfl (by first | decide | omega) (by first | decide | omega) (show m17 ≤ 2 from by omega) rfl ?_
                refine ex_go (S := (82, [(3, .inl 2), (2, .inl 1), (1, .inl b13), (0, gx_r 383)], [gx_r 383], t0, n, 0)) rfl (fun _ => rfl) rfl ?_
                refine gx_get rfl s0.1 rfl s0.2.2.1 rfl ?_
                refine gx_1f (c := .ne) rfl (by first | decide | omega) (show ¬ (f ≠ 0) from by omega) rfl ?_
                refine ex_go (S := (89, [(3, .inl 2), (2, .inl 1), (1, .inl b13), (0, gx_r 383)], [.inl 1], t0, n, 0)) rfl (fun _ => rfl) rfl ?_
                refine ex_go (S := (97, [(3, .inl 2), (2, .inl 1), (1, .inl b13), (0, gx_r 383)], [], t0, n, 0)) rfl (fun _ => rfl) rfl ?_
                refine ex_go (S := (98, [(3, .inl 2), (2, .inl 1), (1, .inl b13), (0, gx_r 383)], [gx_r 383], t0, n, 0)) rfl (fun _ => rfl) rfl ?_
                refine ex_go (S := (99, [(3, .inl 2), (2, .inl 1), (1, .inl b13), (0, gx_r 383)], [gx_r 383, gx_r 383], t0, n, 0)) rfl (fun _ => rfl) rfl ?_
                refine gx_get rfl s0.1 rfl s0.2.1 rfl ?_
                refine ex_go (S := (103, [(3, .inl 2), (2, .inl 1), (1, .inl b13), (0, gx_r 383)], [gx_r 383, .inl a, gx_r 383], t0, n, 0)) rfl (fun _ => rfl) rfl ?_
                refine gx_get rfl s0.1 rfl s0.2.2.1 rfl ?_
                refine gx_1t (c := .le) rfl (by first | decide | omega) (show f ≤ 0 from by omega) rfl ?_
                refine ex_go (S := (114, [(3, .inl 2), (2, .inl 1), (1, .inl b13), (0, gx_r 383)], [.inl 1, .inl a, gx_r 383], t0, n, 0)) rfl (fun _ => rfl) rfl ?_
                refine ex_iadd rfl (by first | decide | omega) rfl ?_
                refine gx_put rfl s0.1 rfl rfl (ai_in_h (by first | decide | omega) (by first | decide | omega) (by first | decide | omega)) rfl (fun t145 g145 k145 e145 => ?_)
                have k46 : ai_hv t145 389 4 = some (.inl m17) := (e145 389 4 (by first | decide | omega)).trans k18
                have k47 : ai_hv t145 389 118 = some (.inl m24) := (e145 389 118 (by first | decide | omega)).trans k25
                have k48 : ai_hv t145 389 121 = some (.inl m34) := (e145 389 121 (by first | decide | omega)).trans k35
                have s145 : px_S t145 (a + 1) f := ⟨g145, k145, (e145 383 8 (by first | decide | omega)).trans s0.2.2.1, by omega, s0.2.2.2.2⟩
                refine ex_go (S := (119, [(3, .inl 2), (2, .inl 1), (1, .inl b13), (0, gx_r 383)], [.inl 1], t145, n, 0)) rfl (fun _ => rfl) rfl ?_
                refine ex_ret (r := (some (.inl 1), t145, n, 0)) rfl (fun _ => rfl) ?_
                exact ⟨_, rfl, 1, t145, a + 1, f, rfl, s145, (fun c i h => e145 c i (by first | decide | omega)), by omega⟩
          · refine gx_2f (c := .ne) rfl (by first | decide | omega) (by first | decide | omega) hc26 rfl ?_
            refine ex_go (S := (70, [(3, .inl 0), (2, .inl 4294967295), (1, .inl b13), (0, gx_r 383)], [.inl 0], t0, n, 0)) rfl (fun _ => rfl) rfl ?_
            refine ex_go (S := (74, [(3, .inl 0), (2, .inl 4294967295), (1, .inl b13), (0, gx_r 383)], [.inl 0], t0, n, 0)) rfl (fun _ => rfl) rfl ?_
            refine ex_go (S := (75, [(2, .inl 0), (3, .inl 0), (1, .inl b13), (0, gx_r 383)], [], t0, n, 0)) rfl (fun _ => rfl) rfl ?_
            refine ex_go (S := (78, [(3, .inl 1), (2, .inl 0), (1, .inl b13), (0, gx_r 383)], [], t0, n, 0)) rfl (fun _ => rfl) rfl ?_
            refine ex_go (S := (40, [(3, .inl 1), (2, .inl 0), (1, .inl b13), (0, gx_r 383)], [], t0, n, 0)) rfl (fun _ => rfl) rfl ?_
            refine ex_go (S := (41, [(3, .inl 1), (2, .inl 0), (1, .inl b13), (0, gx_r 383)], [.inl 1], t0, n, 0)) rfl (fun _ => rfl) rfl ?_
            refine ex_go (S := (42, [(3, .inl 1), (2, .inl 0), (1, .inl b13), (0, gx_r 383)], [gx_r 383, .inl 1], t0, n, 0)) rfl (fun _ => rfl) rfl ?_
            refine gx_ref (c := 389) rfl s0.1 rfl rfl rfl rfl ?_
            refine ex_go (S := (46, [(3, .inl 1), (2, .inl 0), (1, .inl b13), (0, gx_r 383)], [.inl 4, gx_r 389, .inl 1], t0, n, 0)) rfl (fun _ => rfl) rfl ?_
            refine gx_ag (v := .inl m17) (cb := fun c => Nat.beq c 0) rfl (fun _ => rfl) s0.1 rfl rfl k18 (by first | decide | omega) rfl ?_
            by_cases hc49 : m17 ≤ 1
            · refine gx_2t (c := .ge) rfl (by first | decide | omega) (by first | decide | omega) hc49 rfl ?_
              refine ex_go (S := (82, [(3, .inl 1), (2, .inl 0), (1, .inl b13), (0, gx_r 383)], [gx_r 383], t0, n, 0)) rfl (fun _ => rfl) rfl ?_
              refine gx_get rfl s0.1 rfl s0.2.2.1 rfl ?_
              refine gx_1f (c := .ne) rfl (by first | decide | omega) (show ¬ (f ≠ 0) from by omega) rfl ?_
              refine ex_go (S := (89, [(3, .inl 1), (2, .inl 0), (1, .inl b13), (0, gx_r 383)], [.inl 0], t0, n, 0)) rfl (fun _ => rfl) rfl ?_
              refine ex_go (S := (97, [(3, .inl 1), (2, .inl 0), (1, .inl b13), (0, gx_r 383)], [], t0, n, 0)) rfl (fun _ => rfl) rfl ?_
              refine ex_go (S := (98, [(3, .inl 1), (2, .inl 0), (1, .inl b13), (0, gx_r 383)], [gx_r 383], t0, n, 0)) rfl (fun _ => rfl) rfl ?_
              refine ex_go (S := (99, [(3, .inl 1), (2, .inl 0), (1, .inl b13), (0, gx_r 383)], [gx_r 383, gx_r 383], t0, n, 0)) rfl (fun _ => rfl) rfl ?_
              refine gx_get rfl s0.1 rfl s0.2.1 rfl ?_
              refine ex_go (S := (103, [(3, .inl 1), (2, .inl 0), (1, .inl b13), (0, gx_r 383)], [gx_r 383, .inl a, gx_r 383], t0, n, 0)) rfl (fun _ => rfl) rfl ?_
              refine gx_get rfl s0.1 rfl s0.2.2.1 rfl ?_
              refine gx_1t (c := .le) rfl (by first | decide | omega) (show f ≤ 0 from by omega) rfl ?_
              refine ex_go (S := (114, [(3, .inl 1), (2, .inl 0), (1, .inl b13), (0, gx_r 383)], [.inl 1, .inl a, gx_r 383], t0, n, 0)) rfl (fun _ => rfl) rfl ?_
              refine ex_iadd rfl (by first | decide | omega) rfl ?_
              refine gx_put rfl s0.1 rfl rfl (ai_in_h (by first | decide | omega) (by first | decide | omega) (by first | decide | omega)) rfl (fun t150 g150 k150 e150 => ?_)
              have k51 : ai_hv t150 389 4 = some (.inl m17) := (e150 389 4 (by first | decide | omega)).trans k18
              have k52 : ai_hv t150 389 118 = some (.inl m24) := (e150 389 118 (by first | decide | omega)).trans k25
              have s150 : px_S t150 (a + 1) f := ⟨g150, k150, (e150 383 8 (by first | decide | omega)).trans s0.2.2.1, by omega, s0.2.2.2.2⟩
              refine ex_go (S := (119, [(3, .inl 1), (2, .inl 0), (1, .inl b13), (0, gx_r 383)], [.inl 0], t150, n, 0)) rfl (fun _ => rfl) rfl ?_
              refine ex_ret (r := (some (.inl 0), t150, n, 0)) rfl (fun _ => rfl) ?_
              exact ⟨_, rfl, 0, t150, a + 1, f, rfl, s150, (fun c i h => e150 c i (by first | decide | omega)), by omega⟩
            · refine gx_2f (c := .ge) rfl (by first | decide | omega) (by first | decide | omega) hc49 rfl ?_
              refine ex_go (S := (51, [(3, .inl 1), (2, .inl 0), (1, .inl b13), (0, gx_r 383)], [.inl b13], t0, n, 0)) rfl (fun _ => rfl) rfl ?_
              refine gx_1f (c := .lt) rfl (by first | decide | omega) (show ¬ (b13 < 0) from by omega) rfl ?_
              refine ex_go (S := (55, [(3, .inl 1), (2, .inl 0), (1, .inl b13), (0, gx_r 383)], [gx_r 383], t0, n, 0)) rfl (fun _ => rfl) rfl ?_
              refine gx_ref (c := 389) rfl s0.1 rfl rfl rfl rfl ?_
              refine ex_go (S := (60, [(3, .inl 1), (2, .inl 0), (1, .inl b13), (0, gx_r 383)], [.inl 118, gx_r 389], t0, n, 0)) rfl (fun _ => rfl) rfl ?_
              refine ex_go (S := (61, [(3, .inl 1), (2, .inl 0), (1, .inl b13), (0, gx_r 383)], [.inl 3, .inl 118, gx_r 389], t0, n, 0)) rfl (fun _ => rfl) rfl ?_
              refine ex_go (S := (62, [(3, .inl 1), (2, .inl 0), (1, .inl b13), (0, gx_r 383)], [.inl 1, .inl 3, .inl 118, gx_r 389], t0, n, 0)) rfl (fun _ => rfl) rfl ?_
              refine ex_go (S := (63, [(3, .inl 1), (2, .inl 0), (1, .inl b13), (0, gx_r 383)], [.inl 3, .inl 118, gx_r 389], t0, n, 0)) rfl (fun _ => rfl) rfl ?_
              refine ex_go (S := (64, [(3, .inl 1), (2, .inl 0), (1, .inl b13), (0, gx_r 383)], [.inl 121, gx_r 389], t0, n, 0)) rfl (fun _ => rfl) rfl ?_
              obtain ⟨m53, k54, m53l, m53h⟩ := gx_in (c := 389) (i := 121) (lo := 0) (hi := 5) s0.1 rfl rfl rfl rfl
              refine gx_ag (v := .inl m53) (cb := fun c => Nat.beq c 0) rfl (fun _ => rfl) s0.1 rfl rfl k54 (by first | decide | omega) rfl ?_
              refine ex_go (S := (66, [(3, .inl 1), (2, .inl 0), (1, .inl b13), (0, gx_r 383)], [.inl b13, .inl m53], t0, n, 0)) rfl (fun _ => rfl) rfl ?_
              by_cases hc55 : m53 ≠ b13
              · refine gx_2t (c := .ne) rfl (by first | decide | omega) (by first | decide | omega) hc55 rfl ?_
                refine ex_go (S := (74, [(3, .inl 1), (2, .inl 0), (1, .inl b13), (0, gx_r 383)], [.inl 0], t0, n, 0)) rfl (fun _ => rfl) rfl ?_
                refine ex_go (S := (75, [(2, .inl 0), (3, .inl 1), (1, .inl b13), (0, gx_r 383)], [], t0, n, 0)) rfl (fun _ => rfl) rfl ?_
                refine ex_go (S := (78, [(3, .inl 2), (2, .inl 0), (1, .inl b13), (0, gx_r 383)], [], t0, n, 0)) rfl (fun _ => rfl) rfl ?_
                refine ex_go (S := (40, [(3, .inl 2), (2, .inl 0), (1, .inl b13), (0, gx_r 383)], [], t0, n, 0)) rfl (fun _ => rfl) rfl ?_
                refine ex_go (S := (41, [(3, .inl 2), (2, .inl 0), (1, .inl b13), (0, gx_r 383)], [.inl 2], t0, n, 0)) rfl (fun _ => rfl) rfl ?_
                refine ex_go (S := (42, [(3, .inl 2), (2, .inl 0), (1, .inl b13), (0, gx_r 383)], [gx_r 383, .inl 2], t0, n, 0)) rfl (fun _ => rfl) rfl ?_
                refine gx_ref (c := 389) rfl s0.1 rfl rfl rfl rfl ?_
                refine ex_go (S := (46, [(3, .inl 2), (2, .inl 0), (1, .inl b13), (0, gx_r 383)], [.inl 4, gx_r 389, .inl 2], t0, n, 0)) rfl (fun _ => rfl) rfl ?_
                refine gx_ag (v := .inl m17) (cb := fun c => Nat.beq c 0) rfl (fun _ => rfl) s0.1 rfl rfl k18 (by first | decide | omega) rfl ?_
                refine gx_2t (c := .ge) rfl (by first | decide | omega) (by first | decide | omega) (show m17 ≤ 2 from by omega) rfl ?_
                refine ex_go (S := (82, [(3, .inl 2), (2, .inl 0), (1, .inl b13), (0, gx_r 383)], [gx_r 383], t0, n, 0)) rfl (fun _ => rfl) rfl ?_
                refine gx_get rfl s0.1 rfl s0.2.2.1 rfl ?_
                refine gx_1f (c := .ne) rfl (by first | decide | omega) (show ¬ (f ≠ 0) from by omega) rfl ?_
                refine ex_go (S := (89, [(3, .inl 2), (2, .inl 0), (1, .inl b13), (0, gx_r 383)], [.inl 0], t0, n, 0)) rfl (fun _ => rfl) rfl ?_
                refine ex_go (S := (97, [(3, .inl 2), (2, .inl 0), (1, .inl b13), (0, gx_r 383)], [], t0, n, 0)) rfl (fun _ => rfl) rfl ?_
                refine ex_go (S := (98, [(3, .inl 2), (2, .inl 0), (1, .inl b13), (0, gx_r 383)], [gx_r 383], t0, n, 0)) rfl (fun _ => rfl) rfl ?_
                refine ex_go (S := (99, [(3, .inl 2), (2, .inl 0), (1, .inl b13), (0, gx_r 383)], [gx_r 383, gx_r 383], t0, n, 0)) rfl (fun _ => rfl) rfl ?_
                refine gx_get rfl s0.1 rfl s0.2.1 rfl ?_
                refine ex_go (S := (103, [(3, .inl 2), (2, .inl 0), (1, .inl b13), (0, gx_r 383)], [gx_r 383, .inl a, gx_r 383], t0, n, 0)) rfl (fun _ => rfl) rfl ?_
                refine gx_get rfl s0.1 rfl s0.2.2.1 rfl ?_
                refine gx_1t (c := .le) rfl (by first | decide | omega) (show f ≤ 0 from by omega) rfl ?_
                refine ex_go (S := (114, [(3, .inl 2), (2, .inl 0), (1, .inl b13), (0, gx_r 383)], [.inl 1, .inl a, gx_r 383], t0, n, 0)) rfl (fun _ => rfl) rfl ?_
                refine ex_iadd rfl (by first | decide | omega) rfl ?_
                refine gx_put rfl s0.1 rfl rfl (ai_in_h (by first | decide | omega) (by first | decide | omega) (by first | decide | omega)) rfl (fun t156 g156 k156 e156 => ?_)
                have k57 : ai_hv t156 389 4 = some (.inl m17) := (e156 389 4 (by first | decide | omega)).trans k18
                have k58 : ai_hv t156 389 118 = some (.inl m24) := (e156 389 118 (by first | decide | omega)).trans k25
                have k59 : ai_hv t156 389 121 = some (.inl m53) := (e156 389 121 (by first | decide | omega)).trans k54
                have s156 : px_S t156 (a + 1) f := ⟨g156, k156, (e156 383 8 (by first | decide | omega)).trans s0.2.2.1, by omega, s0.2.2.2.2⟩
                refine ex_go (S := (119, [(3, .inl 2), (2, .inl 0), (1, .inl b13), (0, gx_r 383)], [.inl 0], t156, n, 0)) rfl (fun _ => rfl) rfl ?_
                refine ex_ret (r := (some (.inl 0), t156, n, 0)) rfl (fun _ => rfl) ?_
                exact ⟨_, rfl, 0, t156, a + 1, f, rfl, s156, (fun c i h => e156 c i (by first | decide | omega)), by omega⟩
              · refine gx_2f (c := .ne) rfl (by first | decide | omega) (by first | decide | omega) hc55 rfl ?_
                refine ex_go (S := (70, [(3, .inl 1), (2, .inl 0), (1, .inl b13), (0, gx_r 383)], [.inl 1], t0, n, 0)) rfl (fun _ => rfl) rfl ?_
                refine ex_go (S := (74, [(3, .inl 1), (2, .inl 0), (1, .inl b13), (0, gx_r 383)], [.inl 1], t0, n, 0)) rfl (fun _ => rfl) rfl ?_
                refine ex_go (S := (75, [(2, .inl 1), (3, .inl 1), (1, .inl b13), (0, gx_r 383)], [], t0, n, 0)) rfl (fun _ => rfl) rfl ?_
                refine ex_go (S := (78, [(3, .inl 2), (2, .inl 1), (1, .inl b13), (0, gx_r 383)], [], t0, n, 0)) rfl (fun _ => rfl) rfl ?_
                refine ex_go (S := (40, [(3, .inl 2), (2, .inl 1), (1, .inl b13), (0, gx_r 383)], [], t0, n, 0)) rfl (fun _ => rfl) rfl ?_
                refine ex_go (S := (41, [(3, .inl 2), (2, .inl 1), (1, .inl b13), (0, gx_r 383)], [.inl 2], t0, n, 0)) rfl (fun _ => rfl) rfl ?_
                refine ex_go (S := (42, [(3, .inl 2), (2, .inl 1), (1, .inl b13), (0, gx_r 383)], [gx_r 383, .inl 2], t0, n, 0)) rfl (fun _ => rfl) rfl ?_
                refine gx_ref (c := 389) rfl s0.1 rfl rfl rfl rfl ?_
                refine ex_go (S := (46, [(3, .inl 2), (2, .inl 1), (1, .inl b13), (0, gx_r 383)], [.inl 4, gx_r 389, .inl 2], t0, n, 0)) rfl (fun _ => rfl) rfl ?_
                refine gx_ag (v := .inl m17) (cb := fun c => Nat.beq c 0) rfl (fun _ => rfl) s0.1 rfl rfl k18 (by first | decide | omega) rfl ?_
                refine gx_2t (c := .ge) rfl (by first | decide | omega) (by first | decide | omega) (show m17 ≤ 2 from by omega) rfl ?_
                refine ex_go (S := (82, [(3, .inl 2), (2, .inl 1), (1, .inl b13), (0, gx_r 383)], [gx_r 383], t0, n, 0)) rfl (fun _ => rfl) rfl ?_
                refine gx_get rfl s0.1 rfl s0.2.2.1 rfl ?_
                refine gx_1f (c := .ne) rfl (by first | decide | omega) (show ¬ (f ≠ 0) from by omega) rfl ?_
                refine ex_go (S := (89, [(3, .inl 2), (2, .inl 1), (1, .inl b13), (0, gx_r 383)], [.inl 1], t0, n, 0)) rfl (fun _ => rfl) rfl ?_
                refine ex_go (S := (97, [(3, .inl 2), (2, .inl 1), (1, .inl b13), (0, gx_r 383)], [], t0, n, 0)) rfl (fun _ => rfl) rfl ?_
                refine ex_go (S := (98, [(3, .inl 2), (2, .inl 1), (1, .inl b13), (0, gx_r 383)], [gx_r 383], t0, n, 0)) rfl (fun _ => rfl) rfl ?_
                refine ex_go (S := (99, [(3, .inl 2), (2, .inl 1), (1, .inl b13), (0, gx_r 383)], [gx_r 383, gx_r 383], t0, n, 0)) rfl (fun _ => rfl) rfl ?_
                refine gx_get rfl s0.1 rfl s0.2.1 rfl ?_
                refine ex_go (S := (103, [(3, .inl 2), (2, .inl 1), (1, .inl b13), (0, gx_r 383)], [gx_r 383, .inl a, gx_r 383], t0, n, 0)) rfl (fun _ => rfl) rfl ?_
                refine gx_get rfl s0.1 rfl s0.2.2.1 rfl ?_
                refine gx_1t (c := .le) rfl (by first | decide | omega) (show f ≤ 0 from by omega) rfl ?_
                refine ex_go (S := (114, [(3, .inl 2), (2, .inl 1), (1, .inl b13), (0, gx_r 383)], [.inl 1, .inl a, gx_r 383], t0, n, 0)) rfl (fun _ => rfl) rfl ?_
                refine ex_iadd rfl (by first | decide | omega) rfl ?_
                refine gx_put rfl s0.1 rfl rfl (ai_in_h (by first | decide | omega) (by first | decide | omega) (by first | decide | omega)) rfl (fun t160 g160 k160 e160 => ?_)
                have k61 : ai_hv t160 389 4 = some (.inl m17) := (e160 389 4 (by first | decide | omega)).trans k18
                have k62 : ai_hv t160 389 118 = some (.inl m24) := (e160 389 118 (by first | decide | omega)).trans k25
                have k63 : ai_hv t160 389 121 = some (.inl m53) := (e160 389 121 (by first | decide | omega)).trans k54
                have s160 : px_S t160 (a + 1) f := ⟨g160, k160, (e160 383 8 (by first | decide | omega)).trans s0.2.2.1, by omega, s0.2.2.2.2⟩
                refine ex_go (S := (119, [(3, .inl 2), (2, .inl 1), (1, .inl b13), (0, gx_r 383)], [.inl 1], t160, n, 0)) rfl (fun _ => rfl) rfl ?_
                refine ex_ret (r := (some (.inl 1), t160, n, 0)) rfl (fun _ => rfl) ?_
                exact ⟨_, rfl, 1, t160, a + 1, f, rfl, s160, (fun c i h => e160 c i (by first | decide | omega)), by omega⟩
      · subst hn16
        refine ex_go (S := (36, [(1, .inl 4294967295), (0, gx_r 383)], [], t0, n, 0)) rfl (fun _ => rfl) rfl ?_
        refine ex_go (S := (37, [(1, .inl 4294967295), (0, gx_r 383)], [.inl 4294967295], t0, n, 0)) rfl (fun _ => rfl) rfl ?_
        refine ex_go (S := (38, [(2, .inl 4294967295), (1, .inl 4294967295), (0, gx_r 383)], [], t0, n, 0)) rfl (fun _ => rfl) rfl ?_
        refine ex_go (S := (39, [(2, .inl 4294967295), (1, .inl 4294967295), (0, gx_r 383)], [.inl 0], t0, n, 0)) rfl (fun _ => rfl) rfl ?_
        refine ex_go (S := (40, [(3, .inl 0), (2, .inl 4294967295), (1, .inl 4294967295), (0, gx_r 383)], [], t0, n, 0)) rfl (fun _ => rfl) rfl ?_
        refine ex_go (S := (41, [(3, .inl 0), (2, .inl 4294967295), (1, .inl 4294967295), (0, gx_r 383)], [.inl 0], t0, n, 0)) rfl (fun _ => rfl) rfl ?_
        refine ex_go (S := (42, [(3, .inl 0), (2, .inl 4294967295), (1, .inl 4294967295), (0, gx_r 383)], [gx_r 383, .inl 0], t0, n, 0)) rfl (fun _ => rfl) rfl ?_
        refine gx_ref (c := 389) rfl s0.1 rfl rfl rfl rfl ?_
        refine ex_go (S := (46, [(3, .inl 0), (2, .inl 4294967295), (1, .inl 4294967295), (0, gx_r 383)], [.inl 4, gx_r 389, .inl 0], t0, n, 0)) rfl (fun _ => rfl) rfl ?_
        obtain ⟨m64, k65, m64l, m64h⟩ := gx_in (c := 389) (i := 4) (lo := 0) (hi := 2) s0.1 rfl rfl rfl rfl
        refine gx_ag (v := .inl m64) (cb := fun c => Nat.beq c 0) rfl (fun _ => rfl) s0.1 rfl rfl k65 (by first | decide | omega) rfl ?_
        by_cases hc66 : m64 ≤ 0
        · refine gx_2t (c := .ge) rfl (by first | decide | omega) (by first | decide | omega) hc66 rfl ?_
          refine ex_go (S := (82, [(3, .inl 0), (2, .inl 4294967295), (1, .inl 4294967295), (0, gx_r 383)], [gx_r 383], t0, n, 0)) rfl (fun _ => rfl) rfl ?_
          refine gx_get rfl s0.1 rfl s0.2.2.1 rfl ?_
          refine gx_1f (c := .ne) rfl (by first | decide | omega) (show ¬ (f ≠ 0) from by omega) rfl ?_
          refine ex_go (S := (89, [(3, .inl 0), (2, .inl 4294967295), (1, .inl 4294967295), (0, gx_r 383)], [.inl 4294967295], t0, n, 0)) rfl (fun _ => rfl) rfl ?_
          refine ex_go (S := (92, [(3, .inl 0), (2, .inl 4294967295), (1, .inl 4294967295), (0, gx_r 383)], [], t0, n, 0)) rfl (fun _ => rfl) rfl ?_
          refine ex_go (S := (93, [(3, .inl 0), (2, .inl 4294967295), (1, .inl 4294967295), (0, gx_r 383)], [gx_r 383], t0, n, 0)) rfl (fun _ => rfl) rfl ?_
          refine ex_go (S := (94, [(3, .inl 0), (2, .inl 4294967295), (1, .inl 4294967295), (0, gx_r 383)], [.inl 2, gx_r 383], t0, n, 0)) rfl (fun _ => rfl) rfl ?_
          obtain ⟨_, r167, t167, a167, f167, rfl, s167, e167, q167⟩ := pk_wrong (d + 2) n (s0) (w := 2) (by first | decide | omega)
          have b167 := s167.2.2.2
          refine gx_call0 rfl rfl s0.1 rfl rfl r167 rfl ?_
          have k68 : ai_hv t167 389 4 = some (.inl m64) := (e167 389 4 (by first | decide | omega)).trans k65
          refine ex_go (S := (98, [(3, .inl 0), (2, .inl 4294967295), (1, .inl 4294967295), (0, gx_r 383)], [gx_r 383], t167, n, 0)) rfl (fun _ => rfl) rfl ?_
          refine ex_go (S := (99, [(3, .inl 0), (2, .inl 4294967295), (1, .inl 4294967295), (0, gx_r 383)], [gx_r 383, gx_r 383], t167, n, 0)) rfl (fun _ => rfl) rfl ?_
          refine gx_get rfl s167.1 rfl s167.2.1 rfl ?_
          refine ex_go (S := (103, [(3, .inl 0), (2, .inl 4294967295), (1, .inl 4294967295), (0, gx_r 383)], [gx_r 383, .inl a167, gx_r 383], t167, n, 0)) rfl (fun _ => rfl) rfl ?_
          refine gx_get rfl s167.1 rfl s167.2.2.1 rfl ?_
          refine gx_1f (c := .le) rfl (by first | decide | omega) (show ¬ (f167 ≤ 0) from by omega) rfl ?_
          refine ex_go (S := (110, [(3, .inl 0), (2, .inl 4294967295), (1, .inl 4294967295), (0, gx_r 383)], [.inl 0, .inl a167, gx_r 383], t167, n, 0)) rfl (fun _ => rfl) rfl ?_
          refine ex_go (S := (114, [(3, .inl 0), (2, .inl 4294967295), (1, .inl 4294967295), (0, gx_r 383)], [.inl 0, .inl a167, gx_r 383], t167, n, 0)) rfl (fun _ => rfl) rfl ?_
          refine ex_iadd rfl (by first | decide | omega) rfl ?_
          refine gx_put rfl s167.1 rfl rfl (ai_in_h (by first | decide | omega) (by first | decide | omega) (by first | decide | omega)) rfl (fun t169 g169 k169 e169 => ?_)
          have k70 : ai_hv t169 389 4 = some (.inl m64) := (e169 389 4 (by first | decide | omega)).trans k68
          have s169 : px_S t169 (a167 + 0) f167 := ⟨g169, k169, (e169 383 8 (by first | decide | omega)).trans s167.2.2.1, by omega, s167.2.2.2.2⟩
          refine ex_go (S := (119, [(3, .inl 0), (2, .inl 4294967295), (1, .inl 4294967295), (0, gx_r 383)], [.inl 4294967295], t169, n, 0)) rfl (fun _ => rfl) rfl ?_
          refine ex_ret (r := (some (.inl 4294967295), t169, n, 0)) rfl (fun _ => rfl) ?_
          exact ⟨_, rfl, 4294967295, t169, a167 + 0, f167, rfl, s169, (fun c i h => (e169 c i (by first | decide | omega)).trans (e167 c i (by first | decide | omega))), by omega⟩
        · refine gx_2f (c := .ge) rfl (by first | decide | omega) (by first | decide | omega) hc66 rfl ?_
          refine ex_go (S := (51, [(3, .inl 0), (2, .inl 4294967295), (1, .inl 4294967295), (0, gx_r 383)], [.inl 4294967295], t0, n, 0)) rfl (fun _ => rfl) rfl ?_
          refine ex_go (S := (81, [(3, .inl 0), (2, .inl 4294967295), (1, .inl 4294967295), (0, gx_r 383)], [], t0, n, 0)) rfl (fun _ => rfl) rfl ?_
          refine ex_go (S := (82, [(3, .inl 0), (2, .inl 4294967295), (1, .inl 4294967295), (0, gx_r 383)], [gx_r 383], t0, n, 0)) rfl (fun _ => rfl) rfl ?_
          refine gx_get rfl s0.1 rfl s0.2.2.1 rfl ?_
          refine gx_1f (c := .ne) rfl (by first | decide | omega) (show ¬ (f ≠ 0) from by omega) rfl ?_
          refine ex_go (S := (89, [(3, .inl 0), (2, .inl 4294967295), (1, .inl 4294967295), (0, gx_r 383)], [.inl 4294967295], t0, n, 0)) rfl (fun _ => rfl) rfl ?_
          refine ex_go (S := (92, [(3, .inl 0), (2, .inl 4294967295), (1, .inl 4294967295), (0, gx_r 383)], [], t0, n, 0)) rfl (fun _ => rfl) rfl ?_
          refine ex_go (S := (93, [(3, .inl 0), (2, .inl 4294967295), (1, .inl 4294967295), (0, gx_r 383)], [gx_r 383], t0, n, 0)) rfl (fun _ => rfl) rfl ?_
          refine ex_go (S := (94, [(3, .inl 0), (2, .inl 4294967295), (1, .inl 4294967295), (0, gx_r 383)], [.inl 2, gx_r 383], t0, n, 0)) rfl (fun _ => rfl) rfl ?_
          obtain ⟨_, r171, t171, a171, f171, rfl, s171, e171, q171⟩ := pk_wrong (d + 2) n (s0) (w := 2) (by first | decide | omega)
          have b171 := s171.2.2.2
          refine gx_call0 rfl rfl s0.1 rfl rfl r171 rfl ?_
          have k72 : ai_hv t171 389 4 = some (.inl m64) := (e171 389 4 (by first | decide | omega)).trans k65
          refine ex_go (S := (98, [(3, .inl 0), (2, .inl 4294967295), (1, .inl 4294967295), (0, gx_r 383)], [gx_r 383], t171, n, 0)) rfl (fun _ => rfl) rfl ?_
          refine ex_go (S := (99, [(3, .inl 0), (2, .inl 4294967295), (1, .inl 4294967295), (0, gx_r 383)], [gx_r 383, gx_r 383], t171, n, 0)) rfl (fun _ => rfl) rfl ?_
          refine gx_get rfl s171.1 rfl s171.2.1 rfl ?_
          refine ex_go (S := (103, [(3, .inl 0), (2, .inl 4294967295), (1, .inl 4294967295), (0, gx_r 383)], [gx_r 383, .inl a171, gx_r 383], t171, n, 0)) rfl (fun _ => rfl) rfl ?_
          refine gx_get rfl s171.1 rfl s171.2.2.1 rfl ?_
          refine gx_1f (c := .le) rfl (by first | decide | omega) (show ¬ (f171 ≤ 0) from by omega) rfl ?_
          refine ex_go (S := (110, [(3, .inl 0), (2, .inl 4294967295), (1, .inl 4294967295), (0, gx_r 383)], [.inl 0, .inl a171, gx_r 383], t171, n, 0)) rfl (fun _ => rfl) rfl ?_
          refine ex_go (S := (114, [(3, .inl 0), (2, .inl 4294967295), (1, .inl 4294967295), (0, gx_r 383)], [.inl 0, .inl a171, gx_r 383], t171, n, 0)) rfl (fun _ => rfl) rfl ?_
          refine ex_iadd rfl (by first | decide | omega) rfl ?_
          refine gx_put rfl s171.1 rfl rfl (ai_in_h (by first | decide | omega) (by first | decide | omega) (by first | decide | omega)) rfl (fun t173 g173 k173 e173 => ?_)
          have k74 : ai_hv t173 389 4 = some (.inl m64) := (e173 389 4 (by first | decide | omega)).trans k72
          have s173 : px_S t173 (a171 + 0) f171 := ⟨g173, k173, (e173 383 8 (by first | decide | omega)).trans s171.2.2.1, by omega, s171.2.2.2.2⟩
          refine ex_go (S := (119, [(3, .inl 0), (2, .inl 4294967295), (1, .inl 4294967295), (0, gx_r 383)], [.inl 4294967295], t173, n, 0)) rfl (fun _ => rfl) rfl ?_
          refine ex_ret (r := (some (.inl 4294967295), t173, n, 0)) rfl (fun _ => rfl) ?_
          exact ⟨_, rfl, 4294967295, t173, a171 + 0, f171, rfl, s173, (fun c i h => (e173 c i (by first | decide | omega)).trans (e171 c i (by first | decide | omega))), by omega⟩
    · refine gx_1f (c := .ne) rfl (by first | decide | omega) hc12 rfl ?_
      refine ex_go (S := (15, [(0, gx_r 383)], [gx_r 383], t0, n, 0)) rfl (fun _ => rfl) rfl ?_
      refine ex_go (S := (16, [(0, gx_r 383)], [.inl 1, gx_r 383], t0, n, 0)) rfl (fun _ => rfl) rfl ?_
      obtain ⟨_, r175, t175, a175, f175, rfl, s175, e175, q175⟩ := pk_wrong (d + 2) n (s0) (w := 1) (by first | decide | omega)
      have b175 := s175.2.2.2
      refine gx_call0 rfl rfl s0.1 rfl rfl r175 rfl ?_
      refine ex_go (S := (20, [(0, gx_r 383)], [gx_r 383], t175, n, 0)) rfl (fun _ => rfl) rfl ?_
      refine gx_get rfl s175.1 rfl s175.2.2.1 rfl ?_
      refine gx_1f (c := .le) rfl (by first | decide | omega) (show ¬ (f175 ≤ 0) from by omega) rfl ?_
      refine ex_go (S := (27, [(0, gx_r 383)], [.inl 4294967295], t175, n, 0)) rfl (fun _ => rfl) rfl ?_
      refine ex_go (S := (35, [(0, gx_r 383)], [.inl 4294967295], t175, n, 0)) rfl (fun _ => rfl) rfl ?_
      refine ex_go (S := (36, [(1, .inl 4294967295), (0, gx_r 383)], [], t175, n, 0)) rfl (fun _ => rfl) rfl ?_
      refine ex_go (S := (37, [(1, .inl 4294967295), (0, gx_r 383)], [.inl 4294967295], t175, n, 0)) rfl (fun _ => rfl) rfl ?_
      refine ex_go (S := (38, [(2, .inl 4294967295), (1, .inl 4294967295), (0, gx_r 383)], [], t175, n, 0)) rfl (fun _ => rfl) rfl ?_
      refine ex_go (S := (39, [(2, .inl 4294967295), (1, .inl 4294967295), (0, gx_r 383)], [.inl 0], t175, n, 0)) rfl (fun _ => rfl) rfl ?_
      refine ex_go (S := (40, [(3, .inl 0), (2, .inl 4294967295), (1, .inl 4294967295), (0, gx_r 383)], [], t175, n, 0)) rfl (fun _ => rfl) rfl ?_
      refine ex_go (S := (41, [(3, .inl 0), (2, .inl 4294967295), (1, .inl 4294967295), (0, gx_r 383)], [.inl 0], t175, n, 0)) rfl (fun _ => rfl) rfl ?_
      refine ex_go (S := (42, [(3, .inl 0), (2, .inl 4294967295), (1, .inl 4294967295), (0, gx_r 383)], [gx_r 383, .inl 0], t175, n, 0)) rfl (fun _ => rfl) rfl ?_
      refine gx_ref (c := 389) rfl s175.1 rfl rfl rfl rfl ?_
      refine ex_go (S := (46, [(3, .inl 0), (2, .inl 4294967295), (1, .inl 4294967295), (0, gx_r 383)], [.inl 4, gx_r 389, .inl 0], t175, n, 0)) rfl (fun _ => rfl) rfl ?_
      obtain ⟨m76, k77, m76l, m76h⟩ := gx_in (c := 389) (i := 4) (lo := 0) (hi := 2) s175.1 rfl rfl rfl rfl
      refine gx_ag (v := .inl m76) (cb := fun c => Nat.beq c 0) rfl (fun _ => rfl) s175.1 rfl rfl k77 (by first | decide | omega) rfl ?_
      by_cases hc78 : m76 ≤ 0
      · refine gx_2t (c := .ge) rfl (by first | decide | omega) (by first | decide | omega) hc78 rfl ?_
        refine ex_go (S := (82, [(3, .inl 0), (2, .inl 4294967295), (1, .inl 4294967295), (0, gx_r 383)], [gx_r 383], t175, n, 0)) rfl (fun _ => rfl) rfl ?_
        refine gx_get rfl s175.1 rfl s175.2.2.1 rfl ?_
        refine gx_1t (c := .ne) rfl (by first | decide | omega) (show f175 ≠ 0 from by omega) rfl ?_
        refine ex_go (S := (98, [(3, .inl 0), (2, .inl 4294967295), (1, .inl 4294967295), (0, gx_r 383)], [gx_r 383], t175, n, 0)) rfl (fun _ => rfl) rfl ?_
        refine ex_go (S := (99, [(3, .inl 0), (2, .inl 4294967295), (1, .inl 4294967295), (0, gx_r 383)], [gx_r 383, gx_r 383], t175, n, 0)) rfl (fun _ => rfl) rfl ?_
        refine gx_get rfl s175.1 rfl s175.2.1 rfl ?_
        refine ex_go (S := (103, [(3, .inl 0), (2, .inl 4294967295), (1, .inl 4294967295), (0, gx_r 383)], [gx_r 383, .inl a175, gx_r 383], t175, n, 0)) rfl (fun _ => rfl) rfl ?_
        refine gx_get rfl s175.1 rfl s175.2.2.1 rfl ?_
        refine gx_1f (c := .le) rfl (by first | decide | omega) (show ¬ (f175 ≤ 0) from by omega) rfl ?_
        refine ex_go (S := (110, [(3, .inl 0), (2, .inl 4294967295), (1, .inl 4294967295), (0, gx_r 383)], [.inl 0, .inl a175, gx_r 383], t175, n, 0)) rfl (fun _ => rfl) rfl ?_
        refine ex_go (S := (114, [(3, .inl 0), (2, .inl 4294967295), (1, .inl 4294967295), (0, gx_r 383)], [.inl 0, .inl a175, gx_r 383], t175, n, 0)) rfl (fun _ => rfl) rfl ?_
        refine ex_iadd rfl (by first | decide | omega) rfl ?_
        refine gx_put rfl s175.1 rfl rfl (ai_in_h (by first | decide | omega) (by first | decide | omega) (by first | decide | omega)) rfl (fun t179 g179 k179 e179 => ?_)
        have k80 : ai_hv t179 389 4 = some (.inl m76) := (e179 389 4 (by first | decide | omega)).trans k77
        have s179 : px_S t179 (a175 + 0) f175 := ⟨g179, k179, (e179 383 8 (by first | decide | omega)).trans s175.2.2.1, by omega, s175.2.2.2.2⟩
        refine ex_go (S := (119, [(3, .inl 0), (2, .inl 4294967295), (1, .inl 4294967295), (0, gx_r 383)], [.inl 4294967295], t179, n, 0)) rfl (fun _ => rfl) rfl ?_
        refine ex_ret (r := (some (.inl 4294967295), t179, n, 0)) rfl (fun _ => rfl) ?_
        exact ⟨_, rfl, 4294967295, t179, a175 + 0, f175, rfl, s179, (fun c i h => (e179 c i (by first | decide | omega)).trans (e175 c i (by first | decide | omega))), by omega⟩
      · refine gx_2f (c := .ge) rfl (by first | decide | omega) (by first | decide | omega) hc78 rfl ?_
        refine ex_go (S := (51, [(3, .inl 0), (2, .inl 4294967295), (1, .inl 4294967295), (0, gx_r 383)], [.inl 4294967295], t175, n, 0)) rfl (fun _ => rfl) rfl ?_
        refine ex_go (S := (81, [(3, .inl 0), (2, .inl 4294967295), (1, .inl 4294967295), (0, gx_r 383)], [], t175, n, 0)) rfl (fun _ => rfl) rfl ?_
        refine ex_go (S := (82, [(3, .inl 0), (2, .inl 4294967295), (1, .inl 4294967295), (0, gx_r 383)], [gx_r 383], t175, n, 0)) rfl (fun _ => rfl) rfl ?_
        refine gx_get rfl s175.1 rfl s175.2.2.1 rfl ?_
        refine gx_1t (c := .ne) rfl (by first | decide | omega) (show f175 ≠ 0 from by omega) rfl ?_
        refine ex_go (S := (98, [(3, .inl 0), (2, .inl 4294967295), (1, .inl 4294967295), (0, gx_r 383)], [gx_r 383], t175, n, 0)) rfl (fun _ => rfl) rfl ?_
        refine ex_go (S := (99, [(3, .inl 0), (2, .inl 4294967295), (1, .inl 4294967295), (0, gx_r 383)], [gx_r 383, gx_r 383], t175, n, 0)) rfl (fun _ => rfl) rfl ?_
        refine gx_get rfl s175.1 rfl s175.2.1 rfl ?_
        refine ex_go (S := (103, [(3, .inl 0), (2, .inl 4294967295), (1, .inl 4294967295), (0, gx_r 383)], [gx_r 383, .inl a175, gx_r 383], t175, n, 0)) rfl (fun _ => rfl) rfl ?_
        refine gx_get rfl s175.1 rfl s175.2.2.1 rfl ?_
        refine gx_1f (c := .le) rfl (by first | decide | omega) (show ¬ (f175 ≤ 0) from by omega) rfl ?_
        refine ex_go (S := (110, [(3, .inl 0), (2, .inl 4294967295), (1, .inl 4294967295), (0, gx_r 383)], [.inl 0, .inl a175, gx_r 383], t175, n, 0)) rfl (fun _ => rfl) rfl ?_
        refine ex_go (S := (114, [(3, .inl 0), (2, .inl 4294967295), (1, .inl 4294967295), (0, gx_r 383)], [.inl 0, .inl a175, gx_r 383], t175, n, 0)) rfl (fun _ => rfl) rfl ?_
        refine ex_iadd rfl (by first | decide | omega) rfl ?_
        refine gx_put rfl s175.1 rfl rfl (ai_in_h (by first | decide | omega) (by first | decide | omega) (by first | decide | omega)) rfl (fun t181 g181 k181 e181 => ?_)
        have k82 : ai_hv t181 389 4 = some (.inl m76) := (e181 389 4 (by first | decide | omega)).trans k77
        have s181 : px_S t181 (a175 + 0) f175 := ⟨g181, k181, (e181 383 8 (by first | decide | omega)).trans s175.2.2.1, by omega, s175.2.2.2.2⟩
        refine ex_go (S := (119, [(3, .inl 0), (2, .inl 4294967295), (1, .inl 4294967295), (0, gx_r 383)], [.inl 4294967295], t181, n, 0)) rfl (fun _ => rfl) rfl ?_
        refine ex_ret (r := (some (.inl 4294967295), t181, n, 0)) rfl (fun _ => rfl) ?_
        exact ⟨_, rfl, 4294967295, t181, a175 + 0, f175, rfl, s181, (fun c i h => (e181 c i (by first | decide | omega)).trans (e175 c i (by first | decide | omega))), by omega⟩
theorem pk_readWeek (d n : Nat) {t0 : en_H} {a f w i : Nat} (s0 : px_S t0 a f) (hw : w ≤ 3) (hi : 110 ≤ i ∧ i + 2 < 210) : ∃ r, en_u (d + 5) 102 [gx_r 383, .inl w, .inl i] t0 n = some r ∧ ∃ t' a' f', r = (none, t', n, 0) ∧ px_S t' a' f' ∧ (∀ c j, ¬ ((c = 383 ∧ (j = 7 ∨ j = 8)) ∨ (c = 396 ∧ i ≤ j ∧ j ≤ i + 2)) → ai_hv t' c j = ai_hv t0 c j) ∧ a ≤ a' ∧ (f' = 0 → f = 0 ∧ a < a' ∧ ((w = 0 ∧ ai_En t' 396 i 0 30) ∨ (w = 1 ∧ ai_En t' 396 i 0 1 ∧ ai_En t' 396 (i + 1) 0 7 ∧ ai_En t' 396 (i + 2) 0 7) ∨ (w = 2 ∧ ai_En t' 396 i 0 1 ∧ ai_En t' 396 (i + 1) 0 999) ∨ (w = 3 ∧ ai_En t' 396 i 0 1))) := by
  have b0 := s0.2.2.2
  refine en_u_ex (d := d + 4) rfl ?_
  show en_ex _ _ _ _ (0, [(0, gx_r 383), (1, .inl w), (2, .inl i)], [], t0, n, 0) _
  refine ex_go (S := (1, [(0, gx_r 383), (1, .inl w), (2, .inl i)], [gx_r 383], t0, n, 0)) rfl (fun _ => rfl) rfl ?_
  refine gx_ref (c := 396) rfl s0.1 rfl rfl rfl rfl ?_
  refine ex_go (S := (5, [(0, gx_r 383), (1, .inl w), (2, .inl i)], [.inl i, gx_r 396], t0, n, 0)) rfl (fun _ => rfl) rfl ?_
  refine ex_go (S := (6, [(0, gx_r 383), (1, .inl w), (2, .inl i)], [.inl w, .inl i, gx_r 396], t0, n, 0)) rfl (fun _ => rfl) rfl ?_
  by_cases hc1 : w ≠ 0
  · refine gx_1t (c := .ne) rfl (by first | decide | omega) hc1 rfl ?_
    refine ex_go (S := (20, [(0, gx_r 383), (1, .inl w), (2, .inl i)], [gx_r 383, .inl i, gx_r 396], t0, n, 0)) rfl (fun _ => rfl) rfl ?_
    obtain ⟨_, r102, v102, t102, a102, f102, rfl, s102, e102, q102⟩ := pk_takeCrew (d) n (s0) 
    have b102 := s102.2.2.2
    refine gx_call1 rfl rfl s0.1 rfl rfl r102 rfl ?_
    refine gx_ap rfl (fun _ => rfl) s102.1 rfl rfl rfl (show i < 210 from by omega) ((gx_run2 (by first | decide | omega)).trans (gx_run1 (show i < 210 from by omega))) (gx_full (by first | decide | omega)) rfl (fun t103 g103 k103 e103 => ?_)
    have s103 : px_S t103 a102 f102 := ⟨g103, (e103 383 7 (by first | decide | omega)).trans s102.2.1, (e103 383 8 (by first | decide | omega)).trans s102.2.2.1, s102.2.2.2⟩
    refine ex_go (S := (25, [(0, gx_r 383), (1, .inl w), (2, .inl i)], [.inl w], t103, n, 0)) rfl (fun _ => rfl) rfl ?_
    refine ex_go (S := (26, [(0, gx_r 383), (1, .inl w), (2, .inl i)], [.inl 1, .inl w], t103, n, 0)) rfl (fun _ => rfl) rfl ?_
    by_cases hc4 : w ≠ 1
    · refine gx_2t (c := .ne) rfl (by first | decide | omega) (by first | decide | omega) hc4 rfl ?_
      refine ex_go (S := (75, [(0, gx_r 383), (1, .inl w), (2, .inl i)], [.inl w], t103, n, 0)) rfl (fun _ => rfl) rfl ?_
      refine ex_go (S := (76, [(0, gx_r 383), (1, .inl w), (2, .inl i)], [.inl 2, .inl w], t103, n, 0)) rfl (fun _ => rfl) rfl ?_
      by_cases hc5 : w ≠ 2
      · refine gx_2t (c := .ne) rfl (by first | decide | omega) (by first | decide | omega) hc5 rfl ?_
        refine ex_ret (r := (none, t103, n, 0)) rfl (fun _ => rfl) ?_
        exact ⟨_, rfl, t103, a102, f102, rfl, s103, (fun c j h => (e103 c j (by first | decide | omega)).trans (e102 c j (by first | decide | omega))), by omega, fun h0 => ⟨by omega, by omega, Or.inr (Or.inr (Or.inr ⟨by omega, ⟨v102, k103, by omega, by omega⟩⟩))⟩⟩
      · refine gx_2f (c := .ne) rfl (by first | decide | omega) (by first | decide | omega) hc5 rfl ?_
        refine ex_go (S := (80, [(0, gx_r 383), (1, .inl w), (2, .inl i)], [gx_r 383], t103, n, 0)) rfl (fun _ => rfl) rfl ?_
        refine gx_ref (c := 396) rfl s103.1 rfl rfl rfl rfl ?_
        refine ex_go (S := (84, [(0, gx_r 383), (1, .inl w), (2, .inl i)], [.inl i, gx_r 396], t103, n, 0)) rfl (fun _ => rfl) rfl ?_
        refine ex_go (S := (85, [(0, gx_r 383), (1, .inl w), (2, .inl i)], [.inl 1, .inl i, gx_r 396], t103, n, 0)) rfl (fun _ => rfl) rfl ?_
        refine ex_iadd rfl (by first | decide | omega) rfl ?_
        refine ex_go (S := (87, [(0, gx_r 383), (1, .inl w), (2, .inl i)], [gx_r 383, .inl (i + 1), gx_r 396], t103, n, 0)) rfl (fun _ => rfl) rfl ?_
        refine ex_go (S := (88, [(0, gx_r 383), (1, .inl w), (2, .inl i)], [.inl 1, gx_r 383, .inl (i + 1), gx_r 396], t103, n, 0)) rfl (fun _ => rfl) rfl ?_
        refine ex_go (S := (91, [(0, gx_r 383), (1, .inl w), (2, .inl i)], [.inl 999, .inl 1, gx_r 383, .inl (i + 1), gx_r 396], t103, n, 0)) rfl (fun _ => rfl) rfl ?_
        obtain ⟨_, r106, v106, t106, a106, f106, rfl, s106, e106, q106⟩ := pk_takeNumber (d + 2) n (s103) (lo := 1) (hi := 999) (by first | decide | omega) (by first | decide | omega)
        have b106 := s106.2.2.2
        refine gx_call1 rfl rfl s103.1 rfl rfl r106 rfl ?_
        have k7 : ai_hv t106 396 i = some (.inl v102) := (e106 396 i (by first | decide | omega)).trans k103
        refine gx_ap rfl (fun _ => rfl) s106.1 rfl rfl rfl (show i + 1 < 210 from by omega) ((gx_run2 (by first | decide | omega)).trans (gx_run1 (show i + 1 < 210 from by omega))) (gx_full (by first | decide | omega)) rfl (fun t108 g108 k108 e108 => ?_)
        have k9 : ai_hv t108 396 i = some (.inl v102) := (e108 396 i (by first | decide | omega)).trans k7
        have s108 : px_S t108 a106 f106 := ⟨g108, (e108 383 7 (by first | decide | omega)).trans s106.2.1, (e108 383 8 (by first | decide | omega)).trans s106.2.2.1, s106.2.2.2⟩
        refine ex_ret (r := (none, t108, n, 0)) rfl (fun _ => rfl) ?_
        exact ⟨_, rfl, t108, a106, f106, rfl, s108, (fun c j h => (e108 c j (by first | decide | omega)).trans ((e106 c j (by first | decide | omega)).trans ((e103 c j (by first | decide | omega)).trans (e102 c j (by first | decide | omega))))), by omega, fun h0 => ⟨by omega, by omega, Or.inr (Or.inr (Or.inl ⟨by omega, ⟨v102, k9, by omega, by omega⟩, ⟨v106, k108, by omega, by omega⟩⟩))⟩⟩
    · refine gx_2f (c := .ne) rfl (by first | decide | omega) (by first | decide | omega) hc4 rfl ?_
      refine ex_go (S := (30, [(0, gx_r 383), (1, .inl w), (2, .inl i)], [gx_r 383], t103, n, 0)) rfl (fun _ => rfl) rfl ?_
      refine gx_ref (c := 396) rfl s103.1 rfl rfl rfl rfl ?_
      refine ex_go (S := (34, [(0, gx_r 383), (1, .inl w), (2, .inl i)], [.inl i, gx_r 396], t103, n, 0)) rfl (fun _ => rfl) rfl ?_
      refine ex_go (S := (35, [(0, gx_r 383), (1, .inl w), (2, .inl i)], [.inl 1, .inl i, gx_r 396], t103, n, 0)) rfl (fun _ => rfl) rfl ?_
      refine ex_iadd rfl (by first | decide | omega) rfl ?_
      refine ex_go (S := (37, [(0, gx_r 383), (1, .inl w), (2, .inl i)], [gx_r 383, .inl (i + 1), gx_r 396], t103, n, 0)) rfl (fun _ => rfl) rfl ?_
      refine ex_go (S := (38, [(0, gx_r 383), (1, .inl w), (2, .inl i)], [.inl 0, gx_r 383, .inl (i + 1), gx_r 396], t103, n, 0)) rfl (fun _ => rfl) rfl ?_
      refine ex_go (S := (39, [(0, gx_r 383), (1, .inl w), (2, .inl i)], [gx_r 383, .inl 0, gx_r 383, .inl (i + 1), gx_r 396], t103, n, 0)) rfl (fun _ => rfl) rfl ?_
      refine gx_ref (c := 389) rfl s103.1 rfl rfl rfl rfl ?_
      refine ex_go (S := (43, [(0, gx_r 383), (1, .inl w), (2, .inl i)], [.inl 0, gx_r 389, .inl 0, gx_r 383, .inl (i + 1), gx_r 396], t103, n, 0)) rfl (fun _ => rfl) rfl ?_
      obtain ⟨m10, k11, m10l, m10h⟩ := gx_in (c := 389) (i := 0) (lo := 2) (hi := 8) s103.1 rfl rfl rfl rfl
      refine gx_ag (v := .inl m10) (cb := fun c => Nat.beq c 0) rfl (fun _ => rfl) s103.1 rfl rfl k11 (by first | decide | omega) rfl ?_
      refine ex_go (S := (45, [(0, gx_r 383), (1, .inl w), (2, .inl i)], [.inl 1, .inl m10, .inl 0, gx_r 383, .inl (i + 1), gx_r 396], t103, n, 0)) rfl (fun _ => rfl) rfl ?_
      refine gx_isub rfl (by first | decide | omega) (by first | decide | omega) rfl ?_
      obtain ⟨_, r112, v112, t112, a112, f112, rfl, s112, e112, q112⟩ := pk_takeNumber (d + 2) n (s103) (lo := 0) (hi := m10 - 1) (by first | decide | omega) (by first | decide | omega)
      have b112 := s112.2.2.2
      refine gx_call1 rfl rfl s103.1 rfl rfl r112 rfl ?_
      have k13 : ai_hv t112 396 i = some (.inl v102) := (e112 396 i (by first | decide | omega)).trans k103
      have k14 : ai_hv t112 389 0 = some (.inl m10) := (e112 389 0 (by first | decide | omega)).trans k11
      refine gx_ap rfl (fun _ => rfl) s112.1 rfl rfl rfl (show i + 1 < 210 from by omega) ((gx_run2 (by first | decide | omega)).trans (gx_run1 (show i + 1 < 210 from by omega))) (gx_full (by first | decide | omega)) rfl (fun t115 g115 k115 e115 => ?_)
      have k16 : ai_hv t115 396 i = some (.inl v102) := (e115 396 i (by first | decide | omega)).trans k13
      have k17 : ai_hv t115 389 0 = some (.inl m10) := (e115 389 0 (by first | decide | omega)).trans k14
      have s115 : px_S t115 a112 f112 := ⟨g115, (e115 383 7 (by first | decide | omega)).trans s112.2.1, (e115 383 8 (by first | decide | omega)).trans s112.2.2.1, s112.2.2.2⟩
      refine ex_go (S := (51, [(0, gx_r 383), (1, .inl w), (2, .inl i)], [gx_r 383], t115, n, 0)) rfl (fun _ => rfl) rfl ?_
      refine gx_ref (c := 396) rfl s115.1 rfl rfl rfl rfl ?_
      refine ex_go (S := (55, [(0, gx_r 383), (1, .inl w), (2, .inl i)], [.inl i, gx_r 396], t115, n, 0)) rfl (fun _ => rfl) rfl ?_
      refine ex_go (S := (56, [(0, gx_r 383), (1, .inl w), (2, .inl i)], [.inl 2, .inl i, gx_r 396], t115, n, 0)) rfl (fun _ => rfl) rfl ?_
      refine ex_iadd rfl (by first | decide | omega) rfl ?_
      refine ex_go (S := (58, [(0, gx_r 383), (1, .inl w), (2, .inl i)], [gx_r 383, .inl (i + 2), gx_r 396], t115, n, 0)) rfl (fun _ => rfl) rfl ?_
      refine ex_go (S := (59, [(0, gx_r 383), (1, .inl w), (2, .inl i)], [.inl 0, gx_r 383, .inl (i + 2), gx_r 396], t115, n, 0)) rfl (fun _ => rfl) rfl ?_
      refine ex_go (S := (60, [(0, gx_r 383), (1, .inl w), (2, .inl i)], [gx_r 383, .inl 0, gx_r 383, .inl (i + 2), gx_r 396], t115, n, 0)) rfl (fun _ => rfl) rfl ?_
      refine gx_ref (c := 389) rfl s115.1 rfl rfl rfl rfl ?_
      refine ex_go (S := (64, [(0, gx_r 383), (1, .inl w), (2, .inl i)], [.inl 1, gx_r 389, .inl 0, gx_r 383, .inl (i + 2), gx_r 396], t115, n, 0)) rfl (fun _ => rfl) rfl ?_
      obtain ⟨m18, k19, m18l, m18h⟩ := gx_in (c := 389) (i := 1) (lo := 2) (hi := 8) s115.1 rfl rfl rfl rfl
      refine gx_ag (v := .inl m18) (cb := fun c => Nat.beq c 0) rfl (fun _ => rfl) s115.1 rfl rfl k19 (by first | decide | omega) rfl ?_
      refine ex_go (S := (66, [(0, gx_r 383), (1, .inl w), (2, .inl i)], [.inl 1, .inl m18, .inl 0, gx_r 383, .inl (i + 2), gx_r 396], t115, n, 0)) rfl (fun _ => rfl) rfl ?_
      refine gx_isub rfl (by first | decide | omega) (by first | decide | omega) rfl ?_
      obtain ⟨_, r120, v120, t120, a120, f120, rfl, s120, e120, q120⟩ := pk_takeNumber (d + 2) n (s115) (lo := 0) (hi := m18 - 1) (by first | decide | omega) (by first | decide | omega)
      have b120 := s120.2.2.2
      refine gx_call1 rfl rfl s115.1 rfl rfl r120 rfl ?_
      have k21 : ai_hv t120 396 i = some (.inl v102) := (e120 396 i (by first | decide | omega)).trans k16
      have k22 : ai_hv t120 389 0 = some (.inl m10) := (e120 389 0 (by first | decide | omega)).trans k17
      have k23 : ai_hv t120 396 (i + 1) = some (.inl v112) := (e120 396 (i + 1) (by first | decide | omega)).trans k115
      have k24 : ai_hv t120 389 1 = some (.inl m18) := (e120 389 1 (by first | decide | omega)).trans k19
      refine gx_ap rfl (fun _ => rfl) s120.1 rfl rfl rfl (show i + 2 < 210 from by omega) ((gx_run2 (by first | decide | omega)).trans (gx_run1 (show i + 2 < 210 from by omega))) (gx_full (by first | decide | omega)) rfl (fun t125 g125 k125 e125 => ?_)
      have k26 : ai_hv t125 396 i = some (.inl v102) := (e125 396 i (by first | decide | omega)).trans k21
      have k27 : ai_hv t125 389 0 = some (.inl m10) := (e125 389 0 (by first | decide | omega)).trans k22
      have k28 : ai_hv t125 396 (i + 1) = some (.inl v112) := (e125 396 (i + 1) (by first | decide | omega)).trans k23
      have k29 : ai_hv t125 389 1 = some (.inl m18) := (e125 389 1 (by first | decide | omega)).trans k24
      have s125 : px_S t125 a120 f120 := ⟨g125, (e125 383 7 (by first | decide | omega)).trans s120.2.1, (e125 383 8 (by first | decide | omega)).trans s120.2.2.1, s120.2.2.2⟩
      refine ex_go (S := (95, [(0, gx_r 383), (1, .inl w), (2, .inl i)], [], t125, n, 0)) rfl (fun _ => rfl) rfl ?_
      refine ex_ret (r := (none, t125, n, 0)) rfl (fun _ => rfl) ?_
      exact ⟨_, rfl, t125, a120, f120, rfl, s125, (fun c j h => (e125 c j (by first | decide | omega)).trans ((e120 c j (by first | decide | omega)).trans ((e115 c j (by first | decide | omega)).trans ((e112 c j (by first | decide | omega)).trans ((e103 c j (by first | decide | omega)).trans (e102 c j (by first | decide | omega))))))), by omega, fun h0 => ⟨by omega, by omega, Or.inr (Or.inl ⟨by omega, ⟨v102, k26, by omega, by omega⟩, ⟨v112, k28, by omega, by omega⟩, ⟨v120, k125, by omega, by omega⟩⟩)⟩⟩
  · refine gx_1f (c := .ne) rfl (by first | decide | omega) hc1 rfl ?_
    refine ex_go (S := (10, [(0, gx_r 383), (1, .inl w), (2, .inl i)], [gx_r 383, .inl i, gx_r 396], t0, n, 0)) rfl (fun _ => rfl) rfl ?_
    refine ex_go (S := (11, [(0, gx_r 383), (1, .inl w), (2, .inl i)], [.inl 1, gx_r 383, .inl i, gx_r 396], t0, n, 0)) rfl (fun _ => rfl) rfl ?_
    refine ex_go (S := (13, [(0, gx_r 383), (1, .inl w), (2, .inl i)], [.inl 30, .inl 1, gx_r 383, .inl i, gx_r 396], t0, n, 0)) rfl (fun _ => rfl) rfl ?_
    obtain ⟨_, r130, v130, t130, a130, f130, rfl, s130, e130, q130⟩ := pk_takeNumber (d + 2) n (s0) (lo := 1) (hi := 30) (by first | decide | omega) (by first | decide | omega)
    have b130 := s130.2.2.2
    refine gx_call1 rfl rfl s0.1 rfl rfl r130 rfl ?_
    refine ex_go (S := (23, [(0, gx_r 383), (1, .inl w), (2, .inl i)], [.inl v130, .inl i, gx_r 396], t130, n, 0)) rfl (fun _ => rfl) rfl ?_
    refine gx_ap rfl (fun _ => rfl) s130.1 rfl rfl rfl (show i < 210 from by omega) ((gx_run2 (by first | decide | omega)).trans (gx_run1 (show i < 210 from by omega))) (gx_full (by first | decide | omega)) rfl (fun t131 g131 k131 e131 => ?_)
    have s131 : px_S t131 a130 f130 := ⟨g131, (e131 383 7 (by first | decide | omega)).trans s130.2.1, (e131 383 8 (by first | decide | omega)).trans s130.2.2.1, s130.2.2.2⟩
    refine ex_go (S := (25, [(0, gx_r 383), (1, .inl w), (2, .inl i)], [.inl w], t131, n, 0)) rfl (fun _ => rfl) rfl ?_
    refine ex_go (S := (26, [(0, gx_r 383), (1, .inl w), (2, .inl i)], [.inl 1, .inl w], t131, n, 0)) rfl (fun _ => rfl) rfl ?_
    by_cases hc32 : w ≠ 1
    · refine gx_2t (c := .ne) rfl (by first | decide | omega) (by first | decide | omega) hc32 rfl ?_
      refine ex_go (S := (75, [(0, gx_r 383), (1, .inl w), (2, .inl i)], [.inl w], t131, n, 0)) rfl (fun _ => rfl) rfl ?_
      refine ex_go (S := (76, [(0, gx_r 383), (1, .inl w), (2, .inl i)], [.inl 2, .inl w], t131, n, 0)) rfl (fun _ => rfl) rfl ?_
      by_cases hc33 : w ≠ 2
      · refine gx_2t (c := .ne) rfl (by first | decide | omega) (by first | decide | omega) hc33 rfl ?_
        refine ex_ret (r := (none, t131, n, 0)) rfl (fun _ => rfl) ?_
        exact ⟨_, rfl, t131, a130, f130, rfl, s131, (fun c j h => (e131 c j (by first | decide | omega)).trans (e130 c j (by first | decide | omega))), by omega, fun h0 => ⟨by omega, by omega, Or.inl ⟨by omega, ⟨v130, k131, by omega, by omega⟩⟩⟩⟩
      · refine gx_2f (c := .ne) rfl (by first | decide | omega) (by first | decide | omega) hc33 rfl ?_
        refine ex_go (S := (80, [(0, gx_r 383), (1, .inl w), (2, .inl i)], [gx_r 383], t131, n, 0)) rfl (fun _ => rfl) rfl ?_
        refine gx_ref (c := 396) rfl s131.1 rfl rfl rfl rfl ?_
        refine ex_go (S := (84, [(0, gx_r 383), (1, .inl w), (2, .inl i)], [.inl i, gx_r 396], t131, n, 0)) rfl (fun _ => rfl) rfl ?_
        refine ex_go (S := (85, [(0, gx_r 383), (1, .inl w), (2, .inl i)], [.inl 1, .inl i, gx_r 396], t131, n, 0)) rfl (fun _ => rfl) rfl ?_
        refine ex_iadd rfl (by first | decide | omega) rfl ?_
        refine ex_go (S := (87, [(0, gx_r 383), (1, .inl w), (2, .inl i)], [gx_r 383, .inl (i + 1), gx_r 396], t131, n, 0)) rfl (fun _ => rfl) rfl ?_
        refine ex_go (S := (88, [(0, gx_r 383), (1, .inl w), (2, .inl i)], [.inl 1, gx_r 383, .inl (i + 1), gx_r 396], t131, n, 0)) rfl (fun _ => rfl) rfl ?_
        refine ex_go (S := (91, [(0, gx_r 383), (1, .inl w), (2, .inl i)], [.inl 999, .inl 1, gx_r 383, .inl (i + 1), gx_r 396], t131, n, 0)) rfl (fun _ => rfl) rfl ?_
        obtain ⟨_, r134, v134, t134, a134, f134, rfl, s134, e134, q134⟩ := pk_takeNumber (d + 2) n (s131) (lo := 1) (hi := 999) (by first | decide | omega) (by first | decide | omega)
        have b134 := s134.2.2.2
        refine gx_call1 rfl rfl s131.1 rfl rfl r134 rfl ?_
        have k35 : ai_hv t134 396 i = some (.inl v130) := (e134 396 i (by first | decide | omega)).trans k131
        refine gx_ap rfl (fun _ => rfl) s134.1 rfl rfl rfl (show i + 1 < 210 from by omega) ((gx_run2 (by first | decide | omega)).trans (gx_run1 (show i + 1 < 210 from by omega))) (gx_full (by first | decide | omega)) rfl (fun t136 g136 k136 e136 => ?_)
        have k37 : ai_hv t136 396 i = some (.inl v130) := (e136 396 i (by first | decide | omega)).trans k35
        have s136 : px_S t136 a134 f134 := ⟨g136, (e136 383 7 (by first | decide | omega)).trans s134.2.1, (e136 383 8 (by first | decide | omega)).trans s134.2.2.1, s134.2.2.2⟩
        refine ex_ret (r := (none, t136, n, 0)) rfl (fun _ => rfl) ?_
        exfalso; omega
    · refine gx_2f (c := .ne) rfl (by first | decide | omega) (by first | decide | omega) hc32 rfl ?_
      refine ex_go (S := (30, [(0, gx_r 383), (1, .inl w), (2, .inl i)], [gx_r 383], t131, n, 0)) rfl (fun _ => rfl) rfl ?_
      refine gx_ref (c := 396) rfl s131.1 rfl rfl rfl rfl ?_
      refine ex_go (S := (34, [(0, gx_r 383), (1, .inl w), (2, .inl i)], [.inl i, gx_r 396], t131, n, 0)) rfl (fun _ => rfl) rfl ?_
      refine ex_go (S := (35, [(0, gx_r 383), (1, .inl w), (2, .inl i)], [.inl 1, .inl i, gx_r 396], t131, n, 0)) rfl (fun _ => rfl) rfl ?_
      refine ex_iadd rfl (by first | decide | omega) rfl ?_
      refine ex_go (S := (37, [(0, gx_r 383), (1, .inl w), (2, .inl i)], [gx_r 383, .inl (i + 1), gx_r 396], t131, n, 0)) rfl (fun _ => rfl) rfl ?_
      refine ex_go (S := (38, [(0, gx_r 383), (1, .inl w), (2, .inl i)], [.inl 0, gx_r 383, .inl (i + 1), gx_r 396], t131, n, 0)) rfl (fun _ => rfl) rfl ?_
      refine ex_go (S := (39, [(0, gx_r 383), (1, .inl w), (2, .inl i)], [gx_r 383, .inl 0, gx_r 383, .inl (i + 1), gx_r 396], t131, n, 0)) rfl (fun _ => rfl) rfl ?_
      refine gx_ref (c := 389) rfl s131.1 rfl rfl rfl rfl ?_
      refine ex_go (S := (43, [(0, gx_r 383), (1, .inl w), (2, .inl i)], [.inl 0, gx_r 389, .inl 0, gx_r 383, .inl (i + 1), gx_r 396], t131, n, 0)) rfl (fun _ => rfl) rfl ?_
      obtain ⟨m38, k39, m38l, m38h⟩ := gx_in (c := 389) (i := 0) (lo := 2) (hi := 8) s131.1 rfl rfl rfl rfl
      refine gx_ag (v := .inl m38) (cb := fun c => Nat.beq c 0) rfl (fun _ => rfl) s131.1 rfl rfl k39 (by first | decide | omega) rfl ?_
      refine ex_go (S := (45, [(0, gx_r 383), (1, .inl w), (2, .inl i)], [.inl 1, .inl m38, .inl 0, gx_r 383, .inl (i + 1), gx_r 396], t131, n, 0)) rfl (fun _ => rfl) rfl ?_
      refine gx_isub rfl (by first | decide | omega) (by first | decide | omega) rfl ?_
      obtain ⟨_, r140, v140, t140, a140, f140, rfl, s140, e140, q140⟩ := pk_takeNumber (d + 2) n (s131) (lo := 0) (hi := m38 - 1) (by first | decide | omega) (by first | decide | omega)
      have b140 := s140.2.2.2
      refine gx_call1 rfl rfl s131.1 rfl rfl r140 rfl ?_
      have k41 : ai_hv t140 396 i = some (.inl v130) := (e140 396 i (by first | decide | omega)).trans k131
      have k42 : ai_hv t140 389 0 = some (.inl m38) := (e140 389 0 (by first | decide | omega)).trans k39
      refine gx_ap rfl (fun _ => rfl) s140.1 rfl rfl rfl (show i + 1 < 210 from by omega) ((gx_run2 (by first | decide | omega)).trans (gx_run1 (show i + 1 < 210 from by omega))) (gx_full (by first | decide | omega)) rfl (fun t143 g143 k143 e143 => ?_)
      have k44 : ai_hv t143 396 i = some (.inl v130) := (e143 396 i (by first | decide | omega)).trans k41
      have k45 : ai_hv t143 389 0 = some (.inl m38) := (e143 389 0 (by first | decide | omega)).trans k42
      have s143 : px_S t143 a140 f140 := ⟨g143, (e143 383 7 (by first | decide | omega)).trans s140.2.1, (e143 383 8 (by first | decide | omega)).trans s140.2.2.1, s140.2.2.2⟩
      refine ex_go (S := (51, [(0, gx_r 383), (1, .inl w), (2, .inl i)], [gx_r 383], t143, n, 0)) rfl (fun _ => rfl) rfl ?_
      refine gx_ref (c := 396) rfl s143.1 rfl rfl rfl rfl ?_
      refine ex_go (S := (55, [(0, gx_r 383), (1, .inl w), (2, .inl i)], [.inl i, gx_r 396], t143, n, 0)) rfl (fun _ => rfl) rfl ?_
      refine ex_go (S := (56, [(0, gx_r 383), (1, .inl w), (2, .inl i)], [.inl 2, .inl i, gx_r 396], t143, n, 0)) rfl (fun _ => rfl) rfl ?_
      refine ex_iadd rfl (by first | decide | omega) rfl ?_
      refine ex_go (S := (58, [(0, gx_r 383), (1, .inl w), (2, .inl i)], [gx_r 383, .inl (i + 2), gx_r 396], t143, n, 0)) rfl (fun _ => rfl) rfl ?_
      refine ex_go (S := (59, [(0, gx_r 383), (1, .inl w), (2, .inl i)], [.inl 0, gx_r 383, .inl (i + 2), gx_r 396], t143, n, 0)) rfl (fun _ => rfl) rfl ?_
      refine ex_go (S := (60, [(0, gx_r 383), (1, .inl w), (2, .inl i)], [gx_r 383, .inl 0, gx_r 383, .inl (i + 2), gx_r 396], t143, n, 0)) rfl (fun _ => rfl) rfl ?_
      refine gx_ref (c := 389) rfl s143.1 rfl rfl rfl rfl ?_
      refine ex_go (S := (64, [(0, gx_r 383), (1, .inl w), (2, .inl i)], [.inl 1, gx_r 389, .inl 0, gx_r 383, .inl (i + 2), gx_r 396], t143, n, 0)) rfl (fun _ => rfl) rfl ?_
      obtain ⟨m46, k47, m46l, m46h⟩ := gx_in (c := 389) (i := 1) (lo := 2) (hi := 8) s143.1 rfl rfl rfl rfl
      refine gx_ag (v := .inl m46) (cb := fun c => Nat.beq c 0) rfl (fun _ => rfl) s143.1 rfl rfl k47 (by first | decide | omega) rfl ?_
      refine ex_go (S := (66, [(0, gx_r 383), (1, .inl w), (2, .inl i)], [.inl 1, .inl m46, .inl 0, gx_r 383, .inl (i + 2), gx_r 396], t143, n, 0)) rfl (fun _ => rfl) rfl ?_
      refine gx_isub rfl (by first | decide | omega) (by first | decide | omega) rfl ?_
      obtain ⟨_, r148, v148, t148, a148, f148, rfl, s148, e148, q148⟩ := pk_takeNumber (d + 2) n (s143) (lo := 0) (hi := m46 - 1) (by first | decide | omega) (by first | decide | omega)
      have b148 := s148.2.2.2
      refine gx_call1 rfl rfl s143.1 rfl rfl r148 rfl ?_
      have k49 : ai_hv t148 396 i = some (.inl v130) := (e148 396 i (by first | decide | omega)).trans k44
      have k50 : ai_hv t148 389 0 = some (.inl m38) := (e148 389 0 (by first | decide | omega)).trans k45
      have k51 : ai_hv t148 396 (i + 1) = some (.inl v140) := (e148 396 (i + 1) (by first | decide | omega)).trans k143
      have k52 : ai_hv t148 389 1 = some (.inl m46) := (e148 389 1 (by first | decide | omega)).trans k47
      refine gx_ap rfl (fun _ => rfl) s148.1 rfl rfl rfl (show i + 2 < 210 from by omega) ((gx_run2 (by first | decide | omega)).trans (gx_run1 (show i + 2 < 210 from by omega))) (gx_full (by first | decide | omega)) rfl (fun t153 g153 k153 e153 => ?_)
      have k54 : ai_hv t153 396 i = some (.inl v130) := (e153 396 i (by first | decide | omega)).trans k49
      have k55 : ai_hv t153 389 0 = some (.inl m38) := (e153 389 0 (by first | decide | omega)).trans k50
      have k56 : ai_hv t153 396 (i + 1) = some (.inl v140) := (e153 396 (i + 1) (by first | decide | omega)).trans k51
      have k57 : ai_hv t153 389 1 = some (.inl m46) := (e153 389 1 (by first | decide | omega)).trans k52
      have s153 : px_S t153 a148 f148 := ⟨g153, (e153 383 7 (by first | decide | omega)).trans s148.2.1, (e153 383 8 (by first | decide | omega)).trans s148.2.2.1, s148.2.2.2⟩
      refine ex_go (S := (95, [(0, gx_r 383), (1, .inl w), (2, .inl i)], [], t153, n, 0)) rfl (fun _ => rfl) rfl ?_
      refine ex_ret (r := (none, t153, n, 0)) rfl (fun _ => rfl) ?_
      exfalso; omega
end PK8
