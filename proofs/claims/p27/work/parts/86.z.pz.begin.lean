section SZB
theorem pe_crewOf (d n : Nat) {t0 : en_H} {c w v : Nat} (g0 : ai_HG ah_G t0) (hc : c ≤ 1) (hw : w ≤ 2) (k : ai_hv t0 389 (118 + 3 * c + w) = some (.inl v)) : ∃ r, en_u (d + 1) 29 [gx_r 383, .inl c, .inl w] t0 n = some r ∧ r = (some (.inl v), t0, n, 0) := by
  refine en_u_ex rfl ?_
  show en_ex _ _ _ _ (0, [(0, gx_r 383), (1, .inl c), (2, .inl w)], [], t0, n, 0) _
  refine ex_go (S := (1, [(0, gx_r 383), (1, .inl c), (2, .inl w)], [gx_r 383], t0, n, 0)) rfl (fun _ => rfl) rfl ?_
  refine gx_ref (c := 389) rfl g0 rfl rfl rfl rfl ?_
  refine ex_go (S := (6, [(0, gx_r 383), (1, .inl c), (2, .inl w)], [.inl 118, gx_r 389], t0, n, 0)) rfl (fun _ => rfl) rfl ?_
  refine ex_go (S := (7, [(0, gx_r 383), (1, .inl c), (2, .inl w)], [.inl 3, .inl 118, gx_r 389], t0, n, 0)) rfl (fun _ => rfl) rfl ?_
  refine ex_go (S := (8, [(0, gx_r 383), (1, .inl c), (2, .inl w)], [.inl c, .inl 3, .inl 118, gx_r 389], t0, n, 0)) rfl (fun _ => rfl) rfl ?_
  refine gx_imul rfl (by first | decide | omega) rfl ?_
  refine ex_iadd rfl (by first | decide | omega) rfl ?_
  refine ex_go (S := (11, [(0, gx_r 383), (1, .inl c), (2, .inl w)], [.inl w, .inl (118 + (3 * c)), gx_r 389], t0, n, 0)) rfl (fun _ => rfl) rfl ?_
  refine ex_iadd rfl (by first | decide | omega) rfl ?_
  refine gx_ag (v := .inl v) (cb := fun c => Nat.beq c 0) rfl (fun _ => rfl) g0 rfl rfl k (by first | decide | omega) rfl ?_
  refine ex_ret (r := (some (.inl v), t0, n, 0)) rfl (fun _ => rfl) ?_
  exact ⟨_, rfl, rfl⟩
set_option maxRecDepth 100000 in
theorem pe_starts0 (d n : Nat) {t0 : en_H} (g0 : ai_HG ah_G t0) {X Y B : Nat → Nat} (kX : ∀ i, i < 6 → ai_hv t0 389 (77 + 3 * i) = some (.inl (X i))) (kY : ∀ i, i < 6 → ai_hv t0 389 (78 + 3 * i) = some (.inl (Y i))) (kB : ∀ c, c < 2 → ai_hv t0 389 (120 + 3 * c) = some (.inl (B c))) (hX : ∀ i, i < 6 → X i ≤ 7) (hY : ∀ i, i < 6 → Y i ≤ 7) (hB : ∀ c, c < 2 → B c ≤ 9999) : ∃ r, en_u (d + 2) 28 [gx_r 383, .inl 0] t0 n = some r ∧ ∃ t', r = (none, t', n, 0) ∧ ai_HG ah_G t' ∧ (∀ c i, ¬ (c = 399 ∧ 0 ≤ i ∧ i < 17) → ai_hv t' c i = ai_hv t0 c i) ∧ ai_hv t' 399 0 = some (.inl 0) ∧ (∀ i, i < 6 → ai_hv t' 399 (1 + i) = some (.inl (X i + 8 * Y i))) ∧ (∀ c, c < 2 → ai_hv t' 399 (7 + c) = some (.inl (B c))) ∧ (∀ j, j < 8 → ai_hv t' 399 (9 + j) = some (.inl 0)) := by
  refine en_u_ex (d := d + 1) rfl ?_
  show en_ex _ _ _ _ (0, [(0, gx_r 383), (1, .inl 0)], [], t0, n, 0) _
  have x0 : ai_hv t0 389 77 = some (.inl (X 0)) := kX 0 (by first | decide | omega)
  have y0 : ai_hv t0 389 78 = some (.inl (Y 0)) := kY 0 (by first | decide | omega)
  have hx0 := hX 0 (by first | decide | omega)
  have hy0 := hY 0 (by first | decide | omega)
  have x1 : ai_hv t0 389 80 = some (.inl (X 1)) := kX 1 (by first | decide | omega)
  have y1 : ai_hv t0 389 81 = some (.inl (Y 1)) := kY 1 (by first | decide | omega)
  have hx1 := hX 1 (by first | decide | omega)
  have hy1 := hY 1 (by first | decide | omega)
  have x2 : ai_hv t0 389 83 = some (.inl (X 2)) := kX 2 (by first | decide | omega)
  have y2 : ai_hv t0 389 84 = some (.inl (Y 2)) := kY 2 (by first | decide | omega)
  have hx2 := hX 2 (by first | decide | omega)
  have hy2 := hY 2 (by first | decide | omega)
  have x3 : ai_hv t0 389 86 = some (.inl (X 3)) := kX 3 (by first | decide | omega)
  have y3 : ai_hv t0 389 87 = some (.inl (Y 3)) := kY 3 (by first | decide | omega)
  have hx3 := hX 3 (by first | decide | omega)
  have hy3 := hY 3 (by first | decide | omega)
  have x4 : ai_hv t0 389 89 = some (.inl (X 4)) := kX 4 (by first | decide | omega)
  have y4 : ai_hv t0 389 90 = some (.inl (Y 4)) := kY 4 (by first | decide | omega)
  have hx4 := hX 4 (by first | decide | omega)
  have hy4 := hY 4 (by first | decide | omega)
  have x5 : ai_hv t0 389 92 = some (.inl (X 5)) := kX 5 (by first | decide | omega)
  have y5 : ai_hv t0 389 93 = some (.inl (Y 5)) := kY 5 (by first | decide | omega)
  have hx5 := hX 5 (by first | decide | omega)
  have hy5 := hY 5 (by first | decide | omega)
  have hb0 := hB 0 (by first | decide | omega)
  have hb1 := hB 1 (by first | decide | omega)
  refine ex_go (S := (1, [(0, gx_r 383), (1, .inl 0)], [gx_r 383], t0, n, 0)) rfl (fun _ => rfl) rfl ?_
  refine gx_ref (c := 399) rfl g0 rfl rfl rfl rfl ?_
  refine ex_go (S := (5, [(0, gx_r 383), (1, .inl 0)], [.inl 0, gx_r 399], t0, n, 0)) rfl (fun _ => rfl) rfl ?_
  refine ex_go (S := (6, [(0, gx_r 383), (1, .inl 0)], [.inl 0, .inl 0, gx_r 399], t0, n, 0)) rfl (fun _ => rfl) rfl ?_
  refine ex_go (S := (7, [(0, gx_r 383), (1, .inl 0)], [.inl 0, gx_r 399], t0, n, 0)) rfl (fun _ => rfl) rfl ?_
  refine ex_go (S := (8, [(0, gx_r 383), (1, .inl 0)], [.inl 0, .inl 0, gx_r 399], t0, n, 0)) rfl (fun _ => rfl) rfl ?_
  refine gx_ap rfl (fun _ => rfl) g0 rfl rfl rfl (show 0 < 1035 from by omega) rfl (gx_full (by first | decide | omega)) rfl (fun t101 g101 k101 e101 => ?_)
  have k2 : ai_hv t101 389 77 = some (.inl (X 0)) := (e101 389 77 (by first | decide | omega)).trans x0
  have k3 : ai_hv t101 389 78 = some (.inl (Y 0)) := (e101 389 78 (by first | decide | omega)).trans y0
  have k4 : ai_hv t101 389 80 = some (.inl (X 1)) := (e101 389 80 (by first | decide | omega)).trans x1
  have k5 : ai_hv t101 389 81 = some (.inl (Y 1)) := (e101 389 81 (by first | decide | omega)).trans y1
  have k6 : ai_hv t101 389 83 = some (.inl (X 2)) := (e101 389 83 (by first | decide | omega)).trans x2
  have k7 : ai_hv t101 389 84 = some (.inl (Y 2)) := (e101 389 84 (by first | decide | omega)).trans y2
  have k8 : ai_hv t101 389 86 = some (.inl (X 3)) := (e101 389 86 (by first | decide | omega)).trans x3
  have k9 : ai_hv t101 389 87 = some (.inl (Y 3)) := (e101 389 87 (by first | decide | omega)).trans y3
  have k10 : ai_hv t101 389 89 = some (.inl (X 4)) := (e101 389 89 (by first | decide | omega)).trans x4
  have k11 : ai_hv t101 389 90 = some (.inl (Y 4)) := (e101 389 90 (by first | decide | omega)).trans y4
  have k12 : ai_hv t101 389 92 = some (.inl (X 5)) := (e101 389 92 (by first | decide | omega)).trans x5
  have k13 : ai_hv t101 389 93 = some (.inl (Y 5)) := (e101 389 93 (by first | decide | omega)).trans y5
  refine ex_go (S := (10, [(0, gx_r 383), (1, .inl 0)], [.inl 0], t101, n, 0)) rfl (fun _ => rfl) rfl ?_
  refine ex_go (S := (11, [(2, .inl 0), (0, gx_r 383), (1, .inl 0)], [], t101, n, 0)) rfl (fun _ => rfl) rfl ?_
  refine ex_go (S := (12, [(2, .inl 0), (0, gx_r 383), (1, .inl 0)], [.inl 0], t101, n, 0)) rfl (fun _ => rfl) rfl ?_
  refine ex_go (S := (14, [(2, .inl 0), (0, gx_r 383), (1, .inl 0)], [.inl 6, .inl 0], t101, n, 0)) rfl (fun _ => rfl) rfl ?_
  refine ex_go (S := (17, [(2, .inl 0), (0, gx_r 383), (1, .inl 0)], [], t101, n, 0)) rfl (fun _ => rfl) rfl ?_
  refine ex_go (S := (18, [(2, .inl 0), (0, gx_r 383), (1, .inl 0)], [gx_r 383], t101, n, 0)) rfl (fun _ => rfl) rfl ?_
  refine gx_ref (c := 399) rfl g101 rfl rfl rfl rfl ?_
  refine ex_go (S := (22, [(2, .inl 0), (0, gx_r 383), (1, .inl 0)], [.inl 0, gx_r 399], t101, n, 0)) rfl (fun _ => rfl) rfl ?_
  refine ex_go (S := (23, [(2, .inl 0), (0, gx_r 383), (1, .inl 0)], [.inl 1, .inl 0, gx_r 399], t101, n, 0)) rfl (fun _ => rfl) rfl ?_
  refine ex_go (S := (24, [(2, .inl 0), (0, gx_r 383), (1, .inl 0)], [.inl 1, gx_r 399], t101, n, 0)) rfl (fun _ => rfl) rfl ?_
  refine ex_go (S := (25, [(2, .inl 0), (0, gx_r 383), (1, .inl 0)], [.inl 0, .inl 1, gx_r 399], t101, n, 0)) rfl (fun _ => rfl) rfl ?_
  refine ex_go (S := (26, [(2, .inl 0), (0, gx_r 383), (1, .inl 0)], [.inl 1, gx_r 399], t101, n, 0)) rfl (fun _ => rfl) rfl ?_
  refine ex_go (S := (27, [(2, .inl 0), (0, gx_r 383), (1, .inl 0)], [gx_r 383, .inl 1, gx_r 399], t101, n, 0)) rfl (fun _ => rfl) rfl ?_
  refine gx_ref (c := 389) rfl g101 rfl rfl rfl rfl ?_
  refine ex_go (S := (32, [(2, .inl 0), (0, gx_r 383), (1, .inl 0)], [.inl 76, gx_r 389, .inl 1, gx_r 399], t101, n, 0)) rfl (fun _ => rfl) rfl ?_
  refine ex_go (S := (33, [(2, .inl 0), (0, gx_r 383), (1, .inl 0)], [.inl 3, .inl 76, gx_r 389, .inl 1, gx_r 399], t101, n, 0)) rfl (fun _ => rfl) rfl ?_
  refine ex_go (S := (34, [(2, .inl 0), (0, gx_r 383), (1, .inl 0)], [.inl 0, .inl 3, .inl 76, gx_r 389, .inl 1, gx_r 399], t101, n, 0)) rfl (fun _ => rfl) rfl ?_
  refine ex_go (S := (35, [(2, .inl 0), (0, gx_r 383), (1, .inl 0)], [.inl 0, .inl 76, gx_r 389, .inl 1, gx_r 399], t101, n, 0)) rfl (fun _ => rfl) rfl ?_
  refine ex_go (S := (36, [(2, .inl 0), (0, gx_r 383), (1, .inl 0)], [.inl 76, gx_r 389, .inl 1, gx_r 399], t101, n, 0)) rfl (fun _ => rfl) rfl ?_
  refine ex_go (S := (37, [(2, .inl 0), (0, gx_r 383), (1, .inl 0)], [.inl 1, .inl 76, gx_r 389, .inl 1, gx_r 399], t101, n, 0)) rfl (fun _ => rfl) rfl ?_
  refine ex_go (S := (38, [(2, .inl 0), (0, gx_r 383), (1, .inl 0)], [.inl 77, gx_r 389, .inl 1, gx_r 399], t101, n, 0)) rfl (fun _ => rfl) rfl ?_
  refine gx_ag (v := .inl (X 0)) (cb := fun c => Nat.beq c 0) rfl (fun _ => rfl) g101 rfl rfl k2 (by first | decide | omega) rfl ?_
  refine ex_go (S := (41, [(2, .inl 0), (0, gx_r 383), (1, .inl 0)], [.inl 8, .inl (X 0), .inl 1, gx_r 399], t101, n, 0)) rfl (fun _ => rfl) rfl ?_
  refine ex_go (S := (42, [(2, .inl 0), (0, gx_r 383), (1, .inl 0)], [gx_r 383, .inl 8, .inl (X 0), .inl 1, gx_r 399], t101, n, 0)) rfl (fun _ => rfl) rfl ?_
  refine gx_ref (c := 389) rfl g101 rfl rfl rfl rfl ?_
  refine ex_go (S := (47, [(2, .inl 0), (0, gx_r 383), (1, .inl 0)], [.inl 76, gx_r 389, .inl 8, .inl (X 0), .inl 1, gx_r 399], t101, n, 0)) rfl (fun _ => rfl) rfl ?_
  refine ex_go (S := (48, [(2, .inl 0), (0, gx_r 383), (1, .inl 0)], [.inl 3, .inl 76, gx_r 389, .inl 8, .inl (X 0), .inl 1, gx_r 399], t101, n, 0)) rfl (fun _ => rfl) rfl ?_
  refine ex_go (S := (49, [(2, .inl 0), (0, gx_r 383), (1, .inl 0)], [.inl 0, .inl 3, .inl 76, gx_r 389, .inl 8, .inl (X 0), .inl 1, gx_r 399], t101, n, 0)) rfl (fun _ => rfl) rfl ?_
  refine ex_go (S := (50, [(2, .inl 0), (0, gx_r 383), (1, .inl 0)], [.inl 0, .inl 76, gx_r 389, .inl 8, .inl (X 0), .inl 1, gx_r 399], t101, n, 0)) rfl (fun _ => rfl) rfl ?_
  refine ex_go (S := (51, [(2, .inl 0), (0, gx_r 383), (1, .inl 0)], [.inl 76, gx_r 389, .inl 8, .inl (X 0), .inl 1, gx_r 399], t101, n, 0)) rfl (fun _ => rfl) rfl ?_
  refine ex_go (S := (52, [(2, .inl 0), (0, gx_r 383), (1, .inl 0)], [.inl 2, .inl 76, gx_r 389, .inl 8, .inl (X 0), .inl 1, gx_r 399], t101, n, 0)) rfl (fun _ => rfl) rfl ?_
  refine ex_go (S := (53, [(2, .inl 0), (0, gx_r 383), (1, .inl 0)], [.inl 78, gx_r 389, .inl 8, .inl (X 0), .inl 1, gx_r 399], t101, n, 0)) rfl (fun _ => rfl) rfl ?_
  refine gx_ag (v := .inl (Y 0)) (cb := fun c => Nat.beq c 0) rfl (fun _ => rfl) g101 rfl rfl k3 (by first | decide | omega) rfl ?_
  refine gx_imul rfl (by first | decide | omega) rfl ?_
  refine ex_iadd rfl (by first | decide | omega) rfl ?_
  refine gx_ap rfl (fun _ => rfl) g101 rfl rfl rfl (show 1 < 1035 from by omega) rfl (ai_in_h (by first | decide | omega) (by first | decide | omega) (by first | decide | omega)) rfl (fun t114 g114 k114 e114 => ?_)
  have k15 : ai_hv t114 389 77 = some (.inl (X 0)) := (e114 389 77 (by first | decide | omega)).trans k2
  have k16 : ai_hv t114 389 78 = some (.inl (Y 0)) := (e114 389 78 (by first | decide | omega)).trans k3
  have k17 : ai_hv t114 389 80 = some (.inl (X 1)) := (e114 389 80 (by first | decide | omega)).trans k4
  have k18 : ai_hv t114 389 81 = some (.inl (Y 1)) := (e114 389 81 (by first | decide | omega)).trans k5
  have k19 : ai_hv t114 389 83 = some (.inl (X 2)) := (e114 389 83 (by first | decide | omega)).trans k6
  have k20 : ai_hv t114 389 84 = some (.inl (Y 2)) := (e114 389 84 (by first | decide | omega)).trans k7
  have k21 : ai_hv t114 389 86 = some (.inl (X 3)) := (e114 389 86 (by first | decide | omega)).trans k8
  have k22 : ai_hv t114 389 87 = some (.inl (Y 3)) := (e114 389 87 (by first | decide | omega)).trans k9
  have k23 : ai_hv t114 389 89 = some (.inl (X 4)) := (e114 389 89 (by first | decide | omega)).trans k10
  have k24 : ai_hv t114 389 90 = some (.inl (Y 4)) := (e114 389 90 (by first | decide | omega)).trans k11
  have k25 : ai_hv t114 389 92 = some (.inl (X 5)) := (e114 389 92 (by first | decide | omega)).trans k12
  have k26 : ai_hv t114 389 93 = some (.inl (Y 5)) := (e114 389 93 (by first | decide | omega)).trans k13
  have k27 : ai_hv t114 399 0 = some (.inl 0) := (e114 399 0 (by first | decide | omega)).trans k101
  refine ex_go (S := (60, [(2, .inl 1), (0, gx_r 383), (1, .inl 0)], [], t114, n, 0)) rfl (fun _ => rfl) rfl ?_
  refine ex_go (S := (11, [(2, .inl 1), (0, gx_r 383), (1, .inl 0)], [], t114, n, 0)) rfl (fun _ => rfl) rfl ?_
  refine ex_go (S := (12, [(2, .inl 1), (0, gx_r 383), (1, .inl 0)], [.inl 1], t114, n, 0)) rfl (fun _ => rfl) rfl ?_
  refine ex_go (S := (14, [(2, .inl 1), (0, gx_r 383), (1, .inl 0)], [.inl 6, .inl 1], t114, n, 0)) rfl (fun _ => rfl) rfl ?_
  refine ex_go (S := (17, [(2, .inl 1), (0, gx_r 383), (1, .inl 0)], [], t114, n, 0)) rfl (fun _ => rfl) rfl ?_
  refine ex_go (S := (18, [(2, .inl 1), (0, gx_r 383), (1, .inl 0)], [gx_r 383], t114, n, 0)) rfl (fun _ => rfl) rfl ?_
  refine gx_ref (c := 399) rfl g114 rfl rfl rfl rfl ?_
  refine ex_go (S := (22, [(2, .inl 1), (0, gx_r 383), (1, .inl 0)], [.inl 0, gx_r 399], t114, n, 0)) rfl (fun _ => rfl) rfl ?_
  refine ex_go (S := (23, [(2, .inl 1), (0, gx_r 383), (1, .inl 0)], [.inl 1, .inl 0, gx_r 399], t114, n, 0)) rfl (fun _ => rfl) rfl ?_
  refine ex_go (S := (24, [(2, .inl 1), (0, gx_r 383), (1, .inl 0)], [.inl 1, gx_r 399], t114, n, 0)) rfl (fun _ => rfl) rfl ?_
  refine ex_go (S := (25, [(2, .inl 1), (0, gx_r 383), (1, .inl 0)], [.inl 1, .inl 1, gx_r 399], t114, n, 0)) rfl (fun _ => rfl) rfl ?_
  refine ex_go (S := (26, [(2, .inl 1), (0, gx_r 383), (1, .inl 0)], [.inl 2, gx_r 399], t114, n, 0)) rfl (fun _ => rfl) rfl ?_
  refine ex_go (S := (27, [(2, .inl 1), (0, gx_r 383), (1, .inl 0)], [gx_r 383, .inl 2, gx_r 399], t114, n, 0)) rfl (fun _ => rfl) rfl ?_
  refine gx_ref (c := 389) rfl g114 rfl rfl rfl rfl ?_
  refine ex_go (S := (32, [(2, .inl 1), (0, gx_r 383), (1, .inl 0)], [.inl 76, gx_r 389, .inl 2, gx_r 399], t114, n, 0)) rfl (fun _ => rfl) rfl ?_
  refine ex_go (S := (33, [(2, .inl 1), (0, gx_r 383), (1, .inl 0)], [.inl 3, .inl 76, gx_r 389, .inl 2, gx_r 399], t114, n, 0)) rfl (fun _ => rfl) rfl ?_
  refine ex_go (S := (34, [(2, .inl 1), (0, gx_r 383), (1, .inl 0)], [.inl 1, .inl 3, .inl 76, gx_r 389, .inl 2, gx_r 399], t114, n, 0)) rfl (fun _ => rfl) rfl ?_
  refine ex_go (S := (35, [(2, .inl 1), (0, gx_r 383), (1, .inl 0)], [.inl 3, .inl 76, gx_r 389, .inl 2, gx_r 399], t114, n, 0)) rfl (fun _ => rfl) rfl ?_
  refine ex_go (S := (36, [(2, .inl 1), (0, gx_r 383), (1, .inl 0)], [.inl 79, gx_r 389, .inl 2, gx_r 399], t114, n, 0)) rfl (fun _ => rfl) rfl ?_
  refine ex_go (S := (37, [(2, .inl 1), (0, gx_r 383), (1, .inl 0)], [.inl 1, .inl 79, gx_r 389, .inl 2, gx_r 399], t114, n, 0)) rfl (fun _ => rfl) rfl ?_
  refine ex_go (S := (38, [(2, .inl 1), (0, gx_r 383), (1, .inl 0)], [.inl 80, gx_r 389, .inl 2, gx_r 399], t114, n, 0)) rfl (fun _ => rfl) rfl ?_
  refine gx_ag (v := .inl (X 1)) (cb := fun c => Nat.beq c 0) rfl (fun _ => rfl) g114 rfl rfl k17 (by first | decide | omega) rfl ?_
  refine ex_go (S := (41, [(2, .inl 1), (0, gx_r 383), (1, .inl 0)], [.inl 8, .inl (X 1), .inl 2, gx_r 399], t114, n, 0)) rfl (fun _ => rfl) rfl ?_
  refine ex_go (S := (42, [(2, .inl 1), (0, gx_r 383), (1, .inl 0)], [gx_r 383, .inl 8, .inl (X 1), .inl 2, gx_r 399], t114, n, 0)) rfl (fun _ => rfl) rfl ?_
  refine gx_ref (c := 389) rfl g114 rfl rfl rfl rfl ?_
  refine ex_go (S := (47, [(2, .inl 1), (0, gx_r 383), (1, .inl 0)], [.inl 76, gx_r 389, .inl 8, .inl (X 1), .inl 2, gx_r 399], t114, n, 0)) rfl (fun _ => rfl) rfl ?_
  refine ex_go (S := (48, [(2, .inl 1), (0, gx_r 383), (1, .inl 0)], [.inl 3, .inl 76, gx_r 389, .inl 8, .inl (X 1), .inl 2, gx_r 399], t114, n, 0)) rfl (fun _ => rfl) rfl ?_
  refine ex_go (S := (49, [(2, .inl 1), (0, gx_r 383), (1, .inl 0)], [.inl 1, .inl 3, .inl 76, gx_r 389, .inl 8, .inl (X 1), .inl 2, gx_r 399], t114, n, 0)) rfl (fun _ => rfl) rfl ?_
  refine ex_go (S := (50, [(2, .inl 1), (0, gx_r 383), (1, .inl 0)], [.inl 3, .inl 76, gx_r 389, .inl 8, .inl (X 1), .inl 2, gx_r 399], t114, n, 0)) rfl (fun _ => rfl) rfl ?_
  refine ex_go (S := (51, [(2, .inl 1), (0, gx_r 383), (1, .inl 0)], [.inl 79, gx_r 389, .inl 8, .inl (X 1), .inl 2, gx_r 399], t114, n, 0)) rfl (fun _ => rfl) rfl ?_
  refine ex_go (S := (52, [(2, .inl 1), (0, gx_r 383), (1, .inl 0)], [.inl 2, .inl 79, gx_r 389, .inl 8, .inl (X 1), .inl 2, gx_r 399], t114, n, 0)) rfl (fun _ => rfl) rfl ?_
  refine ex_go (S := (53, [(2, .inl 1), (0, gx_r 383), (1, .inl 0)], [.inl 81, gx_r 389, .inl 8, .inl (X 1), .inl 2, gx_r 399], t114, n, 0)) rfl (fun _ => rfl) rfl ?_
  refine gx_ag (v := .inl (Y 1)) (cb := fun c => Nat.beq c 0) rfl (fun _ => rfl) g114 rfl rfl k18 (by first | decide | omega) rfl ?_
  refine gx_imul rfl (by first | decide | omega) rfl ?_
  refine ex_iadd rfl (by first | decide | omega) rfl ?_
  refine gx_ap rfl (fun _ => rfl) g114 rfl rfl rfl (show 2 < 1035 from by omega) rfl (ai_in_h (by first | decide | omega) (by first | decide | omega) (by first | decide | omega)) rfl (fun t128 g128 k128 e128 => ?_)
  have k29 : ai_hv t128 389 77 = some (.inl (X 0)) := (e128 389 77 (by first | decide | omega)).trans k15
  have k30 : ai_hv t128 389 78 = some (.inl (Y 0)) := (e128 389 78 (by first | decide | omega)).trans k16
  have k31 : ai_hv t128 389 80 = some (.inl (X 1)) := (e128 389 80 (by first | decide | omega)).trans k17
  have k32 : ai_hv t128 389 81 = some (.inl (Y 1)) := (e128 389 81 (by first | decide | omega)).trans k18
  have k33 : ai_hv t128 389 83 = some (.inl (X 2)) := (e128 389 83 (by first | decide | omega)).trans k19
  have k34 : ai_hv t128 389 84 = some (.inl (Y 2)) := (e128 389 84 (by first | decide | omega)).trans k20
  have k35 : ai_hv t128 389 86 = some (.inl (X 3)) := (e128 389 86 (by first | decide | omega)).trans k21
  have k36 : ai_hv t128 389 87 = some (.inl (Y 3)) := (e128 389 87 (by first | decide | omega)).trans k22
  have k37 : ai_hv t128 389 89 = some (.inl (X 4)) := (e128 389 89 (by first | decide | omega)).trans k23
  have k38 : ai_hv t128 389 90 = some (.inl (Y 4)) := (e128 389 90 (by first | decide | omega)).trans k24
  have k39 : ai_hv t128 389 92 = some (.inl (X 5)) := (e128 389 92 (by first | decide | omega)).trans k25
  have k40 : ai_hv t128 389 93 = some (.inl (Y 5)) := (e128 389 93 (by first | decide | omega)).trans k26
  have k41 : ai_hv t128 399 0 = some (.inl 0) := (e128 399 0 (by first | decide | omega)).trans k27
  have k42 : ai_hv t128 399 1 = some (.inl ((X 0) + (8 * (Y 0)))) := (e128 399 1 (by first | decide | omega)).trans k114
  refine ex_go (S := (60, [(2, .inl 2), (0, gx_r 383), (1, .inl 0)], [], t128, n, 0)) rfl (fun _ => rfl) rfl ?_
  refine ex_go (S := (11, [(2, .inl 2), (0, gx_r 383), (1, .inl 0)], [], t128, n, 0)) rfl (fun _ => rfl) rfl ?_
  refine ex_go (S := (12, [(2, .inl 2), (0, gx_r 383), (1, .inl 0)], [.inl 2], t128, n, 0)) rfl (fun _ => rfl) rfl ?_
  refine ex_go (S := (14, [(2, .inl 2), (0, gx_r 383), (1, .inl 0)], [.inl 6, .inl 2], t128, n, 0)) rfl (fun _ => rfl) rfl ?_
  refine ex_go (S := (17, [(2, .inl 2), (0, gx_r 383), (1, .inl 0)], [], t128, n, 0)) rfl (fun _ => rfl) rfl ?_
  refine ex_go (S := (18, [(2, .inl 2), (0, gx_r 383), (1, .inl 0)], [gx_r 383], t128, n, 0)) rfl (fun _ => rfl) rfl ?_
  refine gx_ref (c := 399) rfl g128 rfl rfl rfl rfl ?_
  refine ex_go (S := (22, [(2, .inl 2), (0, gx_r 383), (1, .inl 0)], [.inl 0, gx_r 399], t128, n, 0)) rfl (fun _ => rfl) rfl ?_
  refine ex_go (S := (23, [(2, .inl 2), (0, gx_r 383), (1, .inl 0)], [.inl 1, .inl 0, gx_r 399], t128, n, 0)) rfl (fun _ => rfl) rfl ?_
  refine ex_go (S := (24, [(2, .inl 2), (0, gx_r 383), (1, .inl 0)], [.inl 1, gx_r 399], t128, n, 0)) rfl (fun _ => rfl) rfl ?_
  refine ex_go (S := (25, [(2, .inl 2), (0, gx_r 383), (1, .inl 0)], [.inl 2, .inl 1, gx_r 399], t128, n, 0)) rfl (fun _ => rfl) rfl ?_
  refine ex_go (S := (26, [(2, .inl 2), (0, gx_r 383), (1, .inl 0)], [.inl 3, gx_r 399], t128, n, 0)) rfl (fun _ => rfl) rfl ?_
  refine ex_go (S := (27, [(2, .inl 2), (0, gx_r 383), (1, .inl 0)], [gx_r 383, .inl 3, gx_r 399], t128, n, 0)) rfl (fun _ => rfl) rfl ?_
  refine gx_ref (c := 389) rfl g128 rfl rfl rfl rfl ?_
  refine ex_go (S := (32, [(2, .inl 2), (0, gx_r 383), (1, .inl 0)], [.inl 76, gx_r 389, .inl 3, gx_r 399], t128, n, 0)) rfl (fun _ => rfl) rfl ?_
  refine ex_go (S := (33, [(2, .inl 2), (0, gx_r 383), (1, .inl 0)], [.inl 3, .inl 76, gx_r 389, .inl 3, gx_r 399], t128, n, 0)) rfl (fun _ => rfl) rfl ?_
  refine ex_go (S := (34, [(2, .inl 2), (0, gx_r 383), (1, .inl 0)], [.inl 2, .inl 3, .inl 76, gx_r 389, .inl 3, gx_r 399], t128, n, 0)) rfl (fun _ => rfl) rfl ?_
  refine ex_go (S := (35, [(2, .inl 2), (0, gx_r 383), (1, .inl 0)], [.inl 6, .inl 76, gx_r 389, .inl 3, gx_r 399], t128, n, 0)) rfl (fun _ => rfl) rfl ?_
  refine ex_go (S := (36, [(2, .inl 2), (0, gx_r 383), (1, .inl 0)], [.inl 82, gx_r 389, .inl 3, gx_r 399], t128, n, 0)) rfl (fun _ => rfl) rfl ?_
  refine ex_go (S := (37, [(2, .inl 2), (0, gx_r 383), (1, .inl 0)], [.inl 1, .inl 82, gx_r 389, .inl 3, gx_r 399], t128, n, 0)) rfl (fun _ => rfl) rfl ?_
  refine ex_go (S := (38, [(2, .inl 2), (0, gx_r 383), (1, .inl 0)], [.inl 83, gx_r 389, .inl 3, gx_r 399], t128, n, 0)) rfl (fun _ => rfl) rfl ?_
  refine gx_ag (v := .inl (X 2)) (cb := fun c => Nat.beq c 0) rfl (fun _ => rfl) g128 rfl rfl k33 (by first | decide | omega) rfl ?_
  refine ex_go (S := (41, [(2, .inl 2), (0, gx_r 383), (1, .inl 0)], [.inl 8, .inl (X 2), .inl 3, gx_r 399], t128, n, 0)) rfl (fun _ => rfl) rfl ?_
  refine ex_go (S := (42, [(2, .inl 2), (0, gx_r 383), (1, .inl 0)], [gx_r 383, .inl 8, .inl (X 2), .inl 3, gx_r 399], t128, n, 0)) rfl (fun _ => rfl) rfl ?_
  refine gx_ref (c := 389) rfl g128 rfl rfl rfl rfl ?_
  refine ex_go (S := (47, [(2, .inl 2), (0, gx_r 383), (1, .inl 0)], [.inl 76, gx_r 389, .inl 8, .inl (X 2), .inl 3, gx_r 399], t128, n, 0)) rfl (fun _ => rfl) rfl ?_
  refine ex_go (S := (48, [(2, .inl 2), (0, gx_r 383), (1, .inl 0)], [.inl 3, .inl 76, gx_r 389, .inl 8, .inl (X 2), .inl 3, gx_r 399], t128, n, 0)) rfl (fun _ => rfl) rfl ?_
  refine ex_go (S := (49, [(2, .inl 2), (0, gx_r 383), (1, .inl 0)], [.inl 2, .inl 3, .inl 76, gx_r 389, .inl 8, .inl (X 2), .inl 3, gx_r 399], t128, n, 0)) rfl (fun _ => rfl) rfl ?_
  refine ex_go (S := (50, [(2, .inl 2), (0, gx_r 383), (1, .inl 0)], [.inl 6, .inl 76, gx_r 389, .inl 8, .inl (X 2), .inl 3, gx_r 399], t128, n, 0)) rfl (fun _ => rfl) rfl ?_
  refine ex_go (S := (51, [(2, .inl 2), (0, gx_r 383), (1, .inl 0)], [.inl 82, gx_r 389, .inl 8, .inl (X 2), .inl 3, gx_r 399], t128, n, 0)) rfl (fun _ => rfl) rfl ?_
  refine ex_go (S := (52, [(2, .inl 2), (0, gx_r 383), (1, .inl 0)], [.inl 2, .inl 82, gx_r 389, .inl 8, .inl (X 2), .inl 3, gx_r 399], t128, n, 0)) rfl (fun _ => rfl) rfl ?_
  refine ex_go (S := (53, [(2, .inl 2), (0, gx_r 383), (1, .inl 0)], [.inl 84, gx_r 389, .inl 8, .inl (X 2), .inl 3, gx_r 399], t128, n, 0)) rfl (fun _ => rfl) rfl ?_
  refine gx_ag (v := .inl (Y 2)) (cb := fun c => Nat.beq c 0) rfl (fun _ => rfl) g128 rfl rfl k34 (by first | decide | omega) rfl ?_
  refine gx_imul rfl (by first | decide | omega) rfl ?_
  refine ex_iadd rfl (by first | decide | omega) rfl ?_
  refine gx_ap rfl (fun _ => rfl) g128 rfl rfl rfl (show 3 < 1035 from by omega) rfl (ai_in_h (by first | decide | omega) (by first | decide | omega) (by first | decide | omega)) rfl (fun t143 g143 k143 e143 => ?_)
  have k44 : ai_hv t143 389 77 = some (.inl (X 0)) := (e143 389 77 (by first | decide | omega)).trans k29
  have k45 : ai_hv t143 389 78 = some (.inl (Y 0)) := (e143 389 78 (by first | decide | omega)).trans k30
  have k46 : ai_hv t143 389 80 = some (.inl (X 1)) := (e143 389 80 (by first | decide | omega)).trans k31
  have k47 : ai_hv t143 389 81 = some (.inl (Y 1)) := (e143 389 81 (by first | decide | omega)).trans k32
  have k48 : ai_hv t143 389 83 = some (.inl (X 2)) := (e143 389 83 (by first | decide | omega)).trans k33
  have k49 : ai_hv t143 389 84 = some (.inl (Y 2)) := (e143 389 84 (by first | decide | omega)).trans k34
  have k50 : ai_hv t143 389 86 = some (.inl (X 3)) := (e143 389 86 (by first | decide | omega)).trans k35
  have k51 : ai_hv t143 389 87 = some (.inl (Y 3)) := (e143 389 87 (by first | decide | omega)).trans k36
  have k52 : ai_hv t143 389 89 = some (.inl (X 4)) := (e143 389 89 (by first | decide | omega)).trans k37
  have k53 : ai_hv t143 389 90 = some (.inl (Y 4)) := (e143 389 90 (by first | decide | omega)).trans k38
  have k54 : ai_hv t143 389 92 = some (.inl (X 5)) := (e143 389 92 (by first | decide | omega)).trans k39
  have k55 : ai_hv t143 389 93 = some (.inl (Y 5)) := (e143 389 93 (by first | decide | omega)).trans k40
  have k56 : ai_hv t143 399 0 = some (.inl 0) := (e143 399 0 (by first | decide | omega)).trans k41
  have k57 : ai_hv t143 399 1 = some (.inl ((X 0) + (8 * (Y 0)))) := (e143 399 1 (by first | decide | omega)).trans k42
  have k58 : ai_hv t143 399 2 = some (.inl ((X 1) + (8 * (Y 1)))) := (e143 399 2 (by first | decide | omega)).trans k128
  refine ex_go (S := (60, [(2, .inl 3), (0, gx_r 383), (1, .inl 0)], [], t143, n, 0)) rfl (fun _ => rfl) rfl ?_
  refine ex_go (S := (11, [(2, .inl 3), (0, gx_r 383), (1, .inl 0)], [], t143, n, 0)) rfl (fun _ => rfl) rfl ?_
  refine ex_go (S := (12, [(2, .inl 3), (0, gx_r 383), (1, .inl 0)], [.inl 3], t143, n, 0)) rfl (fun _ => rfl) rfl ?_
  refine ex_go (S := (14, [(2, .inl 3), (0, gx_r 383), (1, .inl 0)], [.inl 6, .inl 3], t143, n, 0)) rfl (fun _ => rfl) rfl ?_
  refine ex_go (S := (17, [(2, .inl 3), (0, gx_r 383), (1, .inl 0)], [], t143, n, 0)) rfl (fun _ => rfl) rfl ?_
  refine ex_go (S := (18, [(2, .inl 3), (0, gx_r 383), (1, .inl 0)], [gx_r 383], t143, n, 0)) rfl (fun _ => rfl) rfl ?_
  refine gx_ref (c := 399) rfl g143 rfl rfl rfl rfl ?_
  refine ex_go (S := (22, [(2, .inl 3), (0, gx_r 383), (1, .inl 0)], [.inl 0, gx_r 399], t143, n, 0)) rfl (fun _ => rfl) rfl ?_
  refine ex_go (S := (23, [(2, .inl 3), (0, gx_r 383), (1, .inl 0)], [.inl 1, .inl 0, gx_r 399], t143, n, 0)) rfl (fun _ => rfl) rfl ?_
  refine ex_go (S := (24, [(2, .inl 3), (0, gx_r 383), (1, .inl 0)], [.inl 1, gx_r 399], t143, n, 0)) rfl (fun _ => rfl) rfl ?_
  refine ex_go (S := (25, [(2, .inl 3), (0, gx_r 383), (1, .inl 0)], [.inl 3, .inl 1, gx_r 399], t143, n, 0)) rfl (fun _ => rfl) rfl ?_
  refine ex_go (S := (26, [(2, .inl 3), (0, gx_r 383), (1, .inl 0)], [.inl 4, gx_r 399], t143, n, 0)) rfl (fun _ => rfl) rfl ?_
  refine ex_go (S := (27, [(2, .inl 3), (0, gx_r 383), (1, .inl 0)], [gx_r 383, .inl 4, gx_r 399], t143, n, 0)) rfl (fun _ => rfl) rfl ?_
  refine gx_ref (c := 389) rfl g143 rfl rfl rfl rfl ?_
  refine ex_go (S := (32, [(2, .inl 3), (0, gx_r 383), (1, .inl 0)], [.inl 76, gx_r 389, .inl 4, gx_r 399], t143, n, 0)) rfl (fun _ => rfl) rfl ?_
  refine ex_go (S := (33, [(2, .inl 3), (0, gx_r 383), (1, .inl 0)], [.inl 3, .inl 76, gx_r 389, .inl 4, gx_r 399], t143, n, 0)) rfl (fun _ => rfl) rfl ?_
  refine ex_go (S := (34, [(2, .inl 3), (0, gx_r 383), (1, .inl 0)], [.inl 3, .inl 3, .inl 76, gx_r 389, .inl 4, gx_r 399], t143, n, 0)) rfl (fun _ => rfl) rfl ?_
  refine ex_go (S := (35, [(2, .inl 3), (0, gx_r 383), (1, .inl 0)], [.inl 9, .inl 76, gx_r 389, .inl 4, gx_r 399], t143, n, 0)) rfl (fun _ => rfl) rfl ?_
  refine ex_go (S := (36, [(2, .inl 3), (0, gx_r 383), (1, .inl 0)], [.inl 85, gx_r 389, .inl 4, gx_r 399], t143, n, 0)) rfl (fun _ => rfl) rfl ?_
  refine ex_go (S := (37, [(2, .inl 3), (0, gx_r 383), (1, .inl 0)], [.inl 1, .inl 85, gx_r 389, .inl 4, gx_r 399], t143, n, 0)) rfl (fun _ => rfl) rfl ?_
  refine ex_go (S := (38, [(2, .inl 3), (0, gx_r 383), (1, .inl 0)], [.inl 86, gx_r 389, .inl 4, gx_r 399], t143, n, 0)) rfl (fun _ => rfl) rfl ?_
  refine gx_ag (v := .inl (X 3)) (cb := fun c => Nat.beq c 0) rfl (fun _ => rfl) g143 rfl rfl k50 (by first | decide | omega) rfl ?_
  refine ex_go (S := (41, [(2, .inl 3), (0, gx_r 383), (1, .inl 0)], [.inl 8, .inl (X 3), .inl 4, gx_r 399], t143, n, 0)) rfl (fun _ => rfl) rfl ?_
  refine ex_go (S := (42, [(2, .inl 3), (0, gx_r 383), (1, .inl 0)], [gx_r 383, .inl 8, .inl (X 3), .inl 4, gx_r 399], t143, n, 0)) rfl (fun _ => rfl) rfl ?_
  refine gx_ref (c := 389) rfl g143 rfl rfl rfl rfl ?_
  refine ex_go (S := (47, [(2, .inl 3), (0, gx_r 383), (1, .inl 0)], [.inl 76, gx_r 389, .inl 8, .inl (X 3), .inl 4, gx_r 399], t143, n, 0)) rfl (fun _ => rfl) rfl ?_
  refine ex_go (S := (48, [(2, .inl 3), (0, gx_r 383), (1, .inl 0)], [.inl 3, .inl 76, gx_r 389, .inl 8, .inl (X 3), .inl 4, gx_r 399], t143, n, 0)) rfl (fun _ => rfl) rfl ?_
  refine ex_go (S := (49, [(2, .inl 3), (0, gx_r 383), (1, .inl 0)], [.inl 3, .inl 3, .inl 76, gx_r 389, .inl 8, .inl (X 3), .inl 4, gx_r 399], t143, n, 0)) rfl (fun _ => rfl) rfl ?_
  refine ex_go (S := (50, [(2, .inl 3), (0, gx_r 383), (1, .inl 0)], [.inl 9, .inl 76, gx_r 389, .inl 8, .inl (X 3), .inl 4, gx_r 399], t143, n, 0)) rfl (fun _ => rfl) rfl ?_
  refine ex_go (S := (51, [(2, .inl 3), (0, gx_r 383), (1, .inl 0)], [.inl 85, gx_r 389, .inl 8, .inl (X 3), .inl 4, gx_r 399], t143, n, 0)) rfl (fun _ => rfl) rfl ?_
  refine ex_go (S := (52, [(2, .inl 3), (0, gx_r 383), (1, .inl 0)], [.inl 2, .inl 85, gx_r 389, .inl 8, .inl (X 3), .inl 4, gx_r 399], t143, n, 0)) rfl (fun _ => rfl) rfl ?_
  refine ex_go (S := (53, [(2, .inl 3), (0, gx_r 383), (1, .inl 0)], [.inl 87, gx_r 389, .inl 8, .inl (X 3), .inl 4, gx_r 399], t143, n, 0)) rfl (fun _ => rfl) rfl ?_
  refine gx_ag (v := .inl (Y 3)) (cb := fun c => Nat.beq c 0) rfl (fun _ => rfl) g143 rfl rfl k51 (by first | decide | omega) rfl ?_
  refine gx_imul rfl (by first | decide | omega) rfl ?_
  refine ex_iadd rfl (by first | decide | omega) rfl ?_
  refine gx_ap rfl (fun _ => rfl) g143 rfl rfl rfl (show 4 < 1035 from by omega) rfl (ai_in_h (by first | decide | omega) (by first | decide | omega) (by first | decide | omega)) rfl (fun t159 g159 k159 e159 => ?_)
  have k60 : ai_hv t159 389 77 = some (.inl (X 0)) := (e159 389 77 (by first | decide | omega)).trans k44
  have k61 : ai_hv t159 389 78 = some (.inl (Y 0)) := (e159 389 78 (by first | decide | omega)).trans k45
  have k62 : ai_hv t159 389 80 = some (.inl (X 1)) := (e159 389 80 (by first | decide | omega)).trans k46
  have k63 : ai_hv t159 389 81 = some (.inl (Y 1)) := (e159 389 81 (by first | decide | omega)).trans k47
  have k64 : ai_hv t159 389 83 = some (.inl (X 2)) := (e159 389 83 (by first | decide | omega)).trans k48
  have k65 : ai_hv t159 389 84 = some (.inl (Y 2)) := (e159 389 84 (by first | decide | omega)).trans k49
  have k66 : ai_hv t159 389 86 = some (.inl (X 3)) := (e159 389 86 (by first | decide | omega)).trans k50
  have k67 : ai_hv t159 389 87 = some (.inl (Y 3)) := (e159 389 87 (by first | decide | omega)).trans k51
  have k68 : ai_hv t159 389 89 = some (.inl (X 4)) := (e159 389 89 (by first | decide | omega)).trans k52
  have k69 : ai_hv t159 389 90 = some (.inl (Y 4)) := (e159 389 90 (by first | decide | omega)).trans k53
  have k70 : ai_hv t159 389 92 = some (.inl (X 5)) := (e159 389 92 (by first | decide | omega)).trans k54
  have k71 : ai_hv t159 389 93 = some (.inl (Y 5)) := (e159 389 93 (by first | decide | omega)).trans k55
  have k72 : ai_hv t159 399 0 = some (.inl 0) := (e159 399 0 (by first | decide | omega)).trans k56
  have k73 : ai_hv t159 399 1 = some (.inl ((X 0) + (8 * (Y 0)))) := (e159 399 1 (by first | decide | omega)).trans k57
  have k74 : ai_hv t159 399 2 = some (.inl ((X 1) + (8 * (Y 1)))) := (e159 399 2 (by first | decide | omega)).trans k58
  have k75 : ai_hv t159 399 3 = some (.inl ((X 2) + (8 * (Y 2)))) := (e159 399 3 (by first | decide | omega)).trans k143
  refine ex_go (S := (60, [(2, .inl 4), (0, gx_r 383), (1, .inl 0)], [], t159, n, 0)) rfl (fun _ => rfl) rfl ?_
  refine ex_go (S := (11, [(2, .inl 4), (0, gx_r 383), (1, .inl 0)], [], t159, n, 0)) rfl (fun _ => rfl) rfl ?_
  refine ex_go (S := (12, [(2, .inl 4), (0, gx_r 383), (1, .inl 0)], [.inl 4], t159, n, 0)) rfl (fun _ => rfl) rfl ?_
  refine ex_go (S := (14, [(2, .inl 4), (0, gx_r 383), (1, .inl 0)], [.inl 6, .inl 4], t159, n, 0)) rfl (fun _ => rfl) rfl ?_
  refine ex_go (S := (17, [(2, .inl 4), (0, gx_r 383), (1, .inl 0)], [], t159, n, 0)) rfl (fun _ => rfl) rfl ?_
  refine ex_go (S := (18, [(2, .inl 4), (0, gx_r 383), (1, .inl 0)], [gx_r 383], t159, n, 0)) rfl (fun _ => rfl) rfl ?_
  refine gx_ref (c := 399) rfl g159 rfl rfl rfl rfl ?_
  refine ex_go (S := (22, [(2, .inl 4), (0, gx_r 383), (1, .inl 0)], [.inl 0, gx_r 399], t159, n, 0)) rfl (fun _ => rfl) rfl ?_
  refine ex_go (S := (23, [(2, .inl 4), (0, gx_r 383), (1, .inl 0)], [.inl 1, .inl 0, gx_r 399], t159, n, 0)) rfl (fun _ => rfl) rfl ?_
  refine ex_go (S := (24, [(2, .inl 4), (0, gx_r 383), (1, .inl 0)], [.inl 1, gx_r 399], t159, n, 0)) rfl (fun _ => rfl) rfl ?_
  refine ex_go (S := (25, [(2, .inl 4), (0, gx_r 383), (1, .inl 0)], [.inl 4, .inl 1, gx_r 399], t159, n, 0)) rfl (fun _ => rfl) rfl ?_
  refine ex_go (S := (26, [(2, .inl 4), (0, gx_r 383), (1, .inl 0)], [.inl 5, gx_r 399], t159, n, 0)) rfl (fun _ => rfl) rfl ?_
  refine ex_go (S := (27, [(2, .inl 4), (0, gx_r 383), (1, .inl 0)], [gx_r 383, .inl 5, gx_r 399], t159, n, 0)) rfl (fun _ => rfl) rfl ?_
  refine gx_ref (c := 389) rfl g159 rfl rfl rfl rfl ?_
  refine ex_go (S := (32, [(2, .inl 4), (0, gx_r 383), (1, .inl 0)], [.inl 76, gx_r 389, .inl 5, gx_r 399], t159, n, 0)) rfl (fun _ => rfl) rfl ?_
  refine ex_go (S := (33, [(2, .inl 4), (0, gx_r 383), (1, .inl 0)], [.inl 3, .inl 76, gx_r 389, .inl 5, gx_r 399], t159, n, 0)) rfl (fun _ => rfl) rfl ?_
  refine ex_go (S := (34, [(2, .inl 4), (0, gx_r 383), (1, .inl 0)], [.inl 4, .inl 3, .inl 76, gx_r 389, .inl 5, gx_r 399], t159, n, 0)) rfl (fun _ => rfl) rfl ?_
  refine ex_go (S := (35, [(2, .inl 4), (0, gx_r 383), (1, .inl 0)], [.inl 12, .inl 76, gx_r 389, .inl 5, gx_r 399], t159, n, 0)) rfl (fun _ => rfl) rfl ?_
  refine ex_go (S := (36, [(2, .inl 4), (0, gx_r 383), (1, .inl 0)], [.inl 88, gx_r 389, .inl 5, gx_r 399], t159, n, 0)) rfl (fun _ => rfl) rfl ?_
  refine ex_go (S := (37, [(2, .inl 4), (0, gx_r 383), (1, .inl 0)], [.inl 1, .inl 88, gx_r 389, .inl 5, gx_r 399], t159, n, 0)) rfl (fun _ => rfl) rfl ?_
  refine ex_go (S := (38, [(2, .inl 4), (0, gx_r 383), (1, .inl 0)], [.inl 89, gx_r 389, .inl 5, gx_r 399], t159, n, 0)) rfl (fun _ => rfl) rfl ?_
  refine gx_ag (v := .inl (X 4)) (cb := fun c => Nat.beq c 0) rfl (fun _ => rfl) g159 rfl rfl k68 (by first | decide | omega) rfl ?_
  refine ex_go (S := (41, [(2, .inl 4), (0, gx_r 383), (1, .inl 0)], [.inl 8, .inl (X 4), .inl 5, gx_r 399], t159, n, 0)) rfl (fun _ => rfl) rfl ?_
  refine ex_go (S := (42, [(2, .inl 4), (0, gx_r 383), (1, .inl 0)], [gx_r 383, .inl 8, .inl (X 4), .inl 5, gx_r 399], t159, n, 0)) rfl (fun _ => rfl) rfl ?_
  refine gx_ref (c := 389) rfl g159 rfl rfl rfl rfl ?_
  refine ex_go (S := (47, [(2, .inl 4), (0, gx_r 383), (1, .inl 0)], [.inl 76, gx_r 389, .inl 8, .inl (X 4), .inl 5, gx_r 399], t159, n, 0)) rfl (fun _ => rfl) rfl ?_
  refine ex_go (S := (48, [(2, .inl 4), (0, gx_r 383), (1, .inl 0)], [.inl 3, .inl 76, gx_r 389, .inl 8, .inl (X 4), .inl 5, gx_r 399], t159, n, 0)) rfl (fun _ => rfl) rfl ?_
  refine ex_go (S := (49, [(2, .inl 4), (0, gx_r 383), (1, .inl 0)], [.inl 4, .inl 3, .inl 76, gx_r 389, .inl 8, .inl (X 4), .inl 5, gx_r 399], t159, n, 0)) rfl (fun _ => rfl) rfl ?_
  refine ex_go (S := (50, [(2, .inl 4), (0, gx_r 383), (1, .inl 0)], [.inl 12, .inl 76, gx_r 389, .inl 8, .inl (X 4), .inl 5, gx_r 399], t159, n, 0)) rfl (fun _ => rfl) rfl ?_
  refine ex_go (S := (51, [(2, .inl 4), (0, gx_r 383), (1, .inl 0)], [.inl 88, gx_r 389, .inl 8, .inl (X 4), .inl 5, gx_r 399], t159, n, 0)) rfl (fun _ => rfl) rfl ?_
  refine ex_go (S := (52, [(2, .inl 4), (0, gx_r 383), (1, .inl 0)], [.inl 2, .inl 88, gx_r 389, .inl 8, .inl (X 4), .inl 5, gx_r 399], t159, n, 0)) rfl (fun _ => rfl) rfl ?_
  refine ex_go (S := (53, [(2, .inl 4), (0, gx_r 383), (1, .inl 0)], [.inl 90, gx_r 389, .inl 8, .inl (X 4), .inl 5, gx_r 399], t159, n, 0)) rfl (fun _ => rfl) rfl ?_
  refine gx_ag (v := .inl (Y 4)) (cb := fun c => Nat.beq c 0) rfl (fun _ => rfl) g159 rfl rfl k69 (by first | decide | omega) rfl ?_
  refine gx_imul rfl (by first | decide | omega) rfl ?_
  refine ex_iadd rfl (by first | decide | omega) rfl ?_
  refine gx_ap rfl (fun _ => rfl) g159 rfl rfl rfl (show 5 < 1035 from by omega) rfl (ai_in_h (by first | decide | omega) (by first | decide | omega) (by first | decide | omega)) rfl (fun t176 g176 k176 e176 => ?_)
  have k77 : ai_hv t176 389 77 = some (.inl (X 0)) := (e176 389 77 (by first | decide | omega)).trans k60
  have k78 : ai_hv t176 389 78 = some (.inl (Y 0)) := (e176 389 78 (by first | decide | omega)).trans k61
  have k79 : ai_hv t176 389 80 = some (.inl (X 1)) := (e176 389 80 (by first | decide | omega)).trans k62
  have k80 : ai_hv t176 389 81 = some (.inl (Y 1)) := (e176 389 81 (by first | decide | omega)).trans k63
  have k81 : ai_hv t176 389 83 = some (.inl (X 2)) := (e176 389 83 (by first | decide | omega)).trans k64
  have k82 : ai_hv t176 389 84 = some (.inl (Y 2)) := (e176 389 84 (by first | decide | omega)).trans k65
  have k83 : ai_hv t176 389 86 = some (.inl (X 3)) := (e176 389 86 (by first | decide | omega)).trans k66
  have k84 : ai_hv t176 389 87 = some (.inl (Y 3)) := (e176 389 87 (by first | decide | omega)).trans k67
  have k85 : ai_hv t176 389 89 = some (.inl (X 4)) := (e176 389 89 (by first | decide | omega)).trans k68
  have k86 : ai_hv t176 389 90 = some (.inl (Y 4)) := (e176 389 90 (by first | decide | omega)).trans k69
  have k87 : ai_hv t176 389 92 = some (.inl (X 5)) := (e176 389 92 (by first | decide | omega)).trans k70
  have k88 : ai_hv t176 389 93 = some (.inl (Y 5)) := (e176 389 93 (by first | decide | omega)).trans k71
  have k89 : ai_hv t176 399 0 = some (.inl 0) := (e176 399 0 (by first | decide | omega)).trans k72
  have k90 : ai_hv t176 399 1 = some (.inl ((X 0) + (8 * (Y 0)))) := (e176 399 1 (by first | decide | omega)).trans k73
  have k91 : ai_hv t176 399 2 = some (.inl ((X 1) + (8 * (Y 1)))) := (e176 399 2 (by first | decide | omega)).trans k74
  have k92 : ai_hv t176 399 3 = some (.inl ((X 2) + (8 * (Y 2)))) := (e176 399 3 (by first | decide | omega)).trans k75
  have k93 : ai_hv t176 399 4 = some (.inl ((X 3) + (8 * (Y 3)))) := (e176 399 4 (by first | decide | omega)).trans k159
  refine ex_go (S := (60, [(2, .inl 5), (0, gx_r 383), (1, .inl 0)], [], t176, n, 0)) rfl (fun _ => rfl) rfl ?_
  refine ex_go (S := (11, [(2, .inl 5), (0, gx_r 383), (1, .inl 0)], [], t176, n, 0)) rfl (fun _ => rfl) rfl ?_
  refine ex_go (S := (12, [(2, .inl 5), (0, gx_r 383), (1, .inl 0)], [.inl 5], t176, n, 0)) rfl (fun _ => rfl) rfl ?_
  refine ex_go (S := (14, [(2, .inl 5), (0, gx_r 383), (1, .inl 0)], [.inl 6, .inl 5], t176, n, 0)) rfl (fun _ => rfl) rfl ?_
  refine ex_go (S := (17, [(2, .inl 5), (0, gx_r 383), (1, .inl 0)], [], t176, n, 0)) rfl (fun _ => rfl) rfl ?_
  refine ex_go (S := (18, [(2, .inl 5), (0, gx_r 383), (1, .inl 0)], [gx_r 383], t176, n, 0)) rfl (fun _ => rfl) rfl ?_
  refine gx_ref (c := 399) rfl g176 rfl rfl rfl rfl ?_
  refine ex_go (S := (22, [(2, .inl 5), (0, gx_r 383), (1, .inl 0)], [.inl 0, gx_r 399], t176, n, 0)) rfl (fun _ => rfl) rfl ?_
  refine ex_go (S := (23, [(2, .inl 5), (0, gx_r 383), (1, .inl 0)], [.inl 1, .inl 0, gx_r 399], t176, n, 0)) rfl (fun _ => rfl) rfl ?_
  refine ex_go (S := (24, [(2, .inl 5), (0, gx_r 383), (1, .inl 0)], [.inl 1, gx_r 399], t176, n, 0)) rfl (fun _ => rfl) rfl ?_
  refine ex_go (S := (25, [(2, .inl 5), (0, gx_r 383), (1, .inl 0)], [.inl 5, .inl 1, gx_r 399], t176, n, 0)) rfl (fun _ => rfl) rfl ?_
  refine ex_go (S := (26, [(2, .inl 5), (0, gx_r 383), (1, .inl 0)], [.inl 6, gx_r 399], t176, n, 0)) rfl (fun _ => rfl) rfl ?_
  refine ex_go (S := (27, [(2, .inl 5), (0, gx_r 383), (1, .inl 0)], [gx_r 383, .inl 6, gx_r 399], t176, n, 0)) rfl (fun _ => rfl) rfl ?_
  refine gx_ref (c := 389) rfl g176 rfl rfl rfl rfl ?_
  refine ex_go (S := (32, [(2, .inl 5), (0, gx_r 383), (1, .inl 0)], [.inl 76, gx_r 389, .inl 6, gx_r 399], t176, n, 0)) rfl (fun _ => rfl) rfl ?_
  refine ex_go (S := (33, [(2, .inl 5), (0, gx_r 383), (1, .inl 0)], [.inl 3, .inl 76, gx_r 389, .inl 6, gx_r 399], t176, n, 0)) rfl (fun _ => rfl) rfl ?_
  refine ex_go (S := (34, [(2, .inl 5), (0, gx_r 383), (1, .inl 0)], [.inl 5, .inl 3, .inl 76, gx_r 389, .inl 6, gx_r 399], t176, n, 0)) rfl (fun _ => rfl) rfl ?_
  refine ex_go (S := (35, [(2, .inl 5), (0, gx_r 383), (1, .inl 0)], [.inl 15, .inl 76, gx_r 389, .inl 6, gx_r 399], t176, n, 0)) rfl (fun _ => rfl) rfl ?_
  refine ex_go (S := (36, [(2, .inl 5), (0, gx_r 383), (1, .inl 0)], [.inl 91, gx_r 389, .inl 6, gx_r 399], t176, n, 0)) rfl (fun _ => rfl) rfl ?_
  refine ex_go (S := (37, [(2, .inl 5), (0, gx_r 383), (1, .inl 0)], [.inl 1, .inl 91, gx_r 389, .inl 6, gx_r 399], t176, n, 0)) rfl (fun _ => rfl) rfl ?_
  refine ex_go (S := (38, [(2, .inl 5), (0, gx_r 383), (1, .inl 0)], [.inl 92, gx_r 389, .inl 6, gx_r 399], t176, n, 0)) rfl (fun _ => rfl) rfl ?_
  refine gx_ag (v := .inl (X 5)) (cb := fun c => Nat.beq c 0) rfl (fun _ => rfl) g176 rfl rfl k87 (by first | decide | omega) rfl ?_
  refine ex_go (S := (41, [(2, .inl 5), (0, gx_r 383), (1, .inl 0)], [.inl 8, .inl (X 5), .inl 6, gx_r 399], t176, n, 0)) rfl (fun _ => rfl) rfl ?_
  refine ex_go (S := (42, [(2, .inl 5), (0, gx_r 383), (1, .inl 0)], [gx_r 383, .inl 8, .inl (X 5), .inl 6, gx_r 399], t176, n, 0)) rfl (fun _ => rfl) rfl ?_
  refine gx_ref (c := 389) rfl g176 rfl rfl rfl rfl ?_
  refine ex_go (S := (47, [(2, .inl 5), (0, gx_r 383), (1, .inl 0)], [.inl 76, gx_r 389, .inl 8, .inl (X 5), .inl 6, gx_r 399], t176, n, 0)) rfl (fun _ => rfl) rfl ?_
  refine ex_go (S := (48, [(2, .inl 5), (0, gx_r 383), (1, .inl 0)], [.inl 3, .inl 76, gx_r 389, .inl 8, .inl (X 5), .inl 6, gx_r 399], t176, n, 0)) rfl (fun _ => rfl) rfl ?_
  refine ex_go (S := (49, [(2, .inl 5), (0, gx_r 383), (1, .inl 0)], [.inl 5, .inl 3, .inl 76, gx_r 389, .inl 8, .inl (X 5), .inl 6, gx_r 399], t176, n, 0)) rfl (fun _ => rfl) rfl ?_
  refine ex_go (S := (50, [(2, .inl 5), (0, gx_r 383), (1, .inl 0)], [.inl 15, .inl 76, gx_r 389, .inl 8, .inl (X 5), .inl 6, gx_r 399], t176, n, 0)) rfl (fun _ => rfl) rfl ?_
  refine ex_go (S := (51, [(2, .inl 5), (0, gx_r 383), (1, .inl 0)], [.inl 91, gx_r 389, .inl 8, .inl (X 5), .inl 6, gx_r 399], t176, n, 0)) rfl (fun _ => rfl) rfl ?_
  refine ex_go (S := (52, [(2, .inl 5), (0, gx_r 383), (1, .inl 0)], [.inl 2, .inl 91, gx_r 389, .inl 8, .inl (X 5), .inl 6, gx_r 399], t176, n, 0)) rfl (fun _ => rfl) rfl ?_
  refine ex_go (S := (53, [(2, .inl 5), (0, gx_r 383), (1, .inl 0)], [.inl 93, gx_r 389, .inl 8, .inl (X 5), .inl 6, gx_r 399], t176, n, 0)) rfl (fun _ => rfl) rfl ?_
  refine gx_ag (v := .inl (Y 5)) (cb := fun c => Nat.beq c 0) rfl (fun _ => rfl) g176 rfl rfl k88 (by first | decide | omega) rfl ?_
  refine gx_imul rfl (by first | decide | omega) rfl ?_
  refine ex_iadd rfl (by first | decide | omega) rfl ?_
  refine gx_ap rfl (fun _ => rfl) g176 rfl rfl rfl (show 6 < 1035 from by omega) rfl (ai_in_h (by first | decide | omega) (by first | decide | omega) (by first | decide | omega)) rfl (fun t194 g194 k194 e194 => ?_)
  have k95 : ai_hv t194 389 77 = some (.inl (X 0)) := (e194 389 77 (by first | decide | omega)).trans k77
  have k96 : ai_hv t194 389 78 = some (.inl (Y 0)) := (e194 389 78 (by first | decide | omega)).trans k78
  have k97 : ai_hv t194 389 80 = some (.inl (X 1)) := (e194 389 80 (by first | decide | omega)).trans k79
  have k98 : ai_hv t194 389 81 = some (.inl (Y 1)) := (e194 389 81 (by first | decide | omega)).trans k80
  have k99 : ai_hv t194 389 83 = some (.inl (X 2)) := (e194 389 83 (by first | decide | omega)).trans k81
  have k100 : ai_hv t194 389 84 = some (.inl (Y 2)) := (e194 389 84 (by first | decide | omega)).trans k82
  have k101 : ai_hv t194 389 86 = some (.inl (X 3)) := (e194 389 86 (by first | decide | omega)).trans k83
  have k102 : ai_hv t194 389 87 = some (.inl (Y 3)) := (e194 389 87 (by first | decide | omega)).trans k84
  have k103 : ai_hv t194 389 89 = some (.inl (X 4)) := (e194 389 89 (by first | decide | omega)).trans k85
  have k104 : ai_hv t194 389 90 = some (.inl (Y 4)) := (e194 389 90 (by first | decide | omega)).trans k86
  have k105 : ai_hv t194 389 92 = some (.inl (X 5)) := (e194 389 92 (by first | decide | omega)).trans k87
  have k106 : ai_hv t194 389 93 = some (.inl (Y 5)) := (e194 389 93 (by first | decide | omega)).trans k88
  have k107 : ai_hv t194 399 0 = some (.inl 0) := (e194 399 0 (by first | decide | omega)).trans k89
  have k108 : ai_hv t194 399 1 = some (.inl ((X 0) + (8 * (Y 0)))) := (e194 399 1 (by first | decide | omega)).trans k90
  have k109 : ai_hv t194 399 2 = some (.inl ((X 1) + (8 * (Y 1)))) := (e194 399 2 (by first | decide | omega)).trans k91
  have k110 : ai_hv t194 399 3 = some (.inl ((X 2) + (8 * (Y 2)))) := (e194 399 3 (by first | decide | omega)).trans k92
  have k111 : ai_hv t194 399 4 = some (.inl ((X 3) + (8 * (Y 3)))) := (e194 399 4 (by first | decide | omega)).trans k93
  have k112 : ai_hv t194 399 5 = some (.inl ((X 4) + (8 * (Y 4)))) := (e194 399 5 (by first | decide | omega)).trans k176
  refine ex_go (S := (60, [(2, .inl 6), (0, gx_r 383), (1, .inl 0)], [], t194, n, 0)) rfl (fun _ => rfl) rfl ?_
  refine ex_go (S := (11, [(2, .inl 6), (0, gx_r 383), (1, .inl 0)], [], t194, n, 0)) rfl (fun _ => rfl) rfl ?_
  refine ex_go (S := (12, [(2, .inl 6), (0, gx_r 383), (1, .inl 0)], [.inl 6], t194, n, 0)) rfl (fun _ => rfl) rfl ?_
  refine ex_go (S := (14, [(2, .inl 6), (0, gx_r 383), (1, .inl 0)], [.inl 6, .inl 6], t194, n, 0)) rfl (fun _ => rfl) rfl ?_
  refine ex_go (S := (63, [(2, .inl 6), (0, gx_r 383), (1, .inl 0)], [], t194, n, 0)) rfl (fun _ => rfl) rfl ?_
  refine ex_go (S := (64, [(2, .inl 6), (0, gx_r 383), (1, .inl 0)], [.inl 0], t194, n, 0)) rfl (fun _ => rfl) rfl ?_
  refine ex_go (S := (65, [(2, .inl 0), (0, gx_r 383), (1, .inl 0)], [], t194, n, 0)) rfl (fun _ => rfl) rfl ?_
  refine ex_go (S := (66, [(2, .inl 0), (0, gx_r 383), (1, .inl 0)], [.inl 0], t194, n, 0)) rfl (fun _ => rfl) rfl ?_
  refine ex_go (S := (67, [(2, .inl 0), (0, gx_r 383), (1, .inl 0)], [.inl 2, .inl 0], t194, n, 0)) rfl (fun _ => rfl) rfl ?_
  refine ex_go (S := (70, [(2, .inl 0), (0, gx_r 383), (1, .inl 0)], [], t194, n, 0)) rfl (fun _ => rfl) rfl ?_
  refine ex_go (S := (71, [(2, .inl 0), (0, gx_r 383), (1, .inl 0)], [gx_r 383], t194, n, 0)) rfl (fun _ => rfl) rfl ?_
  refine gx_ref (c := 399) rfl g194 rfl rfl rfl rfl ?_
  refine ex_go (S := (75, [(2, .inl 0), (0, gx_r 383), (1, .inl 0)], [.inl 0, gx_r 399], t194, n, 0)) rfl (fun _ => rfl) rfl ?_
  refine ex_go (S := (77, [(2, .inl 0), (0, gx_r 383), (1, .inl 0)], [.inl 7, .inl 0, gx_r 399], t194, n, 0)) rfl (fun _ => rfl) rfl ?_
  refine ex_go (S := (78, [(2, .inl 0), (0, gx_r 383), (1, .inl 0)], [.inl 7, gx_r 399], t194, n, 0)) rfl (fun _ => rfl) rfl ?_
  refine ex_go (S := (79, [(2, .inl 0), (0, gx_r 383), (1, .inl 0)], [.inl 0, .inl 7, gx_r 399], t194, n, 0)) rfl (fun _ => rfl) rfl ?_
  refine ex_go (S := (80, [(2, .inl 0), (0, gx_r 383), (1, .inl 0)], [.inl 7, gx_r 399], t194, n, 0)) rfl (fun _ => rfl) rfl ?_
  refine ex_go (S := (81, [(2, .inl 0), (0, gx_r 383), (1, .inl 0)], [gx_r 383, .inl 7, gx_r 399], t194, n, 0)) rfl (fun _ => rfl) rfl ?_
  refine ex_go (S := (82, [(2, .inl 0), (0, gx_r 383), (1, .inl 0)], [.inl 0, gx_r 383, .inl 7, gx_r 399], t194, n, 0)) rfl (fun _ => rfl) rfl ?_
  refine ex_go (S := (83, [(2, .inl 0), (0, gx_r 383), (1, .inl 0)], [.inl 2, .inl 0, gx_r 383, .inl 7, gx_r 399], t194, n, 0)) rfl (fun _ => rfl) rfl ?_
  obtain ⟨_, r113, rfl⟩ := pe_crewOf d n (c := 0) (w := 2) g194 (by first | decide | omega) (by first | decide | omega) ((e194 389 120 (by first | decide | omega)).trans ((e176 389 120 (by first | decide | omega)).trans ((e159 389 120 (by first | decide | omega)).trans ((e143 389 120 (by first | decide | omega)).trans ((e128 389 120 (by first | decide | omega)).trans ((e114 389 120 (by first | decide | omega)).trans ((e101 389 120 (by first | decide | omega)).trans (kB 0 (by first | decide | omega)))))))))
  refine gx_call1 rfl rfl g194 rfl rfl r113 rfl ?_
  show en_ex _ _ _ _ (86, [(2, .inl 0), (0, gx_r 383), (1, .inl 0)], [.inl (B 0), .inl 7, gx_r 399], t194, n, 0) _
  refine gx_ap rfl (fun _ => rfl) g194 rfl rfl rfl (show 7 < 1035 from by omega) rfl (ai_in_h (by first | decide | omega) (by first | decide | omega) (by first | decide | omega)) rfl (fun t214 g214 k214 e214 => ?_)
  have k115 : ai_hv t214 389 77 = some (.inl (X 0)) := (e214 389 77 (by first | decide | omega)).trans k95
  have k116 : ai_hv t214 389 78 = some (.inl (Y 0)) := (e214 389 78 (by first | decide | omega)).trans k96
  have k117 : ai_hv t214 389 80 = some (.inl (X 1)) := (e214 389 80 (by first | decide | omega)).trans k97
  have k118 : ai_hv t214 389 81 = some (.inl (Y 1)) := (e214 389 81 (by first | decide | omega)).trans k98
  have k119 : ai_hv t214 389 83 = some (.inl (X 2)) := (e214 389 83 (by first | decide | omega)).trans k99
  have k120 : ai_hv t214 389 84 = some (.inl (Y 2)) := (e214 389 84 (by first | decide | omega)).trans k100
  have k121 : ai_hv t214 389 86 = some (.inl (X 3)) := (e214 389 86 (by first | decide | omega)).trans k101
  have k122 : ai_hv t214 389 87 = some (.inl (Y 3)) := (e214 389 87 (by first | decide | omega)).trans k102
  have k123 : ai_hv t214 389 89 = some (.inl (X 4)) := (e214 389 89 (by first | decide | omega)).trans k103
  have k124 : ai_hv t214 389 90 = some (.inl (Y 4)) := (e214 389 90 (by first | decide | omega)).trans k104
  have k125 : ai_hv t214 389 92 = some (.inl (X 5)) := (e214 389 92 (by first | decide | omega)).trans k105
  have k126 : ai_hv t214 389 93 = some (.inl (Y 5)) := (e214 389 93 (by first | decide | omega)).trans k106
  have k127 : ai_hv t214 399 0 = some (.inl 0) := (e214 399 0 (by first | decide | omega)).trans k107
  have k128 : ai_hv t214 399 1 = some (.inl ((X 0) + (8 * (Y 0)))) := (e214 399 1 (by first | decide | omega)).trans k108
  have k129 : ai_hv t214 399 2 = some (.inl ((X 1) + (8 * (Y 1)))) := (e214 399 2 (by first | decide | omega)).trans k109
  have k130 : ai_hv t214 399 3 = some (.inl ((X 2) + (8 * (Y 2)))) := (e214 399 3 (by first | decide | omega)).trans k110
  have k131 : ai_hv t214 399 4 = some (.inl ((X 3) + (8 * (Y 3)))) := (e214 399 4 (by first | decide | omega)).trans k111
  have k132 : ai_hv t214 399 5 = some (.inl ((X 4) + (8 * (Y 4)))) := (e214 399 5 (by first | decide | omega)).trans k112
  have k133 : ai_hv t214 399 6 = some (.inl ((X 5) + (8 * (Y 5)))) := (e214 399 6 (by first | decide | omega)).trans k194
  refine ex_go (S := (88, [(2, .inl 0), (0, gx_r 383), (1, .inl 0)], [gx_r 383], t214, n, 0)) rfl (fun _ => rfl) rfl ?_
  refine gx_ref (c := 399) rfl g214 rfl rfl rfl rfl ?_
  refine ex_go (S := (92, [(2, .inl 0), (0, gx_r 383), (1, .inl 0)], [.inl 0, gx_r 399], t214, n, 0)) rfl (fun _ => rfl) rfl ?_
  refine ex_go (S := (94, [(2, .inl 0), (0, gx_r 383), (1, .inl 0)], [.inl 9, .inl 0, gx_r 399], t214, n, 0)) rfl (fun _ => rfl) rfl ?_
  refine ex_go (S := (95, [(2, .inl 0), (0, gx_r 383), (1, .inl 0)], [.inl 9, gx_r 399], t214, n, 0)) rfl (fun _ => rfl) rfl ?_
  refine ex_go (S := (96, [(2, .inl 0), (0, gx_r 383), (1, .inl 0)], [.inl 0, .inl 9, gx_r 399], t214, n, 0)) rfl (fun _ => rfl) rfl ?_
  refine ex_go (S := (97, [(2, .inl 0), (0, gx_r 383), (1, .inl 0)], [.inl 9, gx_r 399], t214, n, 0)) rfl (fun _ => rfl) rfl ?_
  refine ex_go (S := (98, [(2, .inl 0), (0, gx_r 383), (1, .inl 0)], [.inl 0, .inl 9, gx_r 399], t214, n, 0)) rfl (fun _ => rfl) rfl ?_
  refine gx_ap rfl (fun _ => rfl) g214 rfl rfl rfl (show 9 < 1035 from by omega) rfl (gx_full (by first | decide | omega)) rfl (fun t234 g234 k234 e234 => ?_)
  have k135 : ai_hv t234 389 77 = some (.inl (X 0)) := (e234 389 77 (by first | decide | omega)).trans k115
  have k136 : ai_hv t234 389 78 = some (.inl (Y 0)) := (e234 389 78 (by first | decide | omega)).trans k116
  have k137 : ai_hv t234 389 80 = some (.inl (X 1)) := (e234 389 80 (by first | decide | omega)).trans k117
  have k138 : ai_hv t234 389 81 = some (.inl (Y 1)) := (e234 389 81 (by first | decide | omega)).trans k118
  have k139 : ai_hv t234 389 83 = some (.inl (X 2)) := (e234 389 83 (by first | decide | omega)).trans k119
  have k140 : ai_hv t234 389 84 = some (.inl (Y 2)) := (e234 389 84 (by first | decide | omega)).trans k120
  have k141 : ai_hv t234 389 86 = some (.inl (X 3)) := (e234 389 86 (by first | decide | omega)).trans k121
  have k142 : ai_hv t234 389 87 = some (.inl (Y 3)) := (e234 389 87 (by first | decide | omega)).trans k122
  have k143 : ai_hv t234 389 89 = some (.inl (X 4)) := (e234 389 89 (by first | decide | omega)).trans k123
  have k144 : ai_hv t234 389 90 = some (.inl (Y 4)) := (e234 389 90 (by first | decide | omega)).trans k124
  have k145 : ai_hv t234 389 92 = some (.inl (X 5)) := (e234 389 92 (by first | decide | omega)).trans k125
  have k146 : ai_hv t234 389 93 = some (.inl (Y 5)) := (e234 389 93 (by first | decide | omega)).trans k126
  have k147 : ai_hv t234 399 0 = some (.inl 0) := (e234 399 0 (by first | decide | omega)).trans k127
  have k148 : ai_hv t234 399 1 = some (.inl ((X 0) + (8 * (Y 0)))) := (e234 399 1 (by first | decide | omega)).trans k128
  have k149 : ai_hv t234 399 2 = some (.inl ((X 1) + (8 * (Y 1)))) := (e234 399 2 (by first | decide | omega)).trans k129
  have k150 : ai_hv t234 399 3 = some (.inl ((X 2) + (8 * (Y 2)))) := (e234 399 3 (by first | decide | omega)).trans k130
  have k151 : ai_hv t234 399 4 = some (.inl ((X 3) + (8 * (Y 3)))) := (e234 399 4 (by first | decide | omega)).trans k131
  have k152 : ai_hv t234 399 5 = some (.inl ((X 4) + (8 * (Y 4)))) := (e234 399 5 (by first | decide | omega)).trans k132
  have k153 : ai_hv t234 399 6 = some (.inl ((X 5) + (8 * (Y 5)))) := (e234 399 6 (by first | decide | omega)).trans k133
  have k154 : ai_hv t234 399 7 = some (.inl (B 0)) := (e234 399 7 (by first | decide | omega)).trans k214
  refine ex_go (S := (100, [(2, .inl 0), (0, gx_r 383), (1, .inl 0)], [gx_r 383], t234, n, 0)) rfl (fun _ => rfl) rfl ?_
  refine gx_ref (c := 399) rfl g234 rfl rfl rfl rfl ?_
  refine ex_go (S := (104, [(2, .inl 0), (0, gx_r 383), (1, .inl 0)], [.inl 0, gx_r 399], t234, n, 0)) rfl (fun _ => rfl) rfl ?_
  refine ex_go (S := (106, [(2, .inl 0), (0, gx_r 383), (1, .inl 0)], [.inl 11, .inl 0, gx_r 399], t234, n, 0)) rfl (fun _ => rfl) rfl ?_
  refine ex_go (S := (107, [(2, .inl 0), (0, gx_r 383), (1, .inl 0)], [.inl 11, gx_r 399], t234, n, 0)) rfl (fun _ => rfl) rfl ?_
  refine ex_go (S := (108, [(2, .inl 0), (0, gx_r 383), (1, .inl 0)], [.inl 0, .inl 11, gx_r 399], t234, n, 0)) rfl (fun _ => rfl) rfl ?_
  refine ex_go (S := (109, [(2, .inl 0), (0, gx_r 383), (1, .inl 0)], [.inl 11, gx_r 399], t234, n, 0)) rfl (fun _ => rfl) rfl ?_
  refine ex_go (S := (110, [(2, .inl 0), (0, gx_r 383), (1, .inl 0)], [.inl 0, .inl 11, gx_r 399], t234, n, 0)) rfl (fun _ => rfl) rfl ?_
  refine gx_ap rfl (fun _ => rfl) g234 rfl rfl rfl (show 11 < 1035 from by omega) rfl (ai_in_h (by first | decide | omega) (by first | decide | omega) (by first | decide | omega)) rfl (fun t255 g255 k255 e255 => ?_)
  have k156 : ai_hv t255 389 77 = some (.inl (X 0)) := (e255 389 77 (by first | decide | omega)).trans k135
  have k157 : ai_hv t255 389 78 = some (.inl (Y 0)) := (e255 389 78 (by first | decide | omega)).trans k136
  have k158 : ai_hv t255 389 80 = some (.inl (X 1)) := (e255 389 80 (by first | decide | omega)).trans k137
  have k159 : ai_hv t255 389 81 = some (.inl (Y 1)) := (e255 389 81 (by first | decide | omega)).trans k138
  have k160 : ai_hv t255 389 83 = some (.inl (X 2)) := (e255 389 83 (by first | decide | omega)).trans k139
  have k161 : ai_hv t255 389 84 = some (.inl (Y 2)) := (e255 389 84 (by first | decide | omega)).trans k140
  have k162 : ai_hv t255 389 86 = some (.inl (X 3)) := (e255 389 86 (by first | decide | omega)).trans k141
  have k163 : ai_hv t255 389 87 = some (.inl (Y 3)) := (e255 389 87 (by first | decide | omega)).trans k142
  have k164 : ai_hv t255 389 89 = some (.inl (X 4)) := (e255 389 89 (by first | decide | omega)).trans k143
  have k165 : ai_hv t255 389 90 = some (.inl (Y 4)) := (e255 389 90 (by first | decide | omega)).trans k144
  have k166 : ai_hv t255 389 92 = some (.inl (X 5)) := (e255 389 92 (by first | decide | omega)).trans k145
  have k167 : ai_hv t255 389 93 = some (.inl (Y 5)) := (e255 389 93 (by first | decide | omega)).trans k146
  have k168 : ai_hv t255 399 0 = some (.inl 0) := (e255 399 0 (by first | decide | omega)).trans k147
  have k169 : ai_hv t255 399 1 = some (.inl ((X 0) + (8 * (Y 0)))) := (e255 399 1 (by first | decide | omega)).trans k148
  have k170 : ai_hv t255 399 2 = some (.inl ((X 1) + (8 * (Y 1)))) := (e255 399 2 (by first | decide | omega)).trans k149
  have k171 : ai_hv t255 399 3 = some (.inl ((X 2) + (8 * (Y 2)))) := (e255 399 3 (by first | decide | omega)).trans k150
  have k172 : ai_hv t255 399 4 = some (.inl ((X 3) + (8 * (Y 3)))) := (e255 399 4 (by first | decide | omega)).trans k151
  have k173 : ai_hv t255 399 5 = some (.inl ((X 4) + (8 * (Y 4)))) := (e255 399 5 (by first | decide | omega)).trans k152
  have k174 : ai_hv t255 399 6 = some (.inl ((X 5) + (8 * (Y 5)))) := (e255 399 6 (by first | decide | omega)).trans k153
  have k175 : ai_hv t255 399 7 = some (.inl (B 0)) := (e255 399 7 (by first | decide | omega)).trans k154
  have k176 : ai_hv t255 399 9 = some (.inl 0) := (e255 399 9 (by first | decide | omega)).trans k234
  refine ex_go (S := (112, [(2, .inl 0), (0, gx_r 383), (1, .inl 0)], [gx_r 383], t255, n, 0)) rfl (fun _ => rfl) rfl ?_
  refine gx_ref (c := 399) rfl g255 rfl rfl rfl rfl ?_
  refine ex_go (S := (116, [(2, .inl 0), (0, gx_r 383), (1, .inl 0)], [.inl 0, gx_r 399], t255, n, 0)) rfl (fun _ => rfl) rfl ?_
  refine ex_go (S := (118, [(2, .inl 0), (0, gx_r 383), (1, .inl 0)], [.inl 13, .inl 0, gx_r 399], t255, n, 0)) rfl (fun _ => rfl) rfl ?_
  refine ex_go (S := (119, [(2, .inl 0), (0, gx_r 383), (1, .inl 0)], [.inl 13, gx_r 399], t255, n, 0)) rfl (fun _ => rfl) rfl ?_
  refine ex_go (S := (120, [(2, .inl 0), (0, gx_r 383), (1, .inl 0)], [.inl 0, .inl 13, gx_r 399], t255, n, 0)) rfl (fun _ => rfl) rfl ?_
  refine ex_go (S := (121, [(2, .inl 0), (0, gx_r 383), (1, .inl 0)], [.inl 13, gx_r 399], t255, n, 0)) rfl (fun _ => rfl) rfl ?_
  refine ex_go (S := (122, [(2, .inl 0), (0, gx_r 383), (1, .inl 0)], [.inl 0, .inl 13, gx_r 399], t255, n, 0)) rfl (fun _ => rfl) rfl ?_
  refine gx_ap rfl (fun _ => rfl) g255 rfl rfl rfl (show 13 < 1035 from by omega) rfl (ai_in_h (by first | decide | omega) (by first | decide | omega) (by first | decide | omega)) rfl (fun t277 g277 k277 e277 => ?_)
  have k178 : ai_hv t277 389 77 = some (.inl (X 0)) := (e277 389 77 (by first | decide | omega)).trans k156
  have k179 : ai_hv t277 389 78 = some (.inl (Y 0)) := (e277 389 78 (by first | decide | omega)).trans k157
  have k180 : ai_hv t277 389 80 = some (.inl (X 1)) := (e277 389 80 (by first | decide | omega)).trans k158
  have k181 : ai_hv t277 389 81 = some (.inl (Y 1)) := (e277 389 81 (by first | decide | omega)).trans k159
  have k182 : ai_hv t277 389 83 = some (.inl (X 2)) := (e277 389 83 (by first | decide | omega)).trans k160
  have k183 : ai_hv t277 389 84 = some (.inl (Y 2)) := (e277 389 84 (by first | decide | omega)).trans k161
  have k184 : ai_hv t277 389 86 = some (.inl (X 3)) := (e277 389 86 (by first | decide | omega)).trans k162
  have k185 : ai_hv t277 389 87 = some (.inl (Y 3)) := (e277 389 87 (by first | decide | omega)).trans k163
  have k186 : ai_hv t277 389 89 = some (.inl (X 4)) := (e277 389 89 (by first | decide | omega)).trans k164
  have k187 : ai_hv t277 389 90 = some (.inl (Y 4)) := (e277 389 90 (by first | decide | omega)).trans k165
  have k188 : ai_hv t277 389 92 = some (.inl (X 5)) := (e277 389 92 (by first | decide | omega)).trans k166
  have k189 : ai_hv t277 389 93 = some (.inl (Y 5)) := (e277 389 93 (by first | decide | omega)).trans k167
  have k190 : ai_hv t277 399 0 = some (.inl 0) := (e277 399 0 (by first | decide | omega)).trans k168
  have k191 : ai_hv t277 399 1 = some (.inl ((X 0) + (8 * (Y 0)))) := (e277 399 1 (by first | decide | omega)).trans k169
  have k192 : ai_hv t277 399 2 = some (.inl ((X 1) + (8 * (Y 1)))) := (e277 399 2 (by first | decide | omega)).trans k170
  have k193 : ai_hv t277 399 3 = some (.inl ((X 2) + (8 * (Y 2)))) := (e277 399 3 (by first | decide | omega)).trans k171
  have k194 : ai_hv t277 399 4 = some (.inl ((X 3) + (8 * (Y 3)))) := (e277 399 4 (by first | decide | omega)).trans k172
  have k195 : ai_hv t277 399 5 = some (.inl ((X 4) + (8 * (Y 4)))) := (e277 399 5 (by first | decide | omega)).trans k173
  have k196 : ai_hv t277 399 6 = some (.inl ((X 5) + (8 * (Y 5)))) := (e277 399 6 (by first | decide | omega)).trans k174
  have k197 : ai_hv t277 399 7 = some (.inl (B 0)) := (e277 399 7 (by first | decide | omega)).trans k175
  have k198 : ai_hv t277 399 9 = some (.inl 0) := (e277 399 9 (by first | decide | omega)).trans k176
  have k199 : ai_hv t277 399 11 = some (.inl 0) := (e277 399 11 (by first | decide | omega)).trans k255
  refine ex_go (S := (124, [(2, .inl 0), (0, gx_r 383), (1, .inl 0)], [gx_r 383], t277, n, 0)) rfl (fun _ => rfl) rfl ?_
  refine gx_ref (c := 399) rfl g277 rfl rfl rfl rfl ?_
  refine ex_go (S := (128, [(2, .inl 0), (0, gx_r 383), (1, .inl 0)], [.inl 0, gx_r 399], t277, n, 0)) rfl (fun _ => rfl) rfl ?_
  refine ex_go (S := (130, [(2, .inl 0), (0, gx_r 383), (1, .inl 0)], [.inl 15, .inl 0, gx_r 399], t277, n, 0)) rfl (fun _ => rfl) rfl ?_
  refine ex_go (S := (131, [(2, .inl 0), (0, gx_r 383), (1, .inl 0)], [.inl 15, gx_r 399], t277, n, 0)) rfl (fun _ => rfl) rfl ?_
  refine ex_go (S := (132, [(2, .inl 0), (0, gx_r 383), (1, .inl 0)], [.inl 0, .inl 15, gx_r 399], t277, n, 0)) rfl (fun _ => rfl) rfl ?_
  refine ex_go (S := (133, [(2, .inl 0), (0, gx_r 383), (1, .inl 0)], [.inl 15, gx_r 399], t277, n, 0)) rfl (fun _ => rfl) rfl ?_
  refine ex_go (S := (134, [(2, .inl 0), (0, gx_r 383), (1, .inl 0)], [.inl 0, .inl 15, gx_r 399], t277, n, 0)) rfl (fun _ => rfl) rfl ?_
  refine gx_ap rfl (fun _ => rfl) g277 rfl rfl rfl (show 15 < 1035 from by omega) rfl (ai_in_h (by first | decide | omega) (by first | decide | omega) (by first | decide | omega)) rfl (fun t300 g300 k300 e300 => ?_)
  have k201 : ai_hv t300 389 77 = some (.inl (X 0)) := (e300 389 77 (by first | decide | omega)).trans k178
  have k202 : ai_hv t300 389 78 = some (.inl (Y 0)) := (e300 389 78 (by first | decide | omega)).trans k179
  have k203 : ai_hv t300 389 80 = some (.inl (X 1)) := (e300 389 80 (by first | decide | omega)).trans k180
  have k204 : ai_hv t300 389 81 = some (.inl (Y 1)) := (e300 389 81 (by first | decide | omega)).trans k181
  have k205 : ai_hv t300 389 83 = some (.inl (X 2)) := (e300 389 83 (by first | decide | omega)).trans k182
  have k206 : ai_hv t300 389 84 = some (.inl (Y 2)) := (e300 389 84 (by first | decide | omega)).trans k183
  have k207 : ai_hv t300 389 86 = some (.inl (X 3)) := (e300 389 86 (by first | decide | omega)).trans k184
  have k208 : ai_hv t300 389 87 = some (.inl (Y 3)) := (e300 389 87 (by first | decide | omega)).trans k185
  have k209 : ai_hv t300 389 89 = some (.inl (X 4)) := (e300 389 89 (by first | decide | omega)).trans k186
  have k210 : ai_hv t300 389 90 = some (.inl (Y 4)) := (e300 389 90 (by first | decide | omega)).trans k187
  have k211 : ai_hv t300 389 92 = some (.inl (X 5)) := (e300 389 92 (by first | decide | omega)).trans k188
  have k212 : ai_hv t300 389 93 = some (.inl (Y 5)) := (e300 389 93 (by first | decide | omega)).trans k189
  have k213 : ai_hv t300 399 0 = some (.inl 0) := (e300 399 0 (by first | decide | omega)).trans k190
  have k214 : ai_hv t300 399 1 = some (.inl ((X 0) + (8 * (Y 0)))) := (e300 399 1 (by first | decide | omega)).trans k191
  have k215 : ai_hv t300 399 2 = some (.inl ((X 1) + (8 * (Y 1)))) := (e300 399 2 (by first | decide | omega)).trans k192
  have k216 : ai_hv t300 399 3 = some (.inl ((X 2) + (8 * (Y 2)))) := (e300 399 3 (by first | decide | omega)).trans k193
  have k217 : ai_hv t300 399 4 = some (.inl ((X 3) + (8 * (Y 3)))) := (e300 399 4 (by first | decide | omega)).trans k194
  have k218 : ai_hv t300 399 5 = some (.inl ((X 4) + (8 * (Y 4)))) := (e300 399 5 (by first | decide | omega)).trans k195
  have k219 : ai_hv t300 399 6 = some (.inl ((X 5) + (8 * (Y 5)))) := (e300 399 6 (by first | decide | omega)).trans k196
  have k220 : ai_hv t300 399 7 = some (.inl (B 0)) := (e300 399 7 (by first | decide | omega)).trans k197
  have k221 : ai_hv t300 399 9 = some (.inl 0) := (e300 399 9 (by first | decide | omega)).trans k198
  have k222 : ai_hv t300 399 11 = some (.inl 0) := (e300 399 11 (by first | decide | omega)).trans k199
  have k223 : ai_hv t300 399 13 = some (.inl 0) := (e300 399 13 (by first | decide | omega)).trans k277
  refine ex_go (S := (138, [(2, .inl 1), (0, gx_r 383), (1, .inl 0)], [], t300, n, 0)) rfl (fun _ => rfl) rfl ?_
  refine ex_go (S := (65, [(2, .inl 1), (0, gx_r 383), (1, .inl 0)], [], t300, n, 0)) rfl (fun _ => rfl) rfl ?_
  refine ex_go (S := (66, [(2, .inl 1), (0, gx_r 383), (1, .inl 0)], [.inl 1], t300, n, 0)) rfl (fun _ => rfl) rfl ?_
  refine ex_go (S := (67, [(2, .inl 1), (0, gx_r 383), (1, .inl 0)], [.inl 2, .inl 1], t300, n, 0)) rfl (fun _ => rfl) rfl ?_
  refine ex_go (S := (70, [(2, .inl 1), (0, gx_r 383), (1, .inl 0)], [], t300, n, 0)) rfl (fun _ => rfl) rfl ?_
  refine ex_go (S := (71, [(2, .inl 1), (0, gx_r 383), (1, .inl 0)], [gx_r 383], t300, n, 0)) rfl (fun _ => rfl) rfl ?_
  refine gx_ref (c := 399) rfl g300 rfl rfl rfl rfl ?_
  refine ex_go (S := (75, [(2, .inl 1), (0, gx_r 383), (1, .inl 0)], [.inl 0, gx_r 399], t300, n, 0)) rfl (fun _ => rfl) rfl ?_
  refine ex_go (S := (77, [(2, .inl 1), (0, gx_r 383), (1, .inl 0)], [.inl 7, .inl 0, gx_r 399], t300, n, 0)) rfl (fun _ => rfl) rfl ?_
  refine ex_go (S := (78, [(2, .inl 1), (0, gx_r 383), (1, .inl 0)], [.inl 7, gx_r 399], t300, n, 0)) rfl (fun _ => rfl) rfl ?_
  refine ex_go (S := (79, [(2, .inl 1), (0, gx_r 383), (1, .inl 0)], [.inl 1, .inl 7, gx_r 399], t300, n, 0)) rfl (fun _ => rfl) rfl ?_
  refine ex_go (S := (80, [(2, .inl 1), (0, gx_r 383), (1, .inl 0)], [.inl 8, gx_r 399], t300, n, 0)) rfl (fun _ => rfl) rfl ?_
  refine ex_go (S := (81, [(2, .inl 1), (0, gx_r 383), (1, .inl 0)], [gx_r 383, .inl 8, gx_r 399], t300, n, 0)) rfl (fun _ => rfl) rfl ?_
  refine ex_go (S := (82, [(2, .inl 1), (0, gx_r 383), (1, .inl 0)], [.inl 1, gx_r 383, .inl 8, gx_r 399], t300, n, 0)) rfl (fun _ => rfl) rfl ?_
  refine ex_go (S := (83, [(2, .inl 1), (0, gx_r 383), (1, .inl 0)], [.inl 2, .inl 1, gx_r 383, .inl 8, gx_r 399], t300, n, 0)) rfl (fun _ => rfl) rfl ?_
  obtain ⟨_, r224, rfl⟩ := pe_crewOf d n (c := 1) (w := 2) g300 (by first | decide | omega) (by first | decide | omega) ((e300 389 123 (by first | decide | omega)).trans ((e277 389 123 (by first | decide | omega)).trans ((e255 389 123 (by first | decide | omega)).trans ((e234 389 123 (by first | decide | omega)).trans ((e214 389 123 (by first | decide | omega)).trans ((e194 389 123 (by first | decide | omega)).trans ((e176 389 123 (by first | decide | omega)).trans ((e159 389 123 (by first | decide | omega)).trans ((e143 389 123 (by first | decide | omega)).trans ((e128 389 123 (by first | decide | omega)).trans ((e114 389 123 (by first | decide | omega)).trans ((e101 389 123 (by first | decide | omega)).trans (kB 1 (by first | decide | omega))))))))))))))
  refine gx_call1 rfl rfl g300 rfl rfl r224 rfl ?_
  show en_ex _ _ _ _ (86, [(2, .inl 1), (0, gx_r 383), (1, .inl 0)], [.inl (B 1), .inl 8, gx_r 399], t300, n, 0) _
  refine gx_ap rfl (fun _ => rfl) g300 rfl rfl rfl (show 8 < 1035 from by omega) rfl (ai_in_h (by first | decide | omega) (by first | decide | omega) (by first | decide | omega)) rfl (fun t325 g325 k325 e325 => ?_)
  have k226 : ai_hv t325 389 77 = some (.inl (X 0)) := (e325 389 77 (by first | decide | omega)).trans k201
  have k227 : ai_hv t325 389 78 = some (.inl (Y 0)) := (e325 389 78 (by first | decide | omega)).trans k202
  have k228 : ai_hv t325 389 80 = some (.inl (X 1)) := (e325 389 80 (by first | decide | omega)).trans k203
  have k229 : ai_hv t325 389 81 = some (.inl (Y 1)) := (e325 389 81 (by first | decide | omega)).trans k204
  have k230 : ai_hv t325 389 83 = some (.inl (X 2)) := (e325 389 83 (by first | decide | omega)).trans k205
  have k231 : ai_hv t325 389 84 = some (.inl (Y 2)) := (e325 389 84 (by first | decide | omega)).trans k206
  have k232 : ai_hv t325 389 86 = some (.inl (X 3)) := (e325 389 86 (by first | decide | omega)).trans k207
  have k233 : ai_hv t325 389 87 = some (.inl (Y 3)) := (e325 389 87 (by first | decide | omega)).trans k208
  have k234 : ai_hv t325 389 89 = some (.inl (X 4)) := (e325 389 89 (by first | decide | omega)).trans k209
  have k235 : ai_hv t325 389 90 = some (.inl (Y 4)) := (e325 389 90 (by first | decide | omega)).trans k210
  have k236 : ai_hv t325 389 92 = some (.inl (X 5)) := (e325 389 92 (by first | decide | omega)).trans k211
  have k237 : ai_hv t325 389 93 = some (.inl (Y 5)) := (e325 389 93 (by first | decide | omega)).trans k212
  have k238 : ai_hv t325 399 0 = some (.inl 0) := (e325 399 0 (by first | decide | omega)).trans k213
  have k239 : ai_hv t325 399 1 = some (.inl ((X 0) + (8 * (Y 0)))) := (e325 399 1 (by first | decide | omega)).trans k214
  have k240 : ai_hv t325 399 2 = some (.inl ((X 1) + (8 * (Y 1)))) := (e325 399 2 (by first | decide | omega)).trans k215
  have k241 : ai_hv t325 399 3 = some (.inl ((X 2) + (8 * (Y 2)))) := (e325 399 3 (by first | decide | omega)).trans k216
  have k242 : ai_hv t325 399 4 = some (.inl ((X 3) + (8 * (Y 3)))) := (e325 399 4 (by first | decide | omega)).trans k217
  have k243 : ai_hv t325 399 5 = some (.inl ((X 4) + (8 * (Y 4)))) := (e325 399 5 (by first | decide | omega)).trans k218
  have k244 : ai_hv t325 399 6 = some (.inl ((X 5) + (8 * (Y 5)))) := (e325 399 6 (by first | decide | omega)).trans k219
  have k245 : ai_hv t325 399 7 = some (.inl (B 0)) := (e325 399 7 (by first | decide | omega)).trans k220
  have k246 : ai_hv t325 399 9 = some (.inl 0) := (e325 399 9 (by first | decide | omega)).trans k221
  have k247 : ai_hv t325 399 11 = some (.inl 0) := (e325 399 11 (by first | decide | omega)).trans k222
  have k248 : ai_hv t325 399 13 = some (.inl 0) := (e325 399 13 (by first | decide | omega)).trans k223
  have k249 : ai_hv t325 399 15 = some (.inl 0) := (e325 399 15 (by first | decide | omega)).trans k300
  refine ex_go (S := (88, [(2, .inl 1), (0, gx_r 383), (1, .inl 0)], [gx_r 383], t325, n, 0)) rfl (fun _ => rfl) rfl ?_
  refine gx_ref (c := 399) rfl g325 rfl rfl rfl rfl ?_
  refine ex_go (S := (92, [(2, .inl 1), (0, gx_r 383), (1, .inl 0)], [.inl 0, gx_r 399], t325, n, 0)) rfl (fun _ => rfl) rfl ?_
  refine ex_go (S := (94, [(2, .inl 1), (0, gx_r 383), (1, .inl 0)], [.inl 9, .inl 0, gx_r 399], t325, n, 0)) rfl (fun _ => rfl) rfl ?_
  refine ex_go (S := (95, [(2, .inl 1), (0, gx_r 383), (1, .inl 0)], [.inl 9, gx_r 399], t325, n, 0)) rfl (fun _ => rfl) rfl ?_
  refine ex_go (S := (96, [(2, .inl 1), (0, gx_r 383), (1, .inl 0)], [.inl 1, .inl 9, gx_r 399], t325, n, 0)) rfl (fun _ => rfl) rfl ?_
  refine ex_go (S := (97, [(2, .inl 1), (0, gx_r 383), (1, .inl 0)], [.inl 10, gx_r 399], t325, n, 0)) rfl (fun _ => rfl) rfl ?_
  refine ex_go (S := (98, [(2, .inl 1), (0, gx_r 383), (1, .inl 0)], [.inl 0, .inl 10, gx_r 399], t325, n, 0)) rfl (fun _ => rfl) rfl ?_
  refine gx_ap rfl (fun _ => rfl) g325 rfl rfl rfl (show 10 < 1035 from by omega) rfl (gx_full (by first | decide | omega)) rfl (fun t350 g350 k350 e350 => ?_)
  have k251 : ai_hv t350 389 77 = some (.inl (X 0)) := (e350 389 77 (by first | decide | omega)).trans k226
  have k252 : ai_hv t350 389 78 = some (.inl (Y 0)) := (e350 389 78 (by first | decide | omega)).trans k227
  have k253 : ai_hv t350 389 80 = some (.inl (X 1)) := (e350 389 80 (by first | decide | omega)).trans k228
  have k254 : ai_hv t350 389 81 = some (.inl (Y 1)) := (e350 389 81 (by first | decide | omega)).trans k229
  have k255 : ai_hv t350 389 83 = some (.inl (X 2)) := (e350 389 83 (by first | decide | omega)).trans k230
  have k256 : ai_hv t350 389 84 = some (.inl (Y 2)) := (e350 389 84 (by first | decide | omega)).trans k231
  have k257 : ai_hv t350 389 86 = some (.inl (X 3)) := (e350 389 86 (by first | decide | omega)).trans k232
  have k258 : ai_hv t350 389 87 = some (.inl (Y 3)) := (e350 389 87 (by first | decide | omega)).trans k233
  have k259 : ai_hv t350 389 89 = some (.inl (X 4)) := (e350 389 89 (by first | decide | omega)).trans k234
  have k260 : ai_hv t350 389 90 = some (.inl (Y 4)) := (e350 389 90 (by first | decide | omega)).trans k235
  have k261 : ai_hv t350 389 92 = some (.inl (X 5)) := (e350 389 92 (by first | decide | omega)).trans k236
  have k262 : ai_hv t350 389 93 = some (.inl (Y 5)) := (e350 389 93 (by first | decide | omega)).trans k237
  have k263 : ai_hv t350 399 0 = some (.inl 0) := (e350 399 0 (by first | decide | omega)).trans k238
  have k264 : ai_hv t350 399 1 = some (.inl ((X 0) + (8 * (Y 0)))) := (e350 399 1 (by first | decide | omega)).trans k239
  have k265 : ai_hv t350 399 2 = some (.inl ((X 1) + (8 * (Y 1)))) := (e350 399 2 (by first | decide | omega)).trans k240
  have k266 : ai_hv t350 399 3 = some (.inl ((X 2) + (8 * (Y 2)))) := (e350 399 3 (by first | decide | omega)).trans k241
  have k267 : ai_hv t350 399 4 = some (.inl ((X 3) + (8 * (Y 3)))) := (e350 399 4 (by first | decide | omega)).trans k242
  have k268 : ai_hv t350 399 5 = some (.inl ((X 4) + (8 * (Y 4)))) := (e350 399 5 (by first | decide | omega)).trans k243
  have k269 : ai_hv t350 399 6 = some (.inl ((X 5) + (8 * (Y 5)))) := (e350 399 6 (by first | decide | omega)).trans k244
  have k270 : ai_hv t350 399 7 = some (.inl (B 0)) := (e350 399 7 (by first | decide | omega)).trans k245
  have k271 : ai_hv t350 399 9 = some (.inl 0) := (e350 399 9 (by first | decide | omega)).trans k246
  have k272 : ai_hv t350 399 11 = some (.inl 0) := (e350 399 11 (by first | decide | omega)).trans k247
  have k273 : ai_hv t350 399 13 = some (.inl 0) := (e350 399 13 (by first | decide | omega)).trans k248
  have k274 : ai_hv t350 399 15 = some (.inl 0) := (e350 399 15 (by first | decide | omega)).trans k249
  have k275 : ai_hv t350 399 8 = some (.inl (B 1)) := (e350 399 8 (by first | decide | omega)).trans k325
  refine ex_go (S := (100, [(2, .inl 1), (0, gx_r 383), (1, .inl 0)], [gx_r 383], t350, n, 0)) rfl (fun _ => rfl) rfl ?_
  refine gx_ref (c := 399) rfl g350 rfl rfl rfl rfl ?_
  refine ex_go (S := (104, [(2, .inl 1), (0, gx_r 383), (1, .inl 0)], [.inl 0, gx_r 399], t350, n, 0)) rfl (fun _ => rfl) rfl ?_
  refine ex_go (S := (106, [(2, .inl 1), (0, gx_r 383), (1, .inl 0)], [.inl 11, .inl 0, gx_r 399], t350, n, 0)) rfl (fun _ => rfl) rfl ?_
  refine ex_go (S := (107, [(2, .inl 1), (0, gx_r 383), (1, .inl 0)], [.inl 11, gx_r 399], t350, n, 0)) rfl (fun _ => rfl) rfl ?_
  refine ex_go (S := (108, [(2, .inl 1), (0, gx_r 383), (1, .inl 0)], [.inl 1, .inl 11, gx_r 399], t350, n, 0)) rfl (fun _ => rfl) rfl ?_
  refine ex_go (S := (109, [(2, .inl 1), (0, gx_r 383), (1, .inl 0)], [.inl 12, gx_r 399], t350, n, 0)) rfl (fun _ => rfl) rfl ?_
  refine ex_go (S := (110, [(2, .inl 1), (0, gx_r 383), (1, .inl 0)], [.inl 0, .inl 12, gx_r 399], t350, n, 0)) rfl (fun _ => rfl) rfl ?_
  refine gx_ap rfl (fun _ => rfl) g350 rfl rfl rfl (show 12 < 1035 from by omega) rfl (ai_in_h (by first | decide | omega) (by first | decide | omega) (by first | decide | omega)) rfl (fun t376 g376 k376 e376 => ?_)
  have k277 : ai_hv t376 389 77 = some (.inl (X 0)) := (e376 389 77 (by first | decide | omega)).trans k251
  have k278 : ai_hv t376 389 78 = some (.inl (Y 0)) := (e376 389 78 (by first | decide | omega)).trans k252
  have k279 : ai_hv t376 389 80 = some (.inl (X 1)) := (e376 389 80 (by first | decide | omega)).trans k253
  have k280 : ai_hv t376 389 81 = some (.inl (Y 1)) := (e376 389 81 (by first | decide | omega)).trans k254
  have k281 : ai_hv t376 389 83 = some (.inl (X 2)) := (e376 389 83 (by first | decide | omega)).trans k255
  have k282 : ai_hv t376 389 84 = some (.inl (Y 2)) := (e376 389 84 (by first | decide | omega)).trans k256
  have k283 : ai_hv t376 389 86 = some (.inl (X 3)) := (e376 389 86 (by first | decide | omega)).trans k257
  have k284 : ai_hv t376 389 87 = some (.inl (Y 3)) := (e376 389 87 (by first | decide | omega)).trans k258
  have k285 : ai_hv t376 389 89 = some (.inl (X 4)) := (e376 389 89 (by first | decide | omega)).trans k259
  have k286 : ai_hv t376 389 90 = some (.inl (Y 4)) := (e376 389 90 (by first | decide | omega)).trans k260
  have k287 : ai_hv t376 389 92 = some (.inl (X 5)) := (e376 389 92 (by first | decide | omega)).trans k261
  have k288 : ai_hv t376 389 93 = some (.inl (Y 5)) := (e376 389 93 (by first | decide | omega)).trans k262
  have k289 : ai_hv t376 399 0 = some (.inl 0) := (e376 399 0 (by first | decide | omega)).trans k263
  have k290 : ai_hv t376 399 1 = some (.inl ((X 0) + (8 * (Y 0)))) := (e376 399 1 (by first | decide | omega)).trans k264
  have k291 : ai_hv t376 399 2 = some (.inl ((X 1) + (8 * (Y 1)))) := (e376 399 2 (by first | decide | omega)).trans k265
  have k292 : ai_hv t376 399 3 = some (.inl ((X 2) + (8 * (Y 2)))) := (e376 399 3 (by first | decide | omega)).trans k266
  have k293 : ai_hv t376 399 4 = some (.inl ((X 3) + (8 * (Y 3)))) := (e376 399 4 (by first | decide | omega)).trans k267
  have k294 : ai_hv t376 399 5 = some (.inl ((X 4) + (8 * (Y 4)))) := (e376 399 5 (by first | decide | omega)).trans k268
  have k295 : ai_hv t376 399 6 = some (.inl ((X 5) + (8 * (Y 5)))) := (e376 399 6 (by first | decide | omega)).trans k269
  have k296 : ai_hv t376 399 7 = some (.inl (B 0)) := (e376 399 7 (by first | decide | omega)).trans k270
  have k297 : ai_hv t376 399 9 = some (.inl 0) := (e376 399 9 (by first | decide | omega)).trans k271
  have k298 : ai_hv t376 399 11 = some (.inl 0) := (e376 399 11 (by first | decide | omega)).trans k272
  have k299 : ai_hv t376 399 13 = some (.inl 0) := (e376 399 13 (by first | decide | omega)).trans k273
  have k300 : ai_hv t376 399 15 = some (.inl 0) := (e376 399 15 (by first | decide | omega)).trans k274
  have k301 : ai_hv t376 399 8 = some (.inl (B 1)) := (e376 399 8 (by first | decide | omega)).trans k275
  have k302 : ai_hv t376 399 10 = some (.inl 0) := (e376 399 10 (by first | decide | omega)).trans k350
  refine ex_go (S := (112, [(2, .inl 1), (0, gx_r 383), (1, .inl 0)], [gx_r 383], t376, n, 0)) rfl (fun _ => rfl) rfl ?_
  refine gx_ref (c := 399) rfl g376 rfl rfl rfl rfl ?_
  refine ex_go (S := (116, [(2, .inl 1), (0, gx_r 383), (1, .inl 0)], [.inl 0, gx_r 399], t376, n, 0)) rfl (fun _ => rfl) rfl ?_
  refine ex_go (S := (118, [(2, .inl 1), (0, gx_r 383), (1, .inl 0)], [.inl 13, .inl 0, gx_r 399], t376, n, 0)) rfl (fun _ => rfl) rfl ?_
  refine ex_go (S := (119, [(2, .inl 1), (0, gx_r 383), (1, .inl 0)], [.inl 13, gx_r 399], t376, n, 0)) rfl (fun _ => rfl) rfl ?_
  refine ex_go (S := (120, [(2, .inl 1), (0, gx_r 383), (1, .inl 0)], [.inl 1, .inl 13, gx_r 399], t376, n, 0)) rfl (fun _ => rfl) rfl ?_
  refine ex_go (S := (121, [(2, .inl 1), (0, gx_r 383), (1, .inl 0)], [.inl 14, gx_r 399], t376, n, 0)) rfl (fun _ => rfl) rfl ?_
  refine ex_go (S := (122, [(2, .inl 1), (0, gx_r 383), (1, .inl 0)], [.inl 0, .inl 14, gx_r 399], t376, n, 0)) rfl (fun _ => rfl) rfl ?_
  refine gx_ap rfl (fun _ => rfl) g376 rfl rfl rfl (show 14 < 1035 from by omega) rfl (ai_in_h (by first | decide | omega) (by first | decide | omega) (by first | decide | omega)) rfl (fun t403 g403 k403 e403 => ?_)
  have k304 : ai_hv t403 389 77 = some (.inl (X 0)) := (e403 389 77 (by first | decide | omega)).trans k277
  have k305 : ai_hv t403 389 78 = some (.inl (Y 0)) := (e403 389 78 (by first | decide | omega)).trans k278
  have k306 : ai_hv t403 389 80 = some (.inl (X 1)) := (e403 389 80 (by first | decide | omega)).trans k279
  have k307 : ai_hv t403 389 81 = some (.inl (Y 1)) := (e403 389 81 (by first | decide | omega)).trans k280
  have k308 : ai_hv t403 389 83 = some (.inl (X 2)) := (e403 389 83 (by first | decide | omega)).trans k281
  have k309 : ai_hv t403 389 84 = some (.inl (Y 2)) := (e403 389 84 (by first | decide | omega)).trans k282
  have k310 : ai_hv t403 389 86 = some (.inl (X 3)) := (e403 389 86 (by first | decide | omega)).trans k283
  have k311 : ai_hv t403 389 87 = some (.inl (Y 3)) := (e403 389 87 (by first | decide | omega)).trans k284
  have k312 : ai_hv t403 389 89 = some (.inl (X 4)) := (e403 389 89 (by first | decide | omega)).trans k285
  have k313 : ai_hv t403 389 90 = some (.inl (Y 4)) := (e403 389 90 (by first | decide | omega)).trans k286
  have k314 : ai_hv t403 389 92 = some (.inl (X 5)) := (e403 389 92 (by first | decide | omega)).trans k287
  have k315 : ai_hv t403 389 93 = some (.inl (Y 5)) := (e403 389 93 (by first | decide | omega)).trans k288
  have k316 : ai_hv t403 399 0 = some (.inl 0) := (e403 399 0 (by first | decide | omega)).trans k289
  have k317 : ai_hv t403 399 1 = some (.inl ((X 0) + (8 * (Y 0)))) := (e403 399 1 (by first | decide | omega)).trans k290
  have k318 : ai_hv t403 399 2 = some (.inl ((X 1) + (8 * (Y 1)))) := (e403 399 2 (by first | decide | omega)).trans k291
  have k319 : ai_hv t403 399 3 = some (.inl ((X 2) + (8 * (Y 2)))) := (e403 399 3 (by first | decide | omega)).trans k292
  have k320 : ai_hv t403 399 4 = some (.inl ((X 3) + (8 * (Y 3)))) := (e403 399 4 (by first | decide | omega)).trans k293
  have k321 : ai_hv t403 399 5 = some (.inl ((X 4) + (8 * (Y 4)))) := (e403 399 5 (by first | decide | omega)).trans k294
  have k322 : ai_hv t403 399 6 = some (.inl ((X 5) + (8 * (Y 5)))) := (e403 399 6 (by first | decide | omega)).trans k295
  have k323 : ai_hv t403 399 7 = some (.inl (B 0)) := (e403 399 7 (by first | decide | omega)).trans k296
  have k324 : ai_hv t403 399 9 = some (.inl 0) := (e403 399 9 (by first | decide | omega)).trans k297
  have k325 : ai_hv t403 399 11 = some (.inl 0) := (e403 399 11 (by first | decide | omega)).trans k298
  have k326 : ai_hv t403 399 13 = some (.inl 0) := (e403 399 13 (by first | decide | omega)).trans k299
  have k327 : ai_hv t403 399 15 = some (.inl 0) := (e403 399 15 (by first | decide | omega)).trans k300
  have k328 : ai_hv t403 399 8 = some (.inl (B 1)) := (e403 399 8 (by first | decide | omega)).trans k301
  have k329 : ai_hv t403 399 10 = some (.inl 0) := (e403 399 10 (by first | decide | omega)).trans k302
  have k330 : ai_hv t403 399 12 = some (.inl 0) := (e403 399 12 (by first | decide | omega)).trans k376
  refine ex_go (S := (124, [(2, .inl 1), (0, gx_r 383), (1, .inl 0)], [gx_r 383], t403, n, 0)) rfl (fun _ => rfl) rfl ?_
  refine gx_ref (c := 399) rfl g403 rfl rfl rfl rfl ?_
  refine ex_go (S := (128, [(2, .inl 1), (0, gx_r 383), (1, .inl 0)], [.inl 0, gx_r 399], t403, n, 0)) rfl (fun _ => rfl) rfl ?_
  refine ex_go (S := (130, [(2, .inl 1), (0, gx_r 383), (1, .inl 0)], [.inl 15, .inl 0, gx_r 399], t403, n, 0)) rfl (fun _ => rfl) rfl ?_
  refine ex_go (S := (131, [(2, .inl 1), (0, gx_r 383), (1, .inl 0)], [.inl 15, gx_r 399], t403, n, 0)) rfl (fun _ => rfl) rfl ?_
  refine ex_go (S := (132, [(2, .inl 1), (0, gx_r 383), (1, .inl 0)], [.inl 1, .inl 15, gx_r 399], t403, n, 0)) rfl (fun _ => rfl) rfl ?_
  refine ex_go (S := (133, [(2, .inl 1), (0, gx_r 383), (1, .inl 0)], [.inl 16, gx_r 399], t403, n, 0)) rfl (fun _ => rfl) rfl ?_
  refine ex_go (S := (134, [(2, .inl 1), (0, gx_r 383), (1, .inl 0)], [.inl 0, .inl 16, gx_r 399], t403, n, 0)) rfl (fun _ => rfl) rfl ?_
  refine gx_ap rfl (fun _ => rfl) g403 rfl rfl rfl (show 16 < 1035 from by omega) rfl (ai_in_h (by first | decide | omega) (by first | decide | omega) (by first | decide | omega)) rfl (fun t431 g431 k431 e431 => ?_)
  have k332 : ai_hv t431 389 77 = some (.inl (X 0)) := (e431 389 77 (by first | decide | omega)).trans k304
  have k333 : ai_hv t431 389 78 = some (.inl (Y 0)) := (e431 389 78 (by first | decide | omega)).trans k305
  have k334 : ai_hv t431 389 80 = some (.inl (X 1)) := (e431 389 80 (by first | decide | omega)).trans k306
  have k335 : ai_hv t431 389 81 = some (.inl (Y 1)) := (e431 389 81 (by first | decide | omega)).trans k307
  have k336 : ai_hv t431 389 83 = some (.inl (X 2)) := (e431 389 83 (by first | decide | omega)).trans k308
  have k337 : ai_hv t431 389 84 = some (.inl (Y 2)) := (e431 389 84 (by first | decide | omega)).trans k309
  have k338 : ai_hv t431 389 86 = some (.inl (X 3)) := (e431 389 86 (by first | decide | omega)).trans k310
  have k339 : ai_hv t431 389 87 = some (.inl (Y 3)) := (e431 389 87 (by first | decide | omega)).trans k311
  have k340 : ai_hv t431 389 89 = some (.inl (X 4)) := (e431 389 89 (by first | decide | omega)).trans k312
  have k341 : ai_hv t431 389 90 = some (.inl (Y 4)) := (e431 389 90 (by first | decide | omega)).trans k313
  have k342 : ai_hv t431 389 92 = some (.inl (X 5)) := (e431 389 92 (by first | decide | omega)).trans k314
  have k343 : ai_hv t431 389 93 = some (.inl (Y 5)) := (e431 389 93 (by first | decide | omega)).trans k315
  have k344 : ai_hv t431 399 0 = some (.inl 0) := (e431 399 0 (by first | decide | omega)).trans k316
  have k345 : ai_hv t431 399 1 = some (.inl ((X 0) + (8 * (Y 0)))) := (e431 399 1 (by first | decide | omega)).trans k317
  have k346 : ai_hv t431 399 2 = some (.inl ((X 1) + (8 * (Y 1)))) := (e431 399 2 (by first | decide | omega)).trans k318
  have k347 : ai_hv t431 399 3 = some (.inl ((X 2) + (8 * (Y 2)))) := (e431 399 3 (by first | decide | omega)).trans k319
  have k348 : ai_hv t431 399 4 = some (.inl ((X 3) + (8 * (Y 3)))) := (e431 399 4 (by first | decide | omega)).trans k320
  have k349 : ai_hv t431 399 5 = some (.inl ((X 4) + (8 * (Y 4)))) := (e431 399 5 (by first | decide | omega)).trans k321
  have k350 : ai_hv t431 399 6 = some (.inl ((X 5) + (8 * (Y 5)))) := (e431 399 6 (by first | decide | omega)).trans k322
  have k351 : ai_hv t431 399 7 = some (.inl (B 0)) := (e431 399 7 (by first | decide | omega)).trans k323
  have k352 : ai_hv t431 399 9 = some (.inl 0) := (e431 399 9 (by first | decide | omega)).trans k324
  have k353 : ai_hv t431 399 11 = some (.inl 0) := (e431 399 11 (by first | decide | omega)).trans k325
  have k354 : ai_hv t431 399 13 = some (.inl 0) := (e431 399 13 (by first | decide | omega)).trans k326
  have k355 : ai_hv t431 399 15 = some (.inl 0) := (e431 399 15 (by first | decide | omega)).trans k327
  have k356 : ai_hv t431 399 8 = some (.inl (B 1)) := (e431 399 8 (by first | decide | omega)).trans k328
  have k357 : ai_hv t431 399 10 = some (.inl 0) := (e431 399 10 (by first | decide | omega)).trans k329
  have k358 : ai_hv t431 399 12 = some (.inl 0) := (e431 399 12 (by first | decide | omega)).trans k330
  have k359 : ai_hv t431 399 14 = some (.inl 0) := (e431 399 14 (by first | decide | omega)).trans k403
  refine ex_go (S := (138, [(2, .inl 2), (0, gx_r 383), (1, .inl 0)], [], t431, n, 0)) rfl (fun _ => rfl) rfl ?_
  refine ex_go (S := (65, [(2, .inl 2), (0, gx_r 383), (1, .inl 0)], [], t431, n, 0)) rfl (fun _ => rfl) rfl ?_
  refine ex_go (S := (66, [(2, .inl 2), (0, gx_r 383), (1, .inl 0)], [.inl 2], t431, n, 0)) rfl (fun _ => rfl) rfl ?_
  refine ex_go (S := (67, [(2, .inl 2), (0, gx_r 383), (1, .inl 0)], [.inl 2, .inl 2], t431, n, 0)) rfl (fun _ => rfl) rfl ?_
  refine ex_go (S := (141, [(2, .inl 2), (0, gx_r 383), (1, .inl 0)], [], t431, n, 0)) rfl (fun _ => rfl) rfl ?_
  refine ex_ret (r := (none, t431, n, 0)) rfl (fun _ => rfl) ?_
  refine ⟨_, rfl, t431, rfl, g431, (fun c i h => (e431 c i (by first | decide | omega)).trans ((e403 c i (by first | decide | omega)).trans ((e376 c i (by first | decide | omega)).trans ((e350 c i (by first | decide | omega)).trans ((e325 c i (by first | decide | omega)).trans ((e300 c i (by first | decide | omega)).trans ((e277 c i (by first | decide | omega)).trans ((e255 c i (by first | decide | omega)).trans ((e234 c i (by first | decide | omega)).trans ((e214 c i (by first | decide | omega)).trans ((e194 c i (by first | decide | omega)).trans ((e176 c i (by first | decide | omega)).trans ((e159 c i (by first | decide | omega)).trans ((e143 c i (by first | decide | omega)).trans ((e128 c i (by first | decide | omega)).trans ((e114 c i (by first | decide | omega)).trans (e101 c i (by first | decide | omega)))))))))))))))))), k344, (fun i hi => ?_), (fun c hc => ?_), fun j hj => ?_⟩
  · rcases (show i = 0 ∨ i = 1 ∨ i = 2 ∨ i = 3 ∨ i = 4 ∨ i = 5 by omega) with rfl | rfl | rfl | rfl | rfl | rfl
    · exact k345
    · exact k346
    · exact k347
    · exact k348
    · exact k349
    · exact k350
  · rcases (show c = 0 ∨ c = 1 by omega) with rfl | rfl
    · exact k351
    · exact k356
  · rcases (show j = 0 ∨ j = 1 ∨ j = 2 ∨ j = 3 ∨ j = 4 ∨ j = 5 ∨ j = 6 ∨ j = 7 by omega) with rfl | rfl | rfl | rfl | rfl | rfl | rfl | rfl
    · exact k352
    · exact k357
    · exact k353
    · exact k358
    · exact k354
    · exact k359
    · exact k355
    · exact k431
set_option maxRecDepth 100000 in
theorem pe_starts945 (d n : Nat) {t0 : en_H} (g0 : ai_HG ah_G t0) {X Y B : Nat → Nat} (kX : ∀ i, i < 6 → ai_hv t0 389 (77 + 3 * i) = some (.inl (X i))) (kY : ∀ i, i < 6 → ai_hv t0 389 (78 + 3 * i) = some (.inl (Y i))) (kB : ∀ c, c < 2 → ai_hv t0 389 (120 + 3 * c) = some (.inl (B c))) (hX : ∀ i, i < 6 → X i ≤ 7) (hY : ∀ i, i < 6 → Y i ≤ 7) (hB : ∀ c, c < 2 → B c ≤ 9999) : ∃ r, en_u (d + 2) 28 [gx_r 383, .inl 945] t0 n = some r ∧ ∃ t', r = (none, t', n, 0) ∧ ai_HG ah_G t' ∧ (∀ c i, ¬ (c = 399 ∧ 945 ≤ i ∧ i < 962) → ai_hv t' c i = ai_hv t0 c i) ∧ ai_hv t' 399 945 = some (.inl 0) ∧ (∀ i, i < 6 → ai_hv t' 399 (946 + i) = some (.inl (X i + 8 * Y i))) ∧ (∀ c, c < 2 → ai_hv t' 399 (952 + c) = some (.inl (B c))) ∧ (∀ j, j < 8 → ai_hv t' 399 (954 + j) = some (.inl 0)) := by
  refine en_u_ex (d := d + 1) rfl ?_
  show en_ex _ _ _ _ (0, [(0, gx_r 383), (1, .inl 945)], [], t0, n, 0) _
  have x0 : ai_hv t0 389 77 = some (.inl (X 0)) := kX 0 (by first | decide | omega)
  have y0 : ai_hv t0 389 78 = some (.inl (Y 0)) := kY 0 (by first | decide | omega)
  have hx0 := hX 0 (by first | decide | omega)
  have hy0 := hY 0 (by first | decide | omega)
  have x1 : ai_hv t0 389 80 = some (.inl (X 1)) := kX 1 (by first | decide | omega)
  have y1 : ai_hv t0 389 81 = some (.inl (Y 1)) := kY 1 (by first | decide | omega)
  have hx1 := hX 1 (by first | decide | omega)
  have hy1 := hY 1 (by first | decide | omega)
  have x2 : ai_hv t0 389 83 = some (.inl (X 2)) := kX 2 (by first | decide | omega)
  have y2 : ai_hv t0 389 84 = some (.inl (Y 2)) := kY 2 (by first | decide | omega)
  have hx2 := hX 2 (by first | decide | omega)
  have hy2 := hY 2 (by first | decide | omega)
  have x3 : ai_hv t0 389 86 = some (.inl (X 3)) := kX 3 (by first | decide | omega)
  have y3 : ai_hv t0 389 87 = some (.inl (Y 3)) := kY 3 (by first | decide | omega)
  have hx3 := hX 3 (by first | decide | omega)
  have hy3 := hY 3 (by first | decide | omega)
  have x4 : ai_hv t0 389 89 = some (.inl (X 4)) := kX 4 (by first | decide | omega)
  have y4 : ai_hv t0 389 90 = some (.inl (Y 4)) := kY 4 (by first | decide | omega)
  have hx4 := hX 4 (by first | decide | omega)
  have hy4 := hY 4 (by first | decide | omega)
  have x5 : ai_hv t0 389 92 = some (.inl (X 5)) := kX 5 (by first | decide | omega)
  have y5 : ai_hv t0 389 93 = some (.inl (Y 5)) := kY 5 (by first | decide | omega)
  have hx5 := hX 5 (by first | decide | omega)
  have hy5 := hY 5 (by first | decide | omega)
  have hb0 := hB 0 (by first | decide | omega)
  have hb1 := hB 1 (by first | decide | omega)
  refine ex_go (S := (1, [(0, gx_r 383), (1, .inl 945)], [gx_r 383], t0, n, 0)) rfl (fun _ => rfl) rfl ?_
  refine gx_ref (c := 399) rfl g0 rfl rfl rfl rfl ?_
  refine ex_go (S := (5, [(0, gx_r 383), (1, .inl 945)], [.inl 945, gx_r 399], t0, n, 0)) rfl (fun _ => rfl) rfl ?_
  refine ex_go (S := (6, [(0, gx_r 383), (1, .inl 945)], [.inl 0, .inl 945, gx_r 399], t0, n, 0)) rfl (fun _ => rfl) rfl ?_
  refine ex_go (S := (7, [(0, gx_r 383), (1, .inl 945)], [.inl 945, gx_r 399], t0, n, 0)) rfl (fun _ => rfl) rfl ?_
  refine ex_go (S := (8, [(0, gx_r 383), (1, .inl 945)], [.inl 0, .inl 945, gx_r 399], t0, n, 0)) rfl (fun _ => rfl) rfl ?_
  refine gx_ap rfl (fun _ => rfl) g0 rfl rfl rfl (show 945 < 1035 from by omega) rfl (gx_full (by first | decide | omega)) rfl (fun t101 g101 k101 e101 => ?_)
  have k2 : ai_hv t101 389 77 = some (.inl (X 0)) := (e101 389 77 (by first | decide | omega)).trans x0
  have k3 : ai_hv t101 389 78 = some (.inl (Y 0)) := (e101 389 78 (by first | decide | omega)).trans y0
  have k4 : ai_hv t101 389 80 = some (.inl (X 1)) := (e101 389 80 (by first | decide | omega)).trans x1
  have k5 : ai_hv t101 389 81 = some (.inl (Y 1)) := (e101 389 81 (by first | decide | omega)).trans y1
  have k6 : ai_hv t101 389 83 = some (.inl (X 2)) := (e101 389 83 (by first | decide | omega)).trans x2
  have k7 : ai_hv t101 389 84 = some (.inl (Y 2)) := (e101 389 84 (by first | decide | omega)).trans y2
  have k8 : ai_hv t101 389 86 = some (.inl (X 3)) := (e101 389 86 (by first | decide | omega)).trans x3
  have k9 : ai_hv t101 389 87 = some (.inl (Y 3)) := (e101 389 87 (by first | decide | omega)).trans y3
  have k10 : ai_hv t101 389 89 = some (.inl (X 4)) := (e101 389 89 (by first | decide | omega)).trans x4
  have k11 : ai_hv t101 389 90 = some (.inl (Y 4)) := (e101 389 90 (by first | decide | omega)).trans y4
  have k12 : ai_hv t101 389 92 = some (.inl (X 5)) := (e101 389 92 (by first | decide | omega)).trans x5
  have k13 : ai_hv t101 389 93 = some (.inl (Y 5)) := (e101 389 93 (by first | decide | omega)).trans y5
  refine ex_go (S := (10, [(0, gx_r 383), (1, .inl 945)], [.inl 0], t101, n, 0)) rfl (fun _ => rfl) rfl ?_
  refine ex_go (S := (11, [(2, .inl 0), (0, gx_r 383), (1, .inl 945)], [], t101, n, 0)) rfl (fun _ => rfl) rfl ?_
  refine ex_go (S := (12, [(2, .inl 0), (0, gx_r 383), (1, .inl 945)], [.inl 0], t101, n, 0)) rfl (fun _ => rfl) rfl ?_
  refine ex_go (S := (14, [(2, .inl 0), (0, gx_r 383), (1, .inl 945)], [.inl 6, .inl 0], t101, n, 0)) rfl (fun _ => rfl) rfl ?_
  refine ex_go (S := (17, [(2, .inl 0), (0, gx_r 383), (1, .inl 945)], [], t101, n, 0)) rfl (fun _ => rfl) rfl ?_
  refine ex_go (S := (18, [(2, .inl 0), (0, gx_r 383), (1, .inl 945)], [gx_r 383], t101, n, 0)) rfl (fun _ => rfl) rfl ?_
  refine gx_ref (c := 399) rfl g101 rfl rfl rfl rfl ?_
  refine ex_go (S := (22, [(2, .inl 0), (0, gx_r 383), (1, .inl 945)], [.inl 945, gx_r 399], t101, n, 0)) rfl (fun _ => rfl) rfl ?_
  refine ex_go (S := (23, [(2, .inl 0), (0, gx_r 383), (1, .inl 945)], [.inl 1, .inl 945, gx_r 399], t101, n, 0)) rfl (fun _ => rfl) rfl ?_
  refine ex_go (S := (24, [(2, .inl 0), (0, gx_r 383), (1, .inl 945)], [.inl 946, gx_r 399], t101, n, 0)) rfl (fun _ => rfl) rfl ?_
  refine ex_go (S := (25, [(2, .inl 0), (0, gx_r 383), (1, .inl 945)], [.inl 0, .inl 946, gx_r 399], t101, n, 0)) rfl (fun _ => rfl) rfl ?_
  refine ex_go (S := (26, [(2, .inl 0), (0, gx_r 383), (1, .inl 945)], [.inl 946, gx_r 399], t101, n, 0)) rfl (fun _ => rfl) rfl ?_
  refine ex_go (S := (27, [(2, .inl 0), (0, gx_r 383), (1, .inl 945)], [gx_r 383, .inl 946, gx_r 399], t101, n, 0)) rfl (fun _ => rfl) rfl ?_
  refine gx_ref (c := 389) rfl g101 rfl rfl rfl rfl ?_
  refine ex_go (S := (32, [(2, .inl 0), (0, gx_r 383), (1, .inl 945)], [.inl 76, gx_r 389, .inl 946, gx_r 399], t101, n, 0)) rfl (fun _ => rfl) rfl ?_
  refine ex_go (S := (33, [(2, .inl 0), (0, gx_r 383), (1, .inl 945)], [.inl 3, .inl 76, gx_r 389, .inl 946, gx_r 399], t101, n, 0)) rfl (fun _ => rfl) rfl ?_
  refine ex_go (S := (34, [(2, .inl 0), (0, gx_r 383), (1, .inl 945)], [.inl 0, .inl 3, .inl 76, gx_r 389, .inl 946, gx_r 399], t101, n, 0)) rfl (fun _ => rfl) rfl ?_
  refine ex_go (S := (35, [(2, .inl 0), (0, gx_r 383), (1, .inl 945)], [.inl 0, .inl 76, gx_r 389, .inl 946, gx_r 399], t101, n, 0)) rfl (fun _ => rfl) rfl ?_
  refine ex_go (S := (36, [(2, .inl 0), (0, gx_r 383), (1, .inl 945)], [.inl 76, gx_r 389, .inl 946, gx_r 399], t101, n, 0)) rfl (fun _ => rfl) rfl ?_
  refine ex_go (S := (37, [(2, .inl 0), (0, gx_r 383), (1, .inl 945)], [.inl 1, .inl 76, gx_r 389, .inl 946, gx_r 399], t101, n, 0)) rfl (fun _ => rfl) rfl ?_
  refine ex_go (S := (38, [(2, .inl 0), (0, gx_r 383), (1, .inl 945)], [.inl 77, gx_r 389, .inl 946, gx_r 399], t101, n, 0)) rfl (fun _ => rfl) rfl ?_
  refine gx_ag (v := .inl (X 0)) (cb := fun c => Nat.beq c 0) rfl (fun _ => rfl) g101 rfl rfl k2 (by first | decide | omega) rfl ?_
  refine ex_go (S := (41, [(2, .inl 0), (0, gx_r 383), (1, .inl 945)], [.inl 8, .inl (X 0), .inl 946, gx_r 399], t101, n, 0)) rfl (fun _ => rfl) rfl ?_
  refine ex_go (S := (42, [(2, .inl 0), (0, gx_r 383), (1, .inl 945)], [gx_r 383, .inl 8, .inl (X 0), .inl 946, gx_r 399], t101, n, 0)) rfl (fun _ => rfl) rfl ?_
  refine gx_ref (c := 389) rfl g101 rfl rfl rfl rfl ?_
  refine ex_go (S := (47, [(2, .inl 0), (0, gx_r 383), (1, .inl 945)], [.inl 76, gx_r 389, .inl 8, .inl (X 0), .inl 946, gx_r 399], t101, n, 0)) rfl (fun _ => rfl) rfl ?_
  refine ex_go (S := (48, [(2, .inl 0), (0, gx_r 383), (1, .inl 945)], [.inl 3, .inl 76, gx_r 389, .inl 8, .inl (X 0), .inl 946, gx_r 399], t101, n, 0)) rfl (fun _ => rfl) rfl ?_
  refine ex_go (S := (49, [(2, .inl 0), (0, gx_r 383), (1, .inl 945)], [.inl 0, .inl 3, .inl 76, gx_r 389, .inl 8, .inl (X 0), .inl 946, gx_r 399], t101, n, 0)) rfl (fun _ => rfl) rfl ?_
  refine ex_go (S := (50, [(2, .inl 0), (0, gx_r 383), (1, .inl 945)], [.inl 0, .inl 76, gx_r 389, .inl 8, .inl (X 0), .inl 946, gx_r 399], t101, n, 0)) rfl (fun _ => rfl) rfl ?_
  refine ex_go (S := (51, [(2, .inl 0), (0, gx_r 383), (1, .inl 945)], [.inl 76, gx_r 389, .inl 8, .inl (X 0), .inl 946, gx_r 399], t101, n, 0)) rfl (fun _ => rfl) rfl ?_
  refine ex_go (S := (52, [(2, .inl 0), (0, gx_r 383), (1, .inl 945)], [.inl 2, .inl 76, gx_r 389, .inl 8, .inl (X 0), .inl 946, gx_r 399], t101, n, 0)) rfl (fun _ => rfl) rfl ?_
  refine ex_go (S := (53, [(2, .inl 0), (0, gx_r 383), (1, .inl 945)], [.inl 78, gx_r 389, .inl 8, .inl (X 0), .inl 946, gx_r 399], t101, n, 0)) rfl (fun _ => rfl) rfl ?_
  refine gx_ag (v := .inl (Y 0)) (cb := fun c => Nat.beq c 0) rfl (fun _ => rfl) g101 rfl rfl k3 (by first | decide | omega) rfl ?_
  refine gx_imul rfl (by first | decide | omega) rfl ?_
  refine ex_iadd rfl (by first | decide | omega) rfl ?_
  refine gx_ap rfl (fun _ => rfl) g101 rfl rfl rfl (show 946 < 1035 from by omega) rfl (ai_in_h (by first | decide | omega) (by first | decide | omega) (by first | decide | omega)) rfl (fun t114 g114 k114 e114 => ?_)
  have k15 : ai_hv t114 389 77 = some (.inl (X 0)) := (e114 389 77 (by first | decide | omega)).trans k2
  have k16 : ai_hv t114 389 78 = some (.inl (Y 0)) := (e114 389 78 (by first | decide | omega)).trans k3
  have k17 : ai_hv t114 389 80 = some (.inl (X 1)) := (e114 389 80 (by first | decide | omega)).trans k4
  have k18 : ai_hv t114 389 81 = some (.inl (Y 1)) := (e114 389 81 (by first | decide | omega)).trans k5
  have k19 : ai_hv t114 389 83 = some (.inl (X 2)) := (e114 389 83 (by first | decide | omega)).trans k6
  have k20 : ai_hv t114 389 84 = some (.inl (Y 2)) := (e114 389 84 (by first | decide | omega)).trans k7
  have k21 : ai_hv t114 389 86 = some (.inl (X 3)) := (e114 389 86 (by first | decide | omega)).trans k8
  have k22 : ai_hv t114 389 87 = some (.inl (Y 3)) := (e114 389 87 (by first | decide | omega)).trans k9
  have k23 : ai_hv t114 389 89 = some (.inl (X 4)) := (e114 389 89 (by first | decide | omega)).trans k10
  have k24 : ai_hv t114 389 90 = some (.inl (Y 4)) := (e114 389 90 (by first | decide | omega)).trans k11
  have k25 : ai_hv t114 389 92 = some (.inl (X 5)) := (e114 389 92 (by first | decide | omega)).trans k12
  have k26 : ai_hv t114 389 93 = some (.inl (Y 5)) := (e114 389 93 (by first | decide | omega)).trans k13
  have k27 : ai_hv t114 399 945 = some (.inl 0) := (e114 399 945 (by first | decide | omega)).trans k101
  refine ex_go (S := (60, [(2, .inl 1), (0, gx_r 383), (1, .inl 945)], [], t114, n, 0)) rfl (fun _ => rfl) rfl ?_
  refine ex_go (S := (11, [(2, .inl 1), (0, gx_r 383), (1, .inl 945)], [], t114, n, 0)) rfl (fun _ => rfl) rfl ?_
  refine ex_go (S := (12, [(2, .inl 1), (0, gx_r 383), (1, .inl 945)], [.inl 1], t114, n, 0)) rfl (fun _ => rfl) rfl ?_
  refine ex_go (S := (14, [(2, .inl 1), (0, gx_r 383), (1, .inl 945)], [.inl 6, .inl 1], t114, n, 0)) rfl (fun _ => rfl) rfl ?_
  refine ex_go (S := (17, [(2, .inl 1), (0, gx_r 383), (1, .inl 945)], [], t114, n, 0)) rfl (fun _ => rfl) rfl ?_
  refine ex_go (S := (18, [(2, .inl 1), (0, gx_r 383), (1, .inl 945)], [gx_r 383], t114, n, 0)) rfl (fun _ => rfl) rfl ?_
  refine gx_ref (c := 399) rfl g114 rfl rfl rfl rfl ?_
  refine ex_go (S := (22, [(2, .inl 1), (0, gx_r 383), (1, .inl 945)], [.inl 945, gx_r 399], t114, n, 0)) rfl (fun _ => rfl) rfl ?_
  refine ex_go (S := (23, [(2, .inl 1), (0, gx_r 383), (1, .inl 945)], [.inl 1, .inl 945, gx_r 399], t114, n, 0)) rfl (fun _ => rfl) rfl ?_
  refine ex_go (S := (24, [(2, .inl 1), (0, gx_r 383), (1, .inl 945)], [.inl 946, gx_r 399], t114, n, 0)) rfl (fun _ => rfl) rfl ?_
  refine ex_go (S := (25, [(2, .inl 1), (0, gx_r 383), (1, .inl 945)], [.inl 1, .inl 946, gx_r 399], t114, n, 0)) rfl (fun _ => rfl) rfl ?_
  refine ex_go (S := (26, [(2, .inl 1), (0, gx_r 383), (1, .inl 945)], [.inl 947, gx_r 399], t114, n, 0)) rfl (fun _ => rfl) rfl ?_
  refine ex_go (S := (27, [(2, .inl 1), (0, gx_r 383), (1, .inl 945)], [gx_r 383, .inl 947, gx_r 399], t114, n, 0)) rfl (fun _ => rfl) rfl ?_
  refine gx_ref (c := 389) rfl g114 rfl rfl rfl rfl ?_
  refine ex_go (S := (32, [(2, .inl 1), (0, gx_r 383), (1, .inl 945)], [.inl 76, gx_r 389, .inl 947, gx_r 399], t114, n, 0)) rfl (fun _ => rfl) rfl ?_
  refine ex_go (S := (33, [(2, .inl 1), (0, gx_r 383), (1, .inl 945)], [.inl 3, .inl 76, gx_r 389, .inl 947, gx_r 399], t114, n, 0)) rfl (fun _ => rfl) rfl ?_
  refine ex_go (S := (34, [(2, .inl 1), (0, gx_r 383), (1, .inl 945)], [.inl 1, .inl 3, .inl 76, gx_r 389, .inl 947, gx_r 399], t114, n, 0)) rfl (fun _ => rfl) rfl ?_
  refine ex_go (S := (35, [(2, .inl 1), (0, gx_r 383), (1, .inl 945)], [.inl 3, .inl 76, gx_r 389, .inl 947, gx_r 399], t114, n, 0)) rfl (fun _ => rfl) rfl ?_
  refine ex_go (S := (36, [(2, .inl 1), (0, gx_r 383), (1, .inl 945)], [.inl 79, gx_r 389, .inl 947, gx_r 399], t114, n, 0)) rfl (fun _ => rfl) rfl ?_
  refine ex_go (S := (37, [(2, .inl 1), (0, gx_r 383), (1, .inl 945)], [.inl 1, .inl 79, gx_r 389, .inl 947, gx_r 399], t114, n, 0)) rfl (fun _ => rfl) rfl ?_
  refine ex_go (S := (38, [(2, .inl 1), (0, gx_r 383), (1, .inl 945)], [.inl 80, gx_r 389, .inl 947, gx_r 399], t114, n, 0)) rfl (fun _ => rfl) rfl ?_
  refine gx_ag (v := .inl (X 1)) (cb := fun c => Nat.beq c 0) rfl (fun _ => rfl) g114 rfl rfl k17 (by first | decide | omega) rfl ?_
  refine ex_go (S := (41, [(2, .inl 1), (0, gx_r 383), (1, .inl 945)], [.inl 8, .inl (X 1), .inl 947, gx_r 399], t114, n, 0)) rfl (fun _ => rfl) rfl ?_
  refine ex_go (S := (42, [(2, .inl 1), (0, gx_r 383), (1, .inl 945)], [gx_r 383, .inl 8, .inl (X 1), .inl 947, gx_r 399], t114, n, 0)) rfl (fun _ => rfl) rfl ?_
  refine gx_ref (c := 389) rfl g114 rfl rfl rfl rfl ?_
  refine ex_go (S := (47, [(2, .inl 1), (0, gx_r 383), (1, .inl 945)], [.inl 76, gx_r 389, .inl 8, .inl (X 1), .inl 947, gx_r 399], t114, n, 0)) rfl (fun _ => rfl) rfl ?_
  refine ex_go (S := (48, [(2, .inl 1), (0, gx_r 383), (1, .inl 945)], [.inl 3, .inl 76, gx_r 389, .inl 8, .inl (X 1), .inl 947, gx_r 399], t114, n, 0)) rfl (fun _ => rfl) rfl ?_
  refine ex_go (S := (49, [(2, .inl 1), (0, gx_r 383), (1, .inl 945)], [.inl 1, .inl 3, .inl 76, gx_r 389, .inl 8, .inl (X 1), .inl 947, gx_r 399], t114, n, 0)) rfl (fun _ => rfl) rfl ?_
  refine ex_go (S := (50, [(2, .inl 1), (0, gx_r 383), (1, .inl 945)], [.inl 3, .inl 76, gx_r 389, .inl 8, .inl (X 1), .inl 947, gx_r 399], t114, n, 0)) rfl (fun _ => rfl) rfl ?_
  refine ex_go (S := (51, [(2, .inl 1), (0, gx_r 383), (1, .inl 945)], [.inl 79, gx_r 389, .inl 8, .inl (X 1), .inl 947, gx_r 399], t114, n, 0)) rfl (fun _ => rfl) rfl ?_
  refine ex_go (S := (52, [(2, .inl 1), (0, gx_r 383), (1, .inl 945)], [.inl 2, .inl 79, gx_r 389, .inl 8, .inl (X 1), .inl 947, gx_r 399], t114, n, 0)) rfl (fun _ => rfl) rfl ?_
  refine ex_go (S := (53, [(2, .inl 1), (0, gx_r 383), (1, .inl 945)], [.inl 81, gx_r 389, .inl 8, .inl (X 1), .inl 947, gx_r 399], t114, n, 0)) rfl (fun _ => rfl) rfl ?_
  refine gx_ag (v := .inl (Y 1)) (cb := fun c => Nat.beq c 0) rfl (fun _ => rfl) g114 rfl rfl k18 (by first | decide | omega) rfl ?_
  refine gx_imul rfl (by first | decide | omega) rfl ?_
  refine ex_iadd rfl (by first | decide | omega) rfl ?_
  refine gx_ap rfl (fun _ => rfl) g114 rfl rfl rfl (show 947 < 1035 from by omega) rfl (ai_in_h (by first | decide | omega) (by first | decide | omega) (by first | decide | omega)) rfl (fun t128 g128 k128 e128 => ?_)
  have k29 : ai_hv t128 389 77 = some (.inl (X 0)) := (e128 389 77 (by first | decide | omega)).trans k15
  have k30 : ai_hv t128 389 78 = some (.inl (Y 0)) := (e128 389 78 (by first | decide | omega)).trans k16
  have k31 : ai_hv t128 389 80 = some (.inl (X 1)) := (e128 389 80 (by first | decide | omega)).trans k17
  have k32 : ai_hv t128 389 81 = some (.inl (Y 1)) := (e128 389 81 (by first | decide | omega)).trans k18
  have k33 : ai_hv t128 389 83 = some (.inl (X 2)) := (e128 389 83 (by first | decide | omega)).trans k19
  have k34 : ai_hv t128 389 84 = some (.inl (Y 2)) := (e128 389 84 (by first | decide | omega)).trans k20
  have k35 : ai_hv t128 389 86 = some (.inl (X 3)) := (e128 389 86 (by first | decide | omega)).trans k21
  have k36 : ai_hv t128 389 87 = some (.inl (Y 3)) := (e128 389 87 (by first | decide | omega)).trans k22
  have k37 : ai_hv t128 389 89 = some (.inl (X 4)) := (e128 389 89 (by first | decide | omega)).trans k23
  have k38 : ai_hv t128 389 90 = some (.inl (Y 4)) := (e128 389 90 (by first | decide | omega)).trans k24
  have k39 : ai_hv t128 389 92 = some (.inl (X 5)) := (e128 389 92 (by first | decide | omega)).trans k25
  have k40 : ai_hv t128 389 93 = some (.inl (Y 5)) := (e128 389 93 (by first | decide | omega)).trans k26
  have k41 : ai_hv t128 399 945 = some (.inl 0) := (e128 399 945 (by first | decide | omega)).trans k27
  have k42 : ai_hv t128 399 946 = some (.inl ((X 0) + (8 * (Y 0)))) := (e128 399 946 (by first | decide | omega)).trans k114
  refine ex_go (S := (60, [(2, .inl 2), (0, gx_r 383), (1, .inl 945)], [], t128, n, 0)) rfl (fun _ => rfl) rfl ?_
  refine ex_go (S := (11, [(2, .inl 2), (0, gx_r 383), (1, .inl 945)], [], t128, n, 0)) rfl (fun _ => rfl) rfl ?_
  refine ex_go (S := (12, [(2, .inl 2), (0, gx_r 383), (1, .inl 945)], [.inl 2], t128, n, 0)) rfl (fun _ => rfl) rfl ?_
  refine ex_go (S := (14, [(2, .inl 2), (0, gx_r 383), (1, .inl 945)], [.inl 6, .inl 2], t128, n, 0)) rfl (fun _ => rfl) rfl ?_
  refine ex_go (S := (17, [(2, .inl 2), (0, gx_r 383), (1, .inl 945)], [], t128, n, 0)) rfl (fun _ => rfl) rfl ?_
  refine ex_go (S := (18, [(2, .inl 2), (0, gx_r 383), (1, .inl 945)], [gx_r 383], t128, n, 0)) rfl (fun _ => rfl) rfl ?_
  refine gx_ref (c := 399) rfl g128 rfl rfl rfl rfl ?_
  refine ex_go (S := (22, [(2, .inl 2), (0, gx_r 383), (1, .inl 945)], [.inl 945, gx_r 399], t128, n, 0)) rfl (fun _ => rfl) rfl ?_
  refine ex_go (S := (23, [(2, .inl 2), (0, gx_r 383), (1, .inl 945)], [.inl 1, .inl 945, gx_r 399], t128, n, 0)) rfl (fun _ => rfl) rfl ?_
  refine ex_go (S := (24, [(2, .inl 2), (0, gx_r 383), (1, .inl 945)], [.inl 946, gx_r 399], t128, n, 0)) rfl (fun _ => rfl) rfl ?_
  refine ex_go (S := (25, [(2, .inl 2), (0, gx_r 383), (1, .inl 945)], [.inl 2, .inl 946, gx_r 399], t128, n, 0)) rfl (fun _ => rfl) rfl ?_
  refine ex_go (S := (26, [(2, .inl 2), (0, gx_r 383), (1, .inl 945)], [.inl 948, gx_r 399], t128, n, 0)) rfl (fun _ => rfl) rfl ?_
  refine ex_go (S := (27, [(2, .inl 2), (0, gx_r 383), (1, .inl 945)], [gx_r 383, .inl 948, gx_r 399], t128, n, 0)) rfl (fun _ => rfl) rfl ?_
  refine gx_ref (c := 389) rfl g128 rfl rfl rfl rfl ?_
  refine ex_go (S := (32, [(2, .inl 2), (0, gx_r 383), (1, .inl 945)], [.inl 76, gx_r 389, .inl 948, gx_r 399], t128, n, 0)) rfl (fun _ => rfl) rfl ?_
  refine ex_go (S := (33, [(2, .inl 2), (0, gx_r 383), (1, .inl 945)], [.inl 3, .inl 76, gx_r 389, .inl 948, gx_r 399], t128, n, 0)) rfl (fun _ => rfl) rfl ?_
  refine ex_go (S := (34, [(2, .inl 2), (0, gx_r 383), (1, .inl 945)], [.inl 2, .inl 3, .inl 76, gx_r 389, .inl 948, gx_r 399], t128, n, 0)) rfl (fun _ => rfl) rfl ?_
  refine ex_go (S := (35, [(2, .inl 2), (0, gx_r 383), (1, .inl 945)], [.inl 6, .inl 76, gx_r 389, .inl 948, gx_r 399], t128, n, 0)) rfl (fun _ => rfl) rfl ?_
  refine ex_go (S := (36, [(2, .inl 2), (0, gx_r 383), (1, .inl 945)], [.inl 82, gx_r 389, .inl 948, gx_r 399], t128, n, 0)) rfl (fun _ => rfl) rfl ?_
  refine ex_go (S := (37, [(2, .inl 2), (0, gx_r 383), (1, .inl 945)], [.inl 1, .inl 82, gx_r 389, .inl 948, gx_r 399], t128, n, 0)) rfl (fun _ => rfl) rfl ?_
  refine ex_go (S := (38, [(2, .inl 2), (0, gx_r 383), (1, .inl 945)], [.inl 83, gx_r 389, .inl 948, gx_r 399], t128, n, 0)) rfl (fun _ => rfl) rfl ?_
  refine gx_ag (v := .inl (X 2)) (cb := fun c => Nat.beq c 0) rfl (fun _ => rfl) g128 rfl rfl k33 (by first | decide | omega) rfl ?_
  refine ex_go (S := (41, [(2, .inl 2), (0, gx_r 383), (1, .inl 945)], [.inl 8, .inl (X 2), .inl 948, gx_r 399], t128, n, 0)) rfl (fun _ => rfl) rfl ?_
  refine ex_go (S := (42, [(2, .inl 2), (0, gx_r 383), (1, .inl 945)], [gx_r 383, .inl 8, .inl (X 2), .inl 948, gx_r 399], t128, n, 0)) rfl (fun _ => rfl) rfl ?_
  refine gx_ref (c := 389) rfl g128 rfl rfl rfl rfl ?_
  refine ex_go (S := (47, [(2, .inl 2), (0, gx_r 383), (1, .inl 945)], [.inl 76, gx_r 389, .inl 8, .inl (X 2), .inl 948, gx_r 399], t128, n, 0)) rfl (fun _ => rfl) rfl ?_
  refine ex_go (S := (48, [(2, .inl 2), (0, gx_r 383), (1, .inl 945)], [.inl 3, .inl 76, gx_r 389, .inl 8, .inl (X 2), .inl 948, gx_r 399], t128, n, 0)) rfl (fun _ => rfl) rfl ?_
  refine ex_go (S := (49, [(2, .inl 2), (0, gx_r 383), (1, .inl 945)], [.inl 2, .inl 3, .inl 76, gx_r 389, .inl 8, .inl (X 2), .inl 948, gx_r 399], t128, n, 0)) rfl (fun _ => rfl) rfl ?_
  refine ex_go (S := (50, [(2, .inl 2), (0, gx_r 383), (1, .inl 945)], [.inl 6, .inl 76, gx_r 389, .inl 8, .inl (X 2), .inl 948, gx_r 399], t128, n, 0)) rfl (fun _ => rfl) rfl ?_
  refine ex_go (S := (51, [(2, .inl 2), (0, gx_r 383), (1, .inl 945)], [.inl 82, gx_r 389, .inl 8, .inl (X 2), .inl 948, gx_r 399], t128, n, 0)) rfl (fun _ => rfl) rfl ?_
  refine ex_go (S := (52, [(2, .inl 2), (0, gx_r 383), (1, .inl 945)], [.inl 2, .inl 82, gx_r 389, .inl 8, .inl (X 2), .inl 948, gx_r 399], t128, n, 0)) rfl (fun _ => rfl) rfl ?_
  refine ex_go (S := (53, [(2, .inl 2), (0, gx_r 383), (1, .inl 945)], [.inl 84, gx_r 389, .inl 8, .inl (X 2), .inl 948, gx_r 399], t128, n, 0)) rfl (fun _ => rfl) rfl ?_
  refine gx_ag (v := .inl (Y 2)) (cb := fun c => Nat.beq c 0) rfl (fun _ => rfl) g128 rfl rfl k34 (by first | decide | omega) rfl ?_
  refine gx_imul rfl (by first | decide | omega) rfl ?_
  refine ex_iadd rfl (by first | decide | omega) rfl ?_
  refine gx_ap rfl (fun _ => rfl) g128 rfl rfl rfl (show 948 < 1035 from by omega) rfl (ai_in_h (by first | decide | omega) (by first | decide | omega) (by first | decide | omega)) rfl (fun t143 g143 k143 e143 => ?_)
  have k44 : ai_hv t143 389 77 = some (.inl (X 0)) := (e143 389 77 (by first | decide | omega)).trans k29
  have k45 : ai_hv t143 389 78 = some (.inl (Y 0)) := (e143 389 78 (by first | decide | omega)).trans k30
  have k46 : ai_hv t143 389 80 = some (.inl (X 1)) := (e143 389 80 (by first | decide | omega)).trans k31
  have k47 : ai_hv t143 389 81 = some (.inl (Y 1)) := (e143 389 81 (by first | decide | omega)).trans k32
  have k48 : ai_hv t143 389 83 = some (.inl (X 2)) := (e143 389 83 (by first | decide | omega)).trans k33
  have k49 : ai_hv t143 389 84 = some (.inl (Y 2)) := (e143 389 84 (by first | decide | omega)).trans k34
  have k50 : ai_hv t143 389 86 = some (.inl (X 3)) := (e143 389 86 (by first | decide | omega)).trans k35
  have k51 : ai_hv t143 389 87 = some (.inl (Y 3)) := (e143 389 87 (by first | decide | omega)).trans k36
  have k52 : ai_hv t143 389 89 = some (.inl (X 4)) := (e143 389 89 (by first | decide | omega)).trans k37
  have k53 : ai_hv t143 389 90 = some (.inl (Y 4)) := (e143 389 90 (by first | decide | omega)).trans k38
  have k54 : ai_hv t143 389 92 = some (.inl (X 5)) := (e143 389 92 (by first | decide | omega)).trans k39
  have k55 : ai_hv t143 389 93 = some (.inl (Y 5)) := (e143 389 93 (by first | decide | omega)).trans k40
  have k56 : ai_hv t143 399 945 = some (.inl 0) := (e143 399 945 (by first | decide | omega)).trans k41
  have k57 : ai_hv t143 399 946 = some (.inl ((X 0) + (8 * (Y 0)))) := (e143 399 946 (by first | decide | omega)).trans k42
  have k58 : ai_hv t143 399 947 = some (.inl ((X 1) + (8 * (Y 1)))) := (e143 399 947 (by first | decide | omega)).trans k128
  refine ex_go (S := (60, [(2, .inl 3), (0, gx_r 383), (1, .inl 945)], [], t143, n, 0)) rfl (fun _ => rfl) rfl ?_
  refine ex_go (S := (11, [(2, .inl 3), (0, gx_r 383), (1, .inl 945)], [], t143, n, 0)) rfl (fun _ => rfl) rfl ?_
  refine ex_go (S := (12, [(2, .inl 3), (0, gx_r 383), (1, .inl 945)], [.inl 3], t143, n, 0)) rfl (fun _ => rfl) rfl ?_
  refine ex_go (S := (14, [(2, .inl 3), (0, gx_r 383), (1, .inl 945)], [.inl 6, .inl 3], t143, n, 0)) rfl (fun _ => rfl) rfl ?_
  refine ex_go (S := (17, [(2, .inl 3), (0, gx_r 383), (1, .inl 945)], [], t143, n, 0)) rfl (fun _ => rfl) rfl ?_
  refine ex_go (S := (18, [(2, .inl 3), (0, gx_r 383), (1, .inl 945)], [gx_r 383], t143, n, 0)) rfl (fun _ => rfl) rfl ?_
  refine gx_ref (c := 399) rfl g143 rfl rfl rfl rfl ?_
  refine ex_go (S := (22, [(2, .inl 3), (0, gx_r 383), (1, .inl 945)], [.inl 945, gx_r 399], t143, n, 0)) rfl (fun _ => rfl) rfl ?_
  refine ex_go (S := (23, [(2, .inl 3), (0, gx_r 383), (1, .inl 945)], [.inl 1, .inl 945, gx_r 399], t143, n, 0)) rfl (fun _ => rfl) rfl ?_
  refine ex_go (S := (24, [(2, .inl 3), (0, gx_r 383), (1, .inl 945)], [.inl 946, gx_r 399], t143, n, 0)) rfl (fun _ => rfl) rfl ?_
  refine ex_go (S := (25, [(2, .inl 3), (0, gx_r 383), (1, .inl 945)], [.inl 3, .inl 946, gx_r 399], t143, n, 0)) rfl (fun _ => rfl) rfl ?_
  refine ex_go (S := (26, [(2, .inl 3), (0, gx_r 383), (1, .inl 945)], [.inl 949, gx_r 399], t143, n, 0)) rfl (fun _ => rfl) rfl ?_
  refine ex_go (S := (27, [(2, .inl 3), (0, gx_r 383), (1, .inl 945)], [gx_r 383, .inl 949, gx_r 399], t143, n, 0)) rfl (fun _ => rfl) rfl ?_
  refine gx_ref (c := 389) rfl g143 rfl rfl rfl rfl ?_
  refine ex_go (S := (32, [(2, .inl 3), (0, gx_r 383), (1, .inl 945)], [.inl 76, gx_r 389, .inl 949, gx_r 399], t143, n, 0)) rfl (fun _ => rfl) rfl ?_
  refine ex_go (S := (33, [(2, .inl 3), (0, gx_r 383), (1, .inl 945)], [.inl 3, .inl 76, gx_r 389, .inl 949, gx_r 399], t143, n, 0)) rfl (fun _ => rfl) rfl ?_
  refine ex_go (S := (34, [(2, .inl 3), (0, gx_r 383), (1, .inl 945)], [.inl 3, .inl 3, .inl 76, gx_r 389, .inl 949, gx_r 399], t143, n, 0)) rfl (fun _ => rfl) rfl ?_
  refine ex_go (S := (35, [(2, .inl 3), (0, gx_r 383), (1, .inl 945)], [.inl 9, .inl 76, gx_r 389, .inl 949, gx_r 399], t143, n, 0)) rfl (fun _ => rfl) rfl ?_
  refine ex_go (S := (36, [(2, .inl 3), (0, gx_r 383), (1, .inl 945)], [.inl 85, gx_r 389, .inl 949, gx_r 399], t143, n, 0)) rfl (fun _ => rfl) rfl ?_
  refine ex_go (S := (37, [(2, .inl 3), (0, gx_r 383), (1, .inl 945)], [.inl 1, .inl 85, gx_r 389, .inl 949, gx_r 399], t143, n, 0)) rfl (fun _ => rfl) rfl ?_
  refine ex_go (S := (38, [(2, .inl 3), (0, gx_r 383), (1, .inl 945)], [.inl 86, gx_r 389, .inl 949, gx_r 399], t143, n, 0)) rfl (fun _ => rfl) rfl ?_
  refine gx_ag (v := .inl (X 3)) (cb := fun c => Nat.beq c 0) rfl (fun _ => rfl) g143 rfl rfl k50 (by first | decide | omega) rfl ?_
  refine ex_go (S := (41, [(2, .inl 3), (0, gx_r 383), (1, .inl 945)], [.inl 8, .inl (X 3), .inl 949, gx_r 399], t143, n, 0)) rfl (fun _ => rfl) rfl ?_
  refine ex_go (S := (42, [(2, .inl 3), (0, gx_r 383), (1, .inl 945)], [gx_r 383, .inl 8, .inl (X 3), .inl 949, gx_r 399], t143, n, 0)) rfl (fun _ => rfl) rfl ?_
  refine gx_ref (c := 389) rfl g143 rfl rfl rfl rfl ?_
  refine ex_go (S := (47, [(2, .inl 3), (0, gx_r 383), (1, .inl 945)], [.inl 76, gx_r 389, .inl 8, .inl (X 3), .inl 949, gx_r 399], t143, n, 0)) rfl (fun _ => rfl) rfl ?_
  refine ex_go (S := (48, [(2, .inl 3), (0, gx_r 383), (1, .inl 945)], [.inl 3, .inl 76, gx_r 389, .inl 8, .inl (X 3), .inl 949, gx_r 399], t143, n, 0)) rfl (fun _ => rfl) rfl ?_
  refine ex_go (S := (49, [(2, .inl 3), (0, gx_r 383), (1, .inl 945)], [.inl 3, .inl 3, .inl 76, gx_r 389, .inl 8, .inl (X 3), .inl 949, gx_r 399], t143, n, 0)) rfl (fun _ => rfl) rfl ?_
  refine ex_go (S := (50, [(2, .inl 3), (0, gx_r 383), (1, .inl 945)], [.inl 9, .inl 76, gx_r 389, .inl 8, .inl (X 3), .inl 949, gx_r 399], t143, n, 0)) rfl (fun _ => rfl) rfl ?_
  refine ex_go (S := (51, [(2, .inl 3), (0, gx_r 383), (1, .inl 945)], [.inl 85, gx_r 389, .inl 8, .inl (X 3), .inl 949, gx_r 399], t143, n, 0)) rfl (fun _ => rfl) rfl ?_
  refine ex_go (S := (52, [(2, .inl 3), (0, gx_r 383), (1, .inl 945)], [.inl 2, .inl 85, gx_r 389, .inl 8, .inl (X 3), .inl 949, gx_r 399], t143, n, 0)) rfl (fun _ => rfl) rfl ?_
  refine ex_go (S := (53, [(2, .inl 3), (0, gx_r 383), (1, .inl 945)], [.inl 87, gx_r 389, .inl 8, .inl (X 3), .inl 949, gx_r 399], t143, n, 0)) rfl (fun _ => rfl) rfl ?_
  refine gx_ag (v := .inl (Y 3)) (cb := fun c => Nat.beq c 0) rfl (fun _ => rfl) g143 rfl rfl k51 (by first | decide | omega) rfl ?_
  refine gx_imul rfl (by first | decide | omega) rfl ?_
  refine ex_iadd rfl (by first | decide | omega) rfl ?_
  refine gx_ap rfl (fun _ => rfl) g143 rfl rfl rfl (show 949 < 1035 from by omega) rfl (ai_in_h (by first | decide | omega) (by first | decide | omega) (by first | decide | omega)) rfl (fun t159 g159 k159 e159 => ?_)
  have k60 : ai_hv t159 389 77 = some (.inl (X 0)) := (e159 389 77 (by first | decide | omega)).trans k44
  have k61 : ai_hv t159 389 78 = some (.inl (Y 0)) := (e159 389 78 (by first | decide | omega)).trans k45
  have k62 : ai_hv t159 389 80 = some (.inl (X 1)) := (e159 389 80 (by first | decide | omega)).trans k46
  have k63 : ai_hv t159 389 81 = some (.inl (Y 1)) := (e159 389 81 (by first | decide | omega)).trans k47
  have k64 : ai_hv t159 389 83 = some (.inl (X 2)) := (e159 389 83 (by first | decide | omega)).trans k48
  have k65 : ai_hv t159 389 84 = some (.inl (Y 2)) := (e159 389 84 (by first | decide | omega)).trans k49
  have k66 : ai_hv t159 389 86 = some (.inl (X 3)) := (e159 389 86 (by first | decide | omega)).trans k50
  have k67 : ai_hv t159 389 87 = some (.inl (Y 3)) := (e159 389 87 (by first | decide | omega)).trans k51
  have k68 : ai_hv t159 389 89 = some (.inl (X 4)) := (e159 389 89 (by first | decide | omega)).trans k52
  have k69 : ai_hv t159 389 90 = some (.inl (Y 4)) := (e159 389 90 (by first | decide | omega)).trans k53
  have k70 : ai_hv t159 389 92 = some (.inl (X 5)) := (e159 389 92 (by first | decide | omega)).trans k54
  have k71 : ai_hv t159 389 93 = some (.inl (Y 5)) := (e159 389 93 (by first | decide | omega)).trans k55
  have k72 : ai_hv t159 399 945 = some (.inl 0) := (e159 399 945 (by first | decide | omega)).trans k56
  have k73 : ai_hv t159 399 946 = some (.inl ((X 0) + (8 * (Y 0)))) := (e159 399 946 (by first | decide | omega)).trans k57
  have k74 : ai_hv t159 399 947 = some (.inl ((X 1) + (8 * (Y 1)))) := (e159 399 947 (by first | decide | omega)).trans k58
  have k75 : ai_hv t159 399 948 = some (.inl ((X 2) + (8 * (Y 2)))) := (e159 399 948 (by first | decide | omega)).trans k143
  refine ex_go (S := (60, [(2, .inl 4), (0, gx_r 383), (1, .inl 945)], [], t159, n, 0)) rfl (fun _ => rfl) rfl ?_
  refine ex_go (S := (11, [(2, .inl 4), (0, gx_r 383), (1, .inl 945)], [], t159, n, 0)) rfl (fun _ => rfl) rfl ?_
  refine ex_go (S := (12, [(2, .inl 4), (0, gx_r 383), (1, .inl 945)], [.inl 4], t159, n, 0)) rfl (fun _ => rfl) rfl ?_
  refine ex_go (S := (14, [(2, .inl 4), (0, gx_r 383), (1, .inl 945)], [.inl 6, .inl 4], t159, n, 0)) rfl (fun _ => rfl) rfl ?_
  refine ex_go (S := (17, [(2, .inl 4), (0, gx_r 383), (1, .inl 945)], [], t159, n, 0)) rfl (fun _ => rfl) rfl ?_
  refine ex_go (S := (18, [(2, .inl 4), (0, gx_r 383), (1, .inl 945)], [gx_r 383], t159, n, 0)) rfl (fun _ => rfl) rfl ?_
  refine gx_ref (c := 399) rfl g159 rfl rfl rfl rfl ?_
  refine ex_go (S := (22, [(2, .inl 4), (0, gx_r 383), (1, .inl 945)], [.inl 945, gx_r 399], t159, n, 0)) rfl (fun _ => rfl) rfl ?_
  refine ex_go (S := (23, [(2, .inl 4), (0, gx_r 383), (1, .inl 945)], [.inl 1, .inl 945, gx_r 399], t159, n, 0)) rfl (fun _ => rfl) rfl ?_
  refine ex_go (S := (24, [(2, .inl 4), (0, gx_r 383), (1, .inl 945)], [.inl 946, gx_r 399], t159, n, 0)) rfl (fun _ => rfl) rfl ?_
  refine ex_go (S := (25, [(2, .inl 4), (0, gx_r 383), (1, .inl 945)], [.inl 4, .inl 946, gx_r 399], t159, n, 0)) rfl (fun _ => rfl) rfl ?_
  refine ex_go (S := (26, [(2, .inl 4), (0, gx_r 383), (1, .inl 945)], [.inl 950, gx_r 399], t159, n, 0)) rfl (fun _ => rfl) rfl ?_
  refine ex_go (S := (27, [(2, .inl 4), (0, gx_r 383), (1, .inl 945)], [gx_r 383, .inl 950, gx_r 399], t159, n, 0)) rfl (fun _ => rfl) rfl ?_
  refine gx_ref (c := 389) rfl g159 rfl rfl rfl rfl ?_
  refine ex_go (S := (32, [(2, .inl 4), (0, gx_r 383), (1, .inl 945)], [.inl 76, gx_r 389, .inl 950, gx_r 399], t159, n, 0)) rfl (fun _ => rfl) rfl ?_
  refine ex_go (S := (33, [(2, .inl 4), (0, gx_r 383), (1, .inl 945)], [.inl 3, .inl 76, gx_r 389, .inl 950, gx_r 399], t159, n, 0)) rfl (fun _ => rfl) rfl ?_
  refine ex_go (S := (34, [(2, .inl 4), (0, gx_r 383), (1, .inl 945)], [.inl 4, .inl 3, .inl 76, gx_r 389, .inl 950, gx_r 399], t159, n, 0)) rfl (fun _ => rfl) rfl ?_
  refine ex_go (S := (35, [(2, .inl 4), (0, gx_r 383), (1, .inl 945)], [.inl 12, .inl 76, gx_r 389, .inl 950, gx_r 399], t159, n, 0)) rfl (fun _ => rfl) rfl ?_
  refine ex_go (S := (36, [(2, .inl 4), (0, gx_r 383), (1, .inl 945)], [.inl 88, gx_r 389, .inl 950, gx_r 399], t159, n, 0)) rfl (fun _ => rfl) rfl ?_
  refine ex_go (S := (37, [(2, .inl 4), (0, gx_r 383), (1, .inl 945)], [.inl 1, .inl 88, gx_r 389, .inl 950, gx_r 399], t159, n, 0)) rfl (fun _ => rfl) rfl ?_
  refine ex_go (S := (38, [(2, .inl 4), (0, gx_r 383), (1, .inl 945)], [.inl 89, gx_r 389, .inl 950, gx_r 399], t159, n, 0)) rfl (fun _ => rfl) rfl ?_
  refine gx_ag (v := .inl (X 4)) (cb := fun c => Nat.beq c 0) rfl (fun _ => rfl) g159 rfl rfl k68 (by first | decide | omega) rfl ?_
  refine ex_go (S := (41, [(2, .inl 4), (0, gx_r 383), (1, .inl 945)], [.inl 8, .inl (X 4), .inl 950, gx_r 399], t159, n, 0)) rfl (fun _ => rfl) rfl ?_
  refine ex_go (S := (42, [(2, .inl 4), (0, gx_r 383), (1, .inl 945)], [gx_r 383, .inl 8, .inl (X 4), .inl 950, gx_r 399], t159, n, 0)) rfl (fun _ => rfl) rfl ?_
  refine gx_ref (c := 389) rfl g159 rfl rfl rfl rfl ?_
  refine ex_go (S := (47, [(2, .inl 4), (0, gx_r 383), (1, .inl 945)], [.inl 76, gx_r 389, .inl 8, .inl (X 4), .inl 950, gx_r 399], t159, n, 0)) rfl (fun _ => rfl) rfl ?_
  refine ex_go (S := (48, [(2, .inl 4), (0, gx_r 383), (1, .inl 945)], [.inl 3, .inl 76, gx_r 389, .inl 8, .inl (X 4), .inl 950, gx_r 399], t159, n, 0)) rfl (fun _ => rfl) rfl ?_
  refine ex_go (S := (49, [(2, .inl 4), (0, gx_r 383), (1, .inl 945)], [.inl 4, .inl 3, .inl 76, gx_r 389, .inl 8, .inl (X 4), .inl 950, gx_r 399], t159, n, 0)) rfl (fun _ => rfl) rfl ?_
  refine ex_go (S := (50, [(2, .inl 4), (0, gx_r 383), (1, .inl 945)], [.inl 12, .inl 76, gx_r 389, .inl 8, .inl (X 4), .inl 950, gx_r 399], t159, n, 0)) rfl (fun _ => rfl) rfl ?_
  refine ex_go (S := (51, [(2, .inl 4), (0, gx_r 383), (1, .inl 945)], [.inl 88, gx_r 389, .inl 8, .inl (X 4), .inl 950, gx_r 399], t159, n, 0)) rfl (fun _ => rfl) rfl ?_
  refine ex_go (S := (52, [(2, .inl 4), (0, gx_r 383), (1, .inl 945)], [.inl 2, .inl 88, gx_r 389, .inl 8, .inl (X 4), .inl 950, gx_r 399], t159, n, 0)) rfl (fun _ => rfl) rfl ?_
  refine ex_go (S := (53, [(2, .inl 4), (0, gx_r 383), (1, .inl 945)], [.inl 90, gx_r 389, .inl 8, .inl (X 4), .inl 950, gx_r 399], t159, n, 0)) rfl (fun _ => rfl) rfl ?_
  refine gx_ag (v := .inl (Y 4)) (cb := fun c => Nat.beq c 0) rfl (fun _ => rfl) g159 rfl rfl k69 (by first | decide | omega) rfl ?_
  refine gx_imul rfl (by first | decide | omega) rfl ?_
  refine ex_iadd rfl (by first | decide | omega) rfl ?_
  refine gx_ap rfl (fun _ => rfl) g159 rfl rfl rfl (show 950 < 1035 from by omega) rfl (ai_in_h (by first | decide | omega) (by first | decide | omega) (by first | decide | omega)) rfl (fun t176 g176 k176 e176 => ?_)
  have k77 : ai_hv t176 389 77 = some (.inl (X 0)) := (e176 389 77 (by first | decide | omega)).trans k60
  have k78 : ai_hv t176 389 78 = some (.inl (Y 0)) := (e176 389 78 (by first | decide | omega)).trans k61
  have k79 : ai_hv t176 389 80 = some (.inl (X 1)) := (e176 389 80 (by first | decide | omega)).trans k62
  have k80 : ai_hv t176 389 81 = some (.inl (Y 1)) := (e176 389 81 (by first | decide | omega)).trans k63
  have k81 : ai_hv t176 389 83 = some (.inl (X 2)) := (e176 389 83 (by first | decide | omega)).trans k64
  have k82 : ai_hv t176 389 84 = some (.inl (Y 2)) := (e176 389 84 (by first | decide | omega)).trans k65
  have k83 : ai_hv t176 389 86 = some (.inl (X 3)) := (e176 389 86 (by first | decide | omega)).trans k66
  have k84 : ai_hv t176 389 87 = some (.inl (Y 3)) := (e176 389 87 (by first | decide | omega)).trans k67
  have k85 : ai_hv t176 389 89 = some (.inl (X 4)) := (e176 389 89 (by first | decide | omega)).trans k68
  have k86 : ai_hv t176 389 90 = some (.inl (Y 4)) := (e176 389 90 (by first | decide | omega)).trans k69
  have k87 : ai_hv t176 389 92 = some (.inl (X 5)) := (e176 389 92 (by first | decide | omega)).trans k70
  have k88 : ai_hv t176 389 93 = some (.inl (Y 5)) := (e176 389 93 (by first | decide | omega)).trans k71
  have k89 : ai_hv t176 399 945 = some (.inl 0) := (e176 399 945 (by first | decide | omega)).trans k72
  have k90 : ai_hv t176 399 946 = some (.inl ((X 0) + (8 * (Y 0)))) := (e176 399 946 (by first | decide | omega)).trans k73
  have k91 : ai_hv t176 399 947 = some (.inl ((X 1) + (8 * (Y 1)))) := (e176 399 947 (by first | decide | omega)).trans k74
  have k92 : ai_hv t176 399 948 = some (.inl ((X 2) + (8 * (Y 2)))) := (e176 399 948 (by first | decide | omega)).trans k75
  have k93 : ai_hv t176 399 949 = some (.inl ((X 3) + (8 * (Y 3)))) := (e176 399 949 (by first | decide | omega)).trans k159
  refine ex_go (S := (60, [(2, .inl 5), (0, gx_r 383), (1, .inl 945)], [], t176, n, 0)) rfl (fun _ => rfl) rfl ?_
  refine ex_go (S := (11, [(2, .inl 5), (0, gx_r 383), (1, .inl 945)], [], t176, n, 0)) rfl (fun _ => rfl) rfl ?_
  refine ex_go (S := (12, [(2, .inl 5), (0, gx_r 383), (1, .inl 945)], [.inl 5], t176, n, 0)) rfl (fun _ => rfl) rfl ?_
  refine ex_go (S := (14, [(2, .inl 5), (0, gx_r 383), (1, .inl 945)], [.inl 6, .inl 5], t176, n, 0)) rfl (fun _ => rfl) rfl ?_
  refine ex_go (S := (17, [(2, .inl 5), (0, gx_r 383), (1, .inl 945)], [], t176, n, 0)) rfl (fun _ => rfl) rfl ?_
  refine ex_go (S := (18, [(2, .inl 5), (0, gx_r 383), (1, .inl 945)], [gx_r 383], t176, n, 0)) rfl (fun _ => rfl) rfl ?_
  refine gx_ref (c := 399) rfl g176 rfl rfl rfl rfl ?_
  refine ex_go (S := (22, [(2, .inl 5), (0, gx_r 383), (1, .inl 945)], [.inl 945, gx_r 399], t176, n, 0)) rfl (fun _ => rfl) rfl ?_
  refine ex_go (S := (23, [(2, .inl 5), (0, gx_r 383), (1, .inl 945)], [.inl 1, .inl 945, gx_r 399], t176, n, 0)) rfl (fun _ => rfl) rfl ?_
  refine ex_go (S := (24, [(2, .inl 5), (0, gx_r 383), (1, .inl 945)], [.inl 946, gx_r 399], t176, n, 0)) rfl (fun _ => rfl) rfl ?_
  refine ex_go (S := (25, [(2, .inl 5), (0, gx_r 383), (1, .inl 945)], [.inl 5, .inl 946, gx_r 399], t176, n, 0)) rfl (fun _ => rfl) rfl ?_
  refine ex_go (S := (26, [(2, .inl 5), (0, gx_r 383), (1, .inl 945)], [.inl 951, gx_r 399], t176, n, 0)) rfl (fun _ => rfl) rfl ?_
  refine ex_go (S := (27, [(2, .inl 5), (0, gx_r 383), (1, .inl 945)], [gx_r 383, .inl 951, gx_r 399], t176, n, 0)) rfl (fun _ => rfl) rfl ?_
  refine gx_ref (c := 389) rfl g176 rfl rfl rfl rfl ?_
  refine ex_go (S := (32, [(2, .inl 5), (0, gx_r 383), (1, .inl 945)], [.inl 76, gx_r 389, .inl 951, gx_r 399], t176, n, 0)) rfl (fun _ => rfl) rfl ?_
  refine ex_go (S := (33, [(2, .inl 5), (0, gx_r 383), (1, .inl 945)], [.inl 3, .inl 76, gx_r 389, .inl 951, gx_r 399], t176, n, 0)) rfl (fun _ => rfl) rfl ?_
  refine ex_go (S := (34, [(2, .inl 5), (0, gx_r 383), (1, .inl 945)], [.inl 5, .inl 3, .inl 76, gx_r 389, .inl 951, gx_r 399], t176, n, 0)) rfl (fun _ => rfl) rfl ?_
  refine ex_go (S := (35, [(2, .inl 5), (0, gx_r 383), (1, .inl 945)], [.inl 15, .inl 76, gx_r 389, .inl 951, gx_r 399], t176, n, 0)) rfl (fun _ => rfl) rfl ?_
  refine ex_go (S := (36, [(2, .inl 5), (0, gx_r 383), (1, .inl 945)], [.inl 91, gx_r 389, .inl 951, gx_r 399], t176, n, 0)) rfl (fun _ => rfl) rfl ?_
  refine ex_go (S := (37, [(2, .inl 5), (0, gx_r 383), (1, .inl 945)], [.inl 1, .inl 91, gx_r 389, .inl 951, gx_r 399], t176, n, 0)) rfl (fun _ => rfl) rfl ?_
  refine ex_go (S := (38, [(2, .inl 5), (0, gx_r 383), (1, .inl 945)], [.inl 92, gx_r 389, .inl 951, gx_r 399], t176, n, 0)) rfl (fun _ => rfl) rfl ?_
  refine gx_ag (v := .inl (X 5)) (cb := fun c => Nat.beq c 0) rfl (fun _ => rfl) g176 rfl rfl k87 (by first | decide | omega) rfl ?_
  refine ex_go (S := (41, [(2, .inl 5), (0, gx_r 383), (1, .inl 945)], [.inl 8, .inl (X 5), .inl 951, gx_r 399], t176, n, 0)) rfl (fun _ => rfl) rfl ?_
  refine ex_go (S := (42, [(2, .inl 5), (0, gx_r 383), (1, .inl 945)], [gx_r 383, .inl 8, .inl (X 5), .inl 951, gx_r 399], t176, n, 0)) rfl (fun _ => rfl) rfl ?_
  refine gx_ref (c := 389) rfl g176 rfl rfl rfl rfl ?_
  refine ex_go (S := (47, [(2, .inl 5), (0, gx_r 383), (1, .inl 945)], [.inl 76, gx_r 389, .inl 8, .inl (X 5), .inl 951, gx_r 399], t176, n, 0)) rfl (fun _ => rfl) rfl ?_
  refine ex_go (S := (48, [(2, .inl 5), (0, gx_r 383), (1, .inl 945)], [.inl 3, .inl 76, gx_r 389, .inl 8, .inl (X 5), .inl 951, gx_r 399], t176, n, 0)) rfl (fun _ => rfl) rfl ?_
  refine ex_go (S := (49, [(2, .inl 5), (0, gx_r 383), (1, .inl 945)], [.inl 5, .inl 3, .inl 76, gx_r 389, .inl 8, .inl (X 5), .inl 951, gx_r 399], t176, n, 0)) rfl (fun _ => rfl) rfl ?_
  refine ex_go (S := (50, [(2, .inl 5), (0, gx_r 383), (1, .inl 945)], [.inl 15, .inl 76, gx_r 389, .inl 8, .inl (X 5), .inl 951, gx_r 399], t176, n, 0)) rfl (fun _ => rfl) rfl ?_
  refine ex_go (S := (51, [(2, .inl 5), (0, gx_r 383), (1, .inl 945)], [.inl 91, gx_r 389, .inl 8, .inl (X 5), .inl 951, gx_r 399], t176, n, 0)) rfl (fun _ => rfl) rfl ?_
  refine ex_go (S := (52, [(2, .inl 5), (0, gx_r 383), (1, .inl 945)], [.inl 2, .inl 91, gx_r 389, .inl 8, .inl (X 5), .inl 951, gx_r 399], t176, n, 0)) rfl (fun _ => rfl) rfl ?_
  refine ex_go (S := (53, [(2, .inl 5), (0, gx_r 383), (1, .inl 945)], [.inl 93, gx_r 389, .inl 8, .inl (X 5), .inl 951, gx_r 399], t176, n, 0)) rfl (fun _ => rfl) rfl ?_
  refine gx_ag (v := .inl (Y 5)) (cb := fun c => Nat.beq c 0) rfl (fun _ => rfl) g176 rfl rfl k88 (by first | decide | omega) rfl ?_
  refine gx_imul rfl (by first | decide | omega) rfl ?_
  refine ex_iadd rfl (by first | decide | omega) rfl ?_
  refine gx_ap rfl (fun _ => rfl) g176 rfl rfl rfl (show 951 < 1035 from by omega) rfl (ai_in_h (by first | decide | omega) (by first | decide | omega) (by first | decide | omega)) rfl (fun t194 g194 k194 e194 => ?_)
  have k95 : ai_hv t194 389 77 = some (.inl (X 0)) := (e194 389 77 (by first | decide | omega)).trans k77
  have k96 : ai_hv t194 389 78 = some (.inl (Y 0)) := (e194 389 78 (by first | decide | omega)).trans k78
  have k97 : ai_hv t194 389 80 = some (.inl (X 1)) := (e194 389 80 (by first | decide | omega)).trans k79
  have k98 : ai_hv t194 389 81 = some (.inl (Y 1)) := (e194 389 81 (by first | decide | omega)).trans k80
  have k99 : ai_hv t194 389 83 = some (.inl (X 2)) := (e194 389 83 (by first | decide | omega)).trans k81
  have k100 : ai_hv t194 389 84 = some (.inl (Y 2)) := (e194 389 84 (by first | decide | omega)).trans k82
  have k101 : ai_hv t194 389 86 = some (.inl (X 3)) := (e194 389 86 (by first | decide | omega)).trans k83
  have k102 : ai_hv t194 389 87 = some (.inl (Y 3)) := (e194 389 87 (by first | decide | omega)).trans k84
  have k103 : ai_hv t194 389 89 = some (.inl (X 4)) := (e194 389 89 (by first | decide | omega)).trans k85
  have k104 : ai_hv t194 389 90 = some (.inl (Y 4)) := (e194 389 90 (by first | decide | omega)).trans k86
  have k105 : ai_hv t194 389 92 = some (.inl (X 5)) := (e194 389 92 (by first | decide | omega)).trans k87
  have k106 : ai_hv t194 389 93 = some (.inl (Y 5)) := (e194 389 93 (by first | decide | omega)).trans k88
  have k107 : ai_hv t194 399 945 = some (.inl 0) := (e194 399 945 (by first | decide | omega)).trans k89
  have k108 : ai_hv t194 399 946 = some (.inl ((X 0) + (8 * (Y 0)))) := (e194 399 946 (by first | decide | omega)).trans k90
  have k109 : ai_hv t194 399 947 = some (.inl ((X 1) + (8 * (Y 1)))) := (e194 399 947 (by first | decide | omega)).trans k91
  have k110 : ai_hv t194 399 948 = some (.inl ((X 2) + (8 * (Y 2)))) := (e194 399 948 (by first | decide | omega)).trans k92
  have k111 : ai_hv t194 399 949 = some (.inl ((X 3) + (8 * (Y 3)))) := (e194 399 949 (by first | decide | omega)).trans k93
  have k112 : ai_hv t194 399 950 = some (.inl ((X 4) + (8 * (Y 4)))) := (e194 399 950 (by first | decide | omega)).trans k176
  refine ex_go (S := (60, [(2, .inl 6), (0, gx_r 383), (1, .inl 945)], [], t194, n, 0)) rfl (fun _ => rfl) rfl ?_
  refine ex_go (S := (11, [(2, .inl 6), (0, gx_r 383), (1, .inl 945)], [], t194, n, 0)) rfl (fun _ => rfl) rfl ?_
  refine ex_go (S := (12, [(2, .inl 6), (0, gx_r 383), (1, .inl 945)], [.inl 6], t194, n, 0)) rfl (fun _ => rfl) rfl ?_
  refine ex_go (S := (14, [(2, .inl 6), (0, gx_r 383), (1, .inl 945)], [.inl 6, .inl 6], t194, n, 0)) rfl (fun _ => rfl) rfl ?_
  refine ex_go (S := (63, [(2, .inl 6), (0, gx_r 383), (1, .inl 945)], [], t194, n, 0)) rfl (fun _ => rfl) rfl ?_
  refine ex_go (S := (64, [(2, .inl 6), (0, gx_r 383), (1, .inl 945)], [.inl 0], t194, n, 0)) rfl (fun _ => rfl) rfl ?_
  refine ex_go (S := (65, [(2, .inl 0), (0, gx_r 383), (1, .inl 945)], [], t194, n, 0)) rfl (fun _ => rfl) rfl ?_
  refine ex_go (S := (66, [(2, .inl 0), (0, gx_r 383), (1, .inl 945)], [.inl 0], t194, n, 0)) rfl (fun _ => rfl) rfl ?_
  refine ex_go (S := (67, [(2, .inl 0), (0, gx_r 383), (1, .inl 945)], [.inl 2, .inl 0], t194, n, 0)) rfl (fun _ => rfl) rfl ?_
  refine ex_go (S := (70, [(2, .inl 0), (0, gx_r 383), (1, .inl 945)], [], t194, n, 0)) rfl (fun _ => rfl) rfl ?_
  refine ex_go (S := (71, [(2, .inl 0), (0, gx_r 383), (1, .inl 945)], [gx_r 383], t194, n, 0)) rfl (fun _ => rfl) rfl ?_
  refine gx_ref (c := 399) rfl g194 rfl rfl rfl rfl ?_
  refine ex_go (S := (75, [(2, .inl 0), (0, gx_r 383), (1, .inl 945)], [.inl 945, gx_r 399], t194, n, 0)) rfl (fun _ => rfl) rfl ?_
  refine ex_go (S := (77, [(2, .inl 0), (0, gx_r 383), (1, .inl 945)], [.inl 7, .inl 945, gx_r 399], t194, n, 0)) rfl (fun _ => rfl) rfl ?_
  refine ex_go (S := (78, [(2, .inl 0), (0, gx_r 383), (1, .inl 945)], [.inl 952, gx_r 399], t194, n, 0)) rfl (fun _ => rfl) rfl ?_
  refine ex_go (S := (79, [(2, .inl 0), (0, gx_r 383), (1, .inl 945)], [.inl 0, .inl 952, gx_r 399], t194, n, 0)) rfl (fun _ => rfl) rfl ?_
  refine ex_go (S := (80, [(2, .inl 0), (0, gx_r 383), (1, .inl 945)], [.inl 952, gx_r 399], t194, n, 0)) rfl (fun _ => rfl) rfl ?_
  refine ex_go (S := (81, [(2, .inl 0), (0, gx_r 383), (1, .inl 945)], [gx_r 383, .inl 952, gx_r 399], t194, n, 0)) rfl (fun _ => rfl) rfl ?_
  refine ex_go (S := (82, [(2, .inl 0), (0, gx_r 383), (1, .inl 945)], [.inl 0, gx_r 383, .inl 952, gx_r 399], t194, n, 0)) rfl (fun _ => rfl) rfl ?_
  refine ex_go (S := (83, [(2, .inl 0), (0, gx_r 383), (1, .inl 945)], [.inl 2, .inl 0, gx_r 383, .inl 952, gx_r 399], t194, n, 0)) rfl (fun _ => rfl) rfl ?_
  obtain ⟨_, r113, rfl⟩ := pe_crewOf d n (c := 0) (w := 2) g194 (by first | decide | omega) (by first | decide | omega) ((e194 389 120 (by first | decide | omega)).trans ((e176 389 120 (by first | decide | omega)).trans ((e159 389 120 (by first | decide | omega)).trans ((e143 389 120 (by first | decide | omega)).trans ((e128 389 120 (by first | decide | omega)).trans ((e114 389 120 (by first | decide | omega)).trans ((e101 389 120 (by first | decide | omega)).trans (kB 0 (by first | decide | omega)))))))))
  refine gx_call1 rfl rfl g194 rfl rfl r113 rfl ?_
  show en_ex _ _ _ _ (86, [(2, .inl 0), (0, gx_r 383), (1, .inl 945)], [.inl (B 0), .inl 952, gx_r 399], t194, n, 0) _
  refine gx_ap rfl (fun _ => rfl) g194 rfl rfl rfl (show 952 < 1035 from by omega) rfl (ai_in_h (by first | decide | omega) (by first | decide | omega) (by first | decide | omega)) rfl (fun t214 g214 k214 e214 => ?_)
  have k115 : ai_hv t214 389 77 = some (.inl (X 0)) := (e214 389 77 (by first | decide | omega)).trans k95
  have k116 : ai_hv t214 389 78 = some (.inl (Y 0)) := (e214 389 78 (by first | decide | omega)).trans k96
  have k117 : ai_hv t214 389 80 = some (.inl (X 1)) := (e214 389 80 (by first | decide | omega)).trans k97
  have k118 : ai_hv t214 389 81 = some (.inl (Y 1)) := (e214 389 81 (by first | decide | omega)).trans k98
  have k119 : ai_hv t214 389 83 = some (.inl (X 2)) := (e214 389 83 (by first | decide | omega)).trans k99
  have k120 : ai_hv t214 389 84 = some (.inl (Y 2)) := (e214 389 84 (by first | decide | omega)).trans k100
  have k121 : ai_hv t214 389 86 = some (.inl (X 3)) := (e214 389 86 (by first | decide | omega)).trans k101
  have k122 : ai_hv t214 389 87 = some (.inl (Y 3)) := (e214 389 87 (by first | decide | omega)).trans k102
  have k123 : ai_hv t214 389 89 = some (.inl (X 4)) := (e214 389 89 (by first | decide | omega)).trans k103
  have k124 : ai_hv t214 389 90 = some (.inl (Y 4)) := (e214 389 90 (by first | decide | omega)).trans k104
  have k125 : ai_hv t214 389 92 = some (.inl (X 5)) := (e214 389 92 (by first | decide | omega)).trans k105
  have k126 : ai_hv t214 389 93 = some (.inl (Y 5)) := (e214 389 93 (by first | decide | omega)).trans k106
  have k127 : ai_hv t214 399 945 = some (.inl 0) := (e214 399 945 (by first | decide | omega)).trans k107
  have k128 : ai_hv t214 399 946 = some (.inl ((X 0) + (8 * (Y 0)))) := (e214 399 946 (by first | decide | omega)).trans k108
  have k129 : ai_hv t214 399 947 = some (.inl ((X 1) + (8 * (Y 1)))) := (e214 399 947 (by first | decide | omega)).trans k109
  have k130 : ai_hv t214 399 948 = some (.inl ((X 2) + (8 * (Y 2)))) := (e214 399 948 (by first | decide | omega)).trans k110
  have k131 : ai_hv t214 399 949 = some (.inl ((X 3) + (8 * (Y 3)))) := (e214 399 949 (by first | decide | omega)).trans k111
  have k132 : ai_hv t214 399 950 = some (.inl ((X 4) + (8 * (Y 4)))) := (e214 399 950 (by first | decide | omega)).trans k112
  have k133 : ai_hv t214 399 951 = some (.inl ((X 5) + (8 * (Y 5)))) := (e214 399 951 (by first | decide | omega)).trans k194
  refine ex_go (S := (88, [(2, .inl 0), (0, gx_r 383), (1, .inl 945)], [gx_r 383], t214, n, 0)) rfl (fun _ => rfl) rfl ?_
  refine gx_ref (c := 399) rfl g214 rfl rfl rfl rfl ?_
  refine ex_go (S := (92, [(2, .inl 0), (0, gx_r 383), (1, .inl 945)], [.inl 945, gx_r 399], t214, n, 0)) rfl (fun _ => rfl) rfl ?_
  refine ex_go (S := (94, [(2, .inl 0), (0, gx_r 383), (1, .inl 945)], [.inl 9, .inl 945, gx_r 399], t214, n, 0)) rfl (fun _ => rfl) rfl ?_
  refine ex_go (S := (95, [(2, .inl 0), (0, gx_r 383), (1, .inl 945)], [.inl 954, gx_r 399], t214, n, 0)) rfl (fun _ => rfl) rfl ?_
  refine ex_go (S := (96, [(2, .inl 0), (0, gx_r 383), (1, .inl 945)], [.inl 0, .inl 954, gx_r 399], t214, n, 0)) rfl (fun _ => rfl) rfl ?_
  refine ex_go (S := (97, [(2, .inl 0), (0, gx_r 383), (1, .inl 945)], [.inl 954, gx_r 399], t214, n, 0)) rfl (fun _ => rfl) rfl ?_
  refine ex_go (S := (98, [(2, .inl 0), (0, gx_r 383), (1, .inl 945)], [.inl 0, .inl 954, gx_r 399], t214, n, 0)) rfl (fun _ => rfl) rfl ?_
  refine gx_ap rfl (fun _ => rfl) g214 rfl rfl rfl (show 954 < 1035 from by omega) rfl (gx_full (by first | decide | omega)) rfl (fun t234 g234 k234 e234 => ?_)
  have k135 : ai_hv t234 389 77 = some (.inl (X 0)) := (e234 389 77 (by first | decide | omega)).trans k115
  have k136 : ai_hv t234 389 78 = some (.inl (Y 0)) := (e234 389 78 (by first | decide | omega)).trans k116
  have k137 : ai_hv t234 389 80 = some (.inl (X 1)) := (e234 389 80 (by first | decide | omega)).trans k117
  have k138 : ai_hv t234 389 81 = some (.inl (Y 1)) := (e234 389 81 (by first | decide | omega)).trans k118
  have k139 : ai_hv t234 389 83 = some (.inl (X 2)) := (e234 389 83 (by first | decide | omega)).trans k119
  have k140 : ai_hv t234 389 84 = some (.inl (Y 2)) := (e234 389 84 (by first | decide | omega)).trans k120
  have k141 : ai_hv t234 389 86 = some (.inl (X 3)) := (e234 389 86 (by first | decide | omega)).trans k121
  have k142 : ai_hv t234 389 87 = some (.inl (Y 3)) := (e234 389 87 (by first | decide | omega)).trans k122
  have k143 : ai_hv t234 389 89 = some (.inl (X 4)) := (e234 389 89 (by first | decide | omega)).trans k123
  have k144 : ai_hv t234 389 90 = some (.inl (Y 4)) := (e234 389 90 (by first | decide | omega)).trans k124
  have k145 : ai_hv t234 389 92 = some (.inl (X 5)) := (e234 389 92 (by first | decide | omega)).trans k125
  have k146 : ai_hv t234 389 93 = some (.inl (Y 5)) := (e234 389 93 (by first | decide | omega)).trans k126
  have k147 : ai_hv t234 399 945 = some (.inl 0) := (e234 399 945 (by first | decide | omega)).trans k127
  have k148 : ai_hv t234 399 946 = some (.inl ((X 0) + (8 * (Y 0)))) := (e234 399 946 (by first | decide | omega)).trans k128
  have k149 : ai_hv t234 399 947 = some (.inl ((X 1) + (8 * (Y 1)))) := (e234 399 947 (by first | decide | omega)).trans k129
  have k150 : ai_hv t234 399 948 = some (.inl ((X 2) + (8 * (Y 2)))) := (e234 399 948 (by first | decide | omega)).trans k130
  have k151 : ai_hv t234 399 949 = some (.inl ((X 3) + (8 * (Y 3)))) := (e234 399 949 (by first | decide | omega)).trans k131
  have k152 : ai_hv t234 399 950 = some (.inl ((X 4) + (8 * (Y 4)))) := (e234 399 950 (by first | decide | omega)).trans k132
  have k153 : ai_hv t234 399 951 = some (.inl ((X 5) + (8 * (Y 5)))) := (e234 399 951 (by first | decide | omega)).trans k133
  have k154 : ai_hv t234 399 952 = some (.inl (B 0)) := (e234 399 952 (by first | decide | omega)).trans k214
  refine ex_go (S := (100, [(2, .inl 0), (0, gx_r 383), (1, .inl 945)], [gx_r 383], t234, n, 0)) rfl (fun _ => rfl) rfl ?_
  refine gx_ref (c := 399) rfl g234 rfl rfl rfl rfl ?_
  refine ex_go (S := (104, [(2, .inl 0), (0, gx_r 383), (1, .inl 945)], [.inl 945, gx_r 399], t234, n, 0)) rfl (fun _ => rfl) rfl ?_
  refine ex_go (S := (106, [(2, .inl 0), (0, gx_r 383), (1, .inl 945)], [.inl 11, .inl 945, gx_r 399], t234, n, 0)) rfl (fun _ => rfl) rfl ?_
  refine ex_go (S := (107, [(2, .inl 0), (0, gx_r 383), (1, .inl 945)], [.inl 956, gx_r 399], t234, n, 0)) rfl (fun _ => rfl) rfl ?_
  refine ex_go (S := (108, [(2, .inl 0), (0, gx_r 383), (1, .inl 945)], [.inl 0, .inl 956, gx_r 399], t234, n, 0)) rfl (fun _ => rfl) rfl ?_
  refine ex_go (S := (109, [(2, .inl 0), (0, gx_r 383), (1, .inl 945)], [.inl 956, gx_r 399], t234, n, 0)) rfl (fun _ => rfl) rfl ?_
  refine ex_go (S := (110, [(2, .inl 0), (0, gx_r 383), (1, .inl 945)], [.inl 0, .inl 956, gx_r 399], t234, n, 0)) rfl (fun _ => rfl) rfl ?_
  refine gx_ap rfl (fun _ => rfl) g234 rfl rfl rfl (show 956 < 1035 from by omega) rfl (ai_in_h (by first | decide | omega) (by first | decide | omega) (by first | decide | omega)) rfl (fun t255 g255 k255 e255 => ?_)
  have k156 : ai_hv t255 389 77 = some (.inl (X 0)) := (e255 389 77 (by first | decide | omega)).trans k135
  have k157 : ai_hv t255 389 78 = some (.inl (Y 0)) := (e255 389 78 (by first | decide | omega)).trans k136
  have k158 : ai_hv t255 389 80 = some (.inl (X 1)) := (e255 389 80 (by first | decide | omega)).trans k137
  have k159 : ai_hv t255 389 81 = some (.inl (Y 1)) := (e255 389 81 (by first | decide | omega)).trans k138
  have k160 : ai_hv t255 389 83 = some (.inl (X 2)) := (e255 389 83 (by first | decide | omega)).trans k139
  have k161 : ai_hv t255 389 84 = some (.inl (Y 2)) := (e255 389 84 (by first | decide | omega)).trans k140
  have k162 : ai_hv t255 389 86 = some (.inl (X 3)) := (e255 389 86 (by first | decide | omega)).trans k141
  have k163 : ai_hv t255 389 87 = some (.inl (Y 3)) := (e255 389 87 (by first | decide | omega)).trans k142
  have k164 : ai_hv t255 389 89 = some (.inl (X 4)) := (e255 389 89 (by first | decide | omega)).trans k143
  have k165 : ai_hv t255 389 90 = some (.inl (Y 4)) := (e255 389 90 (by first | decide | omega)).trans k144
  have k166 : ai_hv t255 389 92 = some (.inl (X 5)) := (e255 389 92 (by first | decide | omega)).trans k145
  have k167 : ai_hv t255 389 93 = some (.inl (Y 5)) := (e255 389 93 (by first | decide | omega)).trans k146
  have k168 : ai_hv t255 399 945 = some (.inl 0) := (e255 399 945 (by first | decide | omega)).trans k147
  have k169 : ai_hv t255 399 946 = some (.inl ((X 0) + (8 * (Y 0)))) := (e255 399 946 (by first | decide | omega)).trans k148
  have k170 : ai_hv t255 399 947 = some (.inl ((X 1) + (8 * (Y 1)))) := (e255 399 947 (by first | decide | omega)).trans k149
  have k171 : ai_hv t255 399 948 = some (.inl ((X 2) + (8 * (Y 2)))) := (e255 399 948 (by first | decide | omega)).trans k150
  have k172 : ai_hv t255 399 949 = some (.inl ((X 3) + (8 * (Y 3)))) := (e255 399 949 (by first | decide | omega)).trans k151
  have k173 : ai_hv t255 399 950 = some (.inl ((X 4) + (8 * (Y 4)))) := (e255 399 950 (by first | decide | omega)).trans k152
  have k174 : ai_hv t255 399 951 = some (.inl ((X 5) + (8 * (Y 5)))) := (e255 399 951 (by first | decide | omega)).trans k153
  have k175 : ai_hv t255 399 952 = some (.inl (B 0)) := (e255 399 952 (by first | decide | omega)).trans k154
  have k176 : ai_hv t255 399 954 = some (.inl 0) := (e255 399 954 (by first | decide | omega)).trans k234
  refine ex_go (S := (112, [(2, .inl 0), (0, gx_r 383), (1, .inl 945)], [gx_r 383], t255, n, 0)) rfl (fun _ => rfl) rfl ?_
  refine gx_ref (c := 399) rfl g255 rfl rfl rfl rfl ?_
  refine ex_go (S := (116, [(2, .inl 0), (0, gx_r 383), (1, .inl 945)], [.inl 945, gx_r 399], t255, n, 0)) rfl (fun _ => rfl) rfl ?_
  refine ex_go (S := (118, [(2, .inl 0), (0, gx_r 383), (1, .inl 945)], [.inl 13, .inl 945, gx_r 399], t255, n, 0)) rfl (fun _ => rfl) rfl ?_
  refine ex_go (S := (119, [(2, .inl 0), (0, gx_r 383), (1, .inl 945)], [.inl 958, gx_r 399], t255, n, 0)) rfl (fun _ => rfl) rfl ?_
  refine ex_go (S := (120, [(2, .inl 0), (0, gx_r 383), (1, .inl 945)], [.inl 0, .inl 958, gx_r 399], t255, n, 0)) rfl (fun _ => rfl) rfl ?_
  refine ex_go (S := (121, [(2, .inl 0), (0, gx_r 383), (1, .inl 945)], [.inl 958, gx_r 399], t255, n, 0)) rfl (fun _ => rfl) rfl ?_
  refine ex_go (S := (122, [(2, .inl 0), (0, gx_r 383), (1, .inl 945)], [.inl 0, .inl 958, gx_r 399], t255, n, 0)) rfl (fun _ => rfl) rfl ?_
  refine gx_ap rfl (fun _ => rfl) g255 rfl rfl rfl (show 958 < 1035 from by omega) rfl (ai_in_h (by first | decide | omega) (by first | decide | omega) (by first | decide | omega)) rfl (fun t277 g277 k277 e277 => ?_)
  have k178 : ai_hv t277 389 77 = some (.inl (X 0)) := (e277 389 77 (by first | decide | omega)).trans k156
  have k179 : ai_hv t277 389 78 = some (.inl (Y 0)) := (e277 389 78 (by first | decide | omega)).trans k157
  have k180 : ai_hv t277 389 80 = some (.inl (X 1)) := (e277 389 80 (by first | decide | omega)).trans k158
  have k181 : ai_hv t277 389 81 = some (.inl (Y 1)) := (e277 389 81 (by first | decide | omega)).trans k159
  have k182 : ai_hv t277 389 83 = some (.inl (X 2)) := (e277 389 83 (by first | decide | omega)).trans k160
  have k183 : ai_hv t277 389 84 = some (.inl (Y 2)) := (e277 389 84 (by first | decide | omega)).trans k161
  have k184 : ai_hv t277 389 86 = some (.inl (X 3)) := (e277 389 86 (by first | decide | omega)).trans k162
  have k185 : ai_hv t277 389 87 = some (.inl (Y 3)) := (e277 389 87 (by first | decide | omega)).trans k163
  have k186 : ai_hv t277 389 89 = some (.inl (X 4)) := (e277 389 89 (by first | decide | omega)).trans k164
  have k187 : ai_hv t277 389 90 = some (.inl (Y 4)) := (e277 389 90 (by first | decide | omega)).trans k165
  have k188 : ai_hv t277 389 92 = some (.inl (X 5)) := (e277 389 92 (by first | decide | omega)).trans k166
  have k189 : ai_hv t277 389 93 = some (.inl (Y 5)) := (e277 389 93 (by first | decide | omega)).trans k167
  have k190 : ai_hv t277 399 945 = some (.inl 0) := (e277 399 945 (by first | decide | omega)).trans k168
  have k191 : ai_hv t277 399 946 = some (.inl ((X 0) + (8 * (Y 0)))) := (e277 399 946 (by first | decide | omega)).trans k169
  have k192 : ai_hv t277 399 947 = some (.inl ((X 1) + (8 * (Y 1)))) := (e277 399 947 (by first | decide | omega)).trans k170
  have k193 : ai_hv t277 399 948 = some (.inl ((X 2) + (8 * (Y 2)))) := (e277 399 948 (by first | decide | omega)).trans k171
  have k194 : ai_hv t277 399 949 = some (.inl ((X 3) + (8 * (Y 3)))) := (e277 399 949 (by first | decide | omega)).trans k172
  have k195 : ai_hv t277 399 950 = some (.inl ((X 4) + (8 * (Y 4)))) := (e277 399 950 (by first | decide | omega)).trans k173
  have k196 : ai_hv t277 399 951 = some (.inl ((X 5) + (8 * (Y 5)))) := (e277 399 951 (by first | decide | omega)).trans k174
  have k197 : ai_hv t277 399 952 = some (.inl (B 0)) := (e277 399 952 (by first | decide | omega)).trans k175
  have k198 : ai_hv t277 399 954 = some (.inl 0) := (e277 399 954 (by first | decide | omega)).trans k176
  have k199 : ai_hv t277 399 956 = some (.inl 0) := (e277 399 956 (by first | decide | omega)).trans k255
  refine ex_go (S := (124, [(2, .inl 0), (0, gx_r 383), (1, .inl 945)], [gx_r 383], t277, n, 0)) rfl (fun _ => rfl) rfl ?_
  refine gx_ref (c := 399) rfl g277 rfl rfl rfl rfl ?_
  refine ex_go (S := (128, [(2, .inl 0), (0, gx_r 383), (1, .inl 945)], [.inl 945, gx_r 399], t277, n, 0)) rfl (fun _ => rfl) rfl ?_
  refine ex_go (S := (130, [(2, .inl 0), (0, gx_r 383), (1, .inl 945)], [.inl 15, .inl 945, gx_r 399], t277, n, 0)) rfl (fun _ => rfl) rfl ?_
  refine ex_go (S := (131, [(2, .inl 0), (0, gx_r 383), (1, .inl 945)], [.inl 960, gx_r 399], t277, n, 0)) rfl (fun _ => rfl) rfl ?_
  refine ex_go (S := (132, [(2, .inl 0), (0, gx_r 383), (1, .inl 945)], [.inl 0, .inl 960, gx_r 399], t277, n, 0)) rfl (fun _ => rfl) rfl ?_
  refine ex_go (S := (133, [(2, .inl 0), (0, gx_r 383), (1, .inl 945)], [.inl 960, gx_r 399], t277, n, 0)) rfl (fun _ => rfl) rfl ?_
  refine ex_go (S := (134, [(2, .inl 0), (0, gx_r 383), (1, .inl 945)], [.inl 0, .inl 960, gx_r 399], t277, n, 0)) rfl (fun _ => rfl) rfl ?_
  refine gx_ap rfl (fun _ => rfl) g277 rfl rfl rfl (show 960 < 1035 from by omega) rfl (ai_in_h (by first | decide | omega) (by first | decide | omega) (by first | decide | omega)) rfl (fun t300 g300 k300 e300 => ?_)
  have k201 : ai_hv t300 389 77 = some (.inl (X 0)) := (e300 389 77 (by first | decide | omega)).trans k178
  have k202 : ai_hv t300 389 78 = some (.inl (Y 0)) := (e300 389 78 (by first | decide | omega)).trans k179
  have k203 : ai_hv t300 389 80 = some (.inl (X 1)) := (e300 389 80 (by first | decide | omega)).trans k180
  have k204 : ai_hv t300 389 81 = some (.inl (Y 1)) := (e300 389 81 (by first | decide | omega)).trans k181
  have k205 : ai_hv t300 389 83 = some (.inl (X 2)) := (e300 389 83 (by first | decide | omega)).trans k182
  have k206 : ai_hv t300 389 84 = some (.inl (Y 2)) := (e300 389 84 (by first | decide | omega)).trans k183
  have k207 : ai_hv t300 389 86 = some (.inl (X 3)) := (e300 389 86 (by first | decide | omega)).trans k184
  have k208 : ai_hv t300 389 87 = some (.inl (Y 3)) := (e300 389 87 (by first | decide | omega)).trans k185
  have k209 : ai_hv t300 389 89 = some (.inl (X 4)) := (e300 389 89 (by first | decide | omega)).trans k186
  have k210 : ai_hv t300 389 90 = some (.inl (Y 4)) := (e300 389 90 (by first | decide | omega)).trans k187
  have k211 : ai_hv t300 389 92 = some (.inl (X 5)) := (e300 389 92 (by first | decide | omega)).trans k188
  have k212 : ai_hv t300 389 93 = some (.inl (Y 5)) := (e300 389 93 (by first | decide | omega)).trans k189
  have k213 : ai_hv t300 399 945 = some (.inl 0) := (e300 399 945 (by first | decide | omega)).trans k190
  have k214 : ai_hv t300 399 946 = some (.inl ((X 0) + (8 * (Y 0)))) := (e300 399 946 (by first | decide | omega)).trans k191
  have k215 : ai_hv t300 399 947 = some (.inl ((X 1) + (8 * (Y 1)))) := (e300 399 947 (by first | decide | omega)).trans k192
  have k216 : ai_hv t300 399 948 = some (.inl ((X 2) + (8 * (Y 2)))) := (e300 399 948 (by first | decide | omega)).trans k193
  have k217 : ai_hv t300 399 949 = some (.inl ((X 3) + (8 * (Y 3)))) := (e300 399 949 (by first | decide | omega)).trans k194
  have k218 : ai_hv t300 399 950 = some (.inl ((X 4) + (8 * (Y 4)))) := (e300 399 950 (by first | decide | omega)).trans k195
  have k219 : ai_hv t300 399 951 = some (.inl ((X 5) + (8 * (Y 5)))) := (e300 399 951 (by first | decide | omega)).trans k196
  have k220 : ai_hv t300 399 952 = some (.inl (B 0)) := (e300 399 952 (by first | decide | omega)).trans k197
  have k221 : ai_hv t300 399 954 = some (.inl 0) := (e300 399 954 (by first | decide | omega)).trans k198
  have k222 : ai_hv t300 399 956 = some (.inl 0) := (e300 399 956 (by first | decide | omega)).trans k199
  have k223 : ai_hv t300 399 958 = some (.inl 0) := (e300 399 958 (by first | decide | omega)).trans k277
  refine ex_go (S := (138, [(2, .inl 1), (0, gx_r 383), (1, .inl 945)], [], t300, n, 0)) rfl (fun _ => rfl) rfl ?_
  refine ex_go (S := (65, [(2, .inl 1), (0, gx_r 383), (1, .inl 945)], [], t300, n, 0)) rfl (fun _ => rfl) rfl ?_
  refine ex_go (S := (66, [(2, .inl 1), (0, gx_r 383), (1, .inl 945)], [.inl 1], t300, n, 0)) rfl (fun _ => rfl) rfl ?_
  refine ex_go (S := (67, [(2, .inl 1), (0, gx_r 383), (1, .inl 945)], [.inl 2, .inl 1], t300, n, 0)) rfl (fun _ => rfl) rfl ?_
  refine ex_go (S := (70, [(2, .inl 1), (0, gx_r 383), (1, .inl 945)], [], t300, n, 0)) rfl (fun _ => rfl) rfl ?_
  refine ex_go (S := (71, [(2, .inl 1), (0, gx_r 383), (1, .inl 945)], [gx_r 383], t300, n, 0)) rfl (fun _ => rfl) rfl ?_
  refine gx_ref (c := 399) rfl g300 rfl rfl rfl rfl ?_
  refine ex_go (S := (75, [(2, .inl 1), (0, gx_r 383), (1, .inl 945)], [.inl 945, gx_r 399], t300, n, 0)) rfl (fun _ => rfl) rfl ?_
  refine ex_go (S := (77, [(2, .inl 1), (0, gx_r 383), (1, .inl 945)], [.inl 7, .inl 945, gx_r 399], t300, n, 0)) rfl (fun _ => rfl) rfl ?_
  refine ex_go (S := (78, [(2, .inl 1), (0, gx_r 383), (1, .inl 945)], [.inl 952, gx_r 399], t300, n, 0)) rfl (fun _ => rfl) rfl ?_
  refine ex_go (S := (79, [(2, .inl 1), (0, gx_r 383), (1, .inl 945)], [.inl 1, .inl 952, gx_r 399], t300, n, 0)) rfl (fun _ => rfl) rfl ?_
  refine ex_go (S := (80, [(2, .inl 1), (0, gx_r 383), (1, .inl 945)], [.inl 953, gx_r 399], t300, n, 0)) rfl (fun _ => rfl) rfl ?_
  refine ex_go (S := (81, [(2, .inl 1), (0, gx_r 383), (1, .inl 945)], [gx_r 383, .inl 953, gx_r 399], t300, n, 0)) rfl (fun _ => rfl) rfl ?_
  refine ex_go (S := (82, [(2, .inl 1), (0, gx_r 383), (1, .inl 945)], [.inl 1, gx_r 383, .inl 953, gx_r 399], t300, n, 0)) rfl (fun _ => rfl) rfl ?_
  refine ex_go (S := (83, [(2, .inl 1), (0, gx_r 383), (1, .inl 945)], [.inl 2, .inl 1, gx_r 383, .inl 953, gx_r 399], t300, n, 0)) rfl (fun _ => rfl) rfl ?_
  obtain ⟨_, r224, rfl⟩ := pe_crewOf d n (c := 1) (w := 2) g300 (by first | decide | omega) (by first | decide | omega) ((e300 389 123 (by first | decide | omega)).trans ((e277 389 123 (by first | decide | omega)).trans ((e255 389 123 (by first | decide | omega)).trans ((e234 389 123 (by first | decide | omega)).trans ((e214 389 123 (by first | decide | omega)).trans ((e194 389 123 (by first | decide | omega)).trans ((e176 389 123 (by first | decide | omega)).trans ((e159 389 123 (by first | decide | omega)).trans ((e143 389 123 (by first | decide | omega)).trans ((e128 389 123 (by first | decide | omega)).trans ((e114 389 123 (by first | decide | omega)).trans ((e101 389 123 (by first | decide | omega)).trans (kB 1 (by first | decide | omega))))))))))))))
  refine gx_call1 rfl rfl g300 rfl rfl r224 rfl ?_
  show en_ex _ _ _ _ (86, [(2, .inl 1), (0, gx_r 383), (1, .inl 945)], [.inl (B 1), .inl 953, gx_r 399], t300, n, 0) _
  refine gx_ap rfl (fun _ => rfl) g300 rfl rfl rfl (show 953 < 1035 from by omega) rfl (ai_in_h (by first | decide | omega) (by first | decide | omega) (by first | decide | omega)) rfl (fun t325 g325 k325 e325 => ?_)
  have k226 : ai_hv t325 389 77 = some (.inl (X 0)) := (e325 389 77 (by first | decide | omega)).trans k201
  have k227 : ai_hv t325 389 78 = some (.inl (Y 0)) := (e325 389 78 (by first | decide | omega)).trans k202
  have k228 : ai_hv t325 389 80 = some (.inl (X 1)) := (e325 389 80 (by first | decide | omega)).trans k203
  have k229 : ai_hv t325 389 81 = some (.inl (Y 1)) := (e325 389 81 (by first | decide | omega)).trans k204
  have k230 : ai_hv t325 389 83 = some (.inl (X 2)) := (e325 389 83 (by first | decide | omega)).trans k205
  have k231 : ai_hv t325 389 84 = some (.inl (Y 2)) := (e325 389 84 (by first | decide | omega)).trans k206
  have k232 : ai_hv t325 389 86 = some (.inl (X 3)) := (e325 389 86 (by first | decide | omega)).trans k207
  have k233 : ai_hv t325 389 87 = some (.inl (Y 3)) := (e325 389 87 (by first | decide | omega)).trans k208
  have k234 : ai_hv t325 389 89 = some (.inl (X 4)) := (e325 389 89 (by first | decide | omega)).trans k209
  have k235 : ai_hv t325 389 90 = some (.inl (Y 4)) := (e325 389 90 (by first | decide | omega)).trans k210
  have k236 : ai_hv t325 389 92 = some (.inl (X 5)) := (e325 389 92 (by first | decide | omega)).trans k211
  have k237 : ai_hv t325 389 93 = some (.inl (Y 5)) := (e325 389 93 (by first | decide | omega)).trans k212
  have k238 : ai_hv t325 399 945 = some (.inl 0) := (e325 399 945 (by first | decide | omega)).trans k213
  have k239 : ai_hv t325 399 946 = some (.inl ((X 0) + (8 * (Y 0)))) := (e325 399 946 (by first | decide | omega)).trans k214
  have k240 : ai_hv t325 399 947 = some (.inl ((X 1) + (8 * (Y 1)))) := (e325 399 947 (by first | decide | omega)).trans k215
  have k241 : ai_hv t325 399 948 = some (.inl ((X 2) + (8 * (Y 2)))) := (e325 399 948 (by first | decide | omega)).trans k216
  have k242 : ai_hv t325 399 949 = some (.inl ((X 3) + (8 * (Y 3)))) := (e325 399 949 (by first | decide | omega)).trans k217
  have k243 : ai_hv t325 399 950 = some (.inl ((X 4) + (8 * (Y 4)))) := (e325 399 950 (by first | decide | omega)).trans k218
  have k244 : ai_hv t325 399 951 = some (.inl ((X 5) + (8 * (Y 5)))) := (e325 399 951 (by first | decide | omega)).trans k219
  have k245 : ai_hv t325 399 952 = some (.inl (B 0)) := (e325 399 952 (by first | decide | omega)).trans k220
  have k246 : ai_hv t325 399 954 = some (.inl 0) := (e325 399 954 (by first | decide | omega)).trans k221
  have k247 : ai_hv t325 399 956 = some (.inl 0) := (e325 399 956 (by first | decide | omega)).trans k222
  have k248 : ai_hv t325 399 958 = some (.inl 0) := (e325 399 958 (by first | decide | omega)).trans k223
  have k249 : ai_hv t325 399 960 = some (.inl 0) := (e325 399 960 (by first | decide | omega)).trans k300
  refine ex_go (S := (88, [(2, .inl 1), (0, gx_r 383), (1, .inl 945)], [gx_r 383], t325, n, 0)) rfl (fun _ => rfl) rfl ?_
  refine gx_ref (c := 399) rfl g325 rfl rfl rfl rfl ?_
  refine ex_go (S := (92, [(2, .inl 1), (0, gx_r 383), (1, .inl 945)], [.inl 945, gx_r 399], t325, n, 0)) rfl (fun _ => rfl) rfl ?_
  refine ex_go (S := (94, [(2, .inl 1), (0, gx_r 383), (1, .inl 945)], [.inl 9, .inl 945, gx_r 399], t325, n, 0)) rfl (fun _ => rfl) rfl ?_
  refine ex_go (S := (95, [(2, .inl 1), (0, gx_r 383), (1, .inl 945)], [.inl 954, gx_r 399], t325, n, 0)) rfl (fun _ => rfl) rfl ?_
  refine ex_go (S := (96, [(2, .inl 1), (0, gx_r 383), (1, .inl 945)], [.inl 1, .inl 954, gx_r 399], t325, n, 0)) rfl (fun _ => rfl) rfl ?_
  refine ex_go (S := (97, [(2, .inl 1), (0, gx_r 383), (1, .inl 945)], [.inl 955, gx_r 399], t325, n, 0)) rfl (fun _ => rfl) rfl ?_
  refine ex_go (S := (98, [(2, .inl 1), (0, gx_r 383), (1, .inl 945)], [.inl 0, .inl 955, gx_r 399], t325, n, 0)) rfl (fun _ => rfl) rfl ?_
  refine gx_ap rfl (fun _ => rfl) g325 rfl rfl rfl (show 955 < 1035 from by omega) rfl (gx_full (by first | decide | omega)) rfl (fun t350 g350 k350 e350 => ?_)
  have k251 : ai_hv t350 389 77 = some (.inl (X 0)) := (e350 389 77 (by first | decide | omega)).trans k226
  have k252 : ai_hv t350 389 78 = some (.inl (Y 0)) := (e350 389 78 (by first | decide | omega)).trans k227
  have k253 : ai_hv t350 389 80 = some (.inl (X 1)) := (e350 389 80 (by first | decide | omega)).trans k228
  have k254 : ai_hv t350 389 81 = some (.inl (Y 1)) := (e350 389 81 (by first | decide | omega)).trans k229
  have k255 : ai_hv t350 389 83 = some (.inl (X 2)) := (e350 389 83 (by first | decide | omega)).trans k230
  have k256 : ai_hv t350 389 84 = some (.inl (Y 2)) := (e350 389 84 (by first | decide | omega)).trans k231
  have k257 : ai_hv t350 389 86 = some (.inl (X 3)) := (e350 389 86 (by first | decide | omega)).trans k232
  have k258 : ai_hv t350 389 87 = some (.inl (Y 3)) := (e350 389 87 (by first | decide | omega)).trans k233
  have k259 : ai_hv t350 389 89 = some (.inl (X 4)) := (e350 389 89 (by first | decide | omega)).trans k234
  have k260 : ai_hv t350 389 90 = some (.inl (Y 4)) := (e350 389 90 (by first | decide | omega)).trans k235
  have k261 : ai_hv t350 389 92 = some (.inl (X 5)) := (e350 389 92 (by first | decide | omega)).trans k236
  have k262 : ai_hv t350 389 93 = some (.inl (Y 5)) := (e350 389 93 (by first | decide | omega)).trans k237
  have k263 : ai_hv t350 399 945 = some (.inl 0) := (e350 399 945 (by first | decide | omega)).trans k238
  have k264 : ai_hv t350 399 946 = some (.inl ((X 0) + (8 * (Y 0)))) := (e350 399 946 (by first | decide | omega)).trans k239
  have k265 : ai_hv t350 399 947 = some (.inl ((X 1) + (8 * (Y 1)))) := (e350 399 947 (by first | decide | omega)).trans k240
  have k266 : ai_hv t350 399 948 = some (.inl ((X 2) + (8 * (Y 2)))) := (e350 399 948 (by first | decide | omega)).trans k241
  have k267 : ai_hv t350 399 949 = some (.inl ((X 3) + (8 * (Y 3)))) := (e350 399 949 (by first | decide | omega)).trans k242
  have k268 : ai_hv t350 399 950 = some (.inl ((X 4) + (8 * (Y 4)))) := (e350 399 950 (by first | decide | omega)).trans k243
  have k269 : ai_hv t350 399 951 = some (.inl ((X 5) + (8 * (Y 5)))) := (e350 399 951 (by first | decide | omega)).trans k244
  have k270 : ai_hv t350 399 952 = some (.inl (B 0)) := (e350 399 952 (by first | decide | omega)).trans k245
  have k271 : ai_hv t350 399 954 = some (.inl 0) := (e350 399 954 (by first | decide | omega)).trans k246
  have k272 : ai_hv t350 399 956 = some (.inl 0) := (e350 399 956 (by first | decide | omega)).trans k247
  have k273 : ai_hv t350 399 958 = some (.inl 0) := (e350 399 958 (by first | decide | omega)).trans k248
  have k274 : ai_hv t350 399 960 = some (.inl 0) := (e350 399 960 (by first | decide | omega)).trans k249
  have k275 : ai_hv t350 399 953 = some (.inl (B 1)) := (e350 399 953 (by first | decide | omega)).trans k325
  refine ex_go (S := (100, [(2, .inl 1), (0, gx_r 383), (1, .inl 945)], [gx_r 383], t350, n, 0)) rfl (fun _ => rfl) rfl ?_
  refine gx_ref (c := 399) rfl g350 rfl rfl rfl rfl ?_
  refine ex_go (S := (104, [(2, .inl 1), (0, gx_r 383), (1, .inl 945)], [.inl 945, gx_r 399], t350, n, 0)) rfl (fun _ => rfl) rfl ?_
  refine ex_go (S := (106, [(2, .inl 1), (0, gx_r 383), (1, .inl 945)], [.inl 11, .inl 945, gx_r 399], t350, n, 0)) rfl (fun _ => rfl) rfl ?_
  refine ex_go (S := (107, [(2, .inl 1), (0, gx_r 383), (1, .inl 945)], [.inl 956, gx_r 399], t350, n, 0)) rfl (fun _ => rfl) rfl ?_
  refine ex_go (S := (108, [(2, .inl 1), (0, gx_r 383), (1, .inl 945)], [.inl 1, .inl 956, gx_r 399], t350, n, 0)) rfl (fun _ => rfl) rfl ?_
  refine ex_go (S := (109, [(2, .inl 1), (0, gx_r 383), (1, .inl 945)], [.inl 957, gx_r 399], t350, n, 0)) rfl (fun _ => rfl) rfl ?_
  refine ex_go (S := (110, [(2, .inl 1), (0, gx_r 383), (1, .inl 945)], [.inl 0, .inl 957, gx_r 399], t350, n, 0)) rfl (fun _ => rfl) rfl ?_
  refine gx_ap rfl (fun _ => rfl) g350 rfl rfl rfl (show 957 < 1035 from by omega) rfl (ai_in_h (by first | decide | omega) (by first | decide | omega) (by first | decide | omega)) rfl (fun t376 g376 k376 e376 => ?_)
  have k277 : ai_hv t376 389 77 = some (.inl (X 0)) := (e376 389 77 (by first | decide | omega)).trans k251
  have k278 : ai_hv t376 389 78 = some (.inl (Y 0)) := (e376 389 78 (by first | decide | omega)).trans k252
  have k279 : ai_hv t376 389 80 = some (.inl (X 1)) := (e376 389 80 (by first | decide | omega)).trans k253
  have k280 : ai_hv t376 389 81 = some (.inl (Y 1)) := (e376 389 81 (by first | decide | omega)).trans k254
  have k281 : ai_hv t376 389 83 = some (.inl (X 2)) := (e376 389 83 (by first | decide | omega)).trans k255
  have k282 : ai_hv t376 389 84 = some (.inl (Y 2)) := (e376 389 84 (by first | decide | omega)).trans k256
  have k283 : ai_hv t376 389 86 = some (.inl (X 3)) := (e376 389 86 (by first | decide | omega)).trans k257
  have k284 : ai_hv t376 389 87 = some (.inl (Y 3)) := (e376 389 87 (by first | decide | omega)).trans k258
  have k285 : ai_hv t376 389 89 = some (.inl (X 4)) := (e376 389 89 (by first | decide | omega)).trans k259
  have k286 : ai_hv t376 389 90 = some (.inl (Y 4)) := (e376 389 90 (by first | decide | omega)).trans k260
  have k287 : ai_hv t376 389 92 = some (.inl (X 5)) := (e376 389 92 (by first | decide | omega)).trans k261
  have k288 : ai_hv t376 389 93 = some (.inl (Y 5)) := (e376 389 93 (by first | decide | omega)).trans k262
  have k289 : ai_hv t376 399 945 = some (.inl 0) := (e376 399 945 (by first | decide | omega)).trans k263
  have k290 : ai_hv t376 399 946 = some (.inl ((X 0) + (8 * (Y 0)))) := (e376 399 946 (by first | decide | omega)).trans k264
  have k291 : ai_hv t376 399 947 = some (.inl ((X 1) + (8 * (Y 1)))) := (e376 399 947 (by first | decide | omega)).trans k265
  have k292 : ai_hv t376 399 948 = some (.inl ((X 2) + (8 * (Y 2)))) := (e376 399 948 (by first | decide | omega)).trans k266
  have k293 : ai_hv t376 399 949 = some (.inl ((X 3) + (8 * (Y 3)))) := (e376 399 949 (by first | decide | omega)).trans k267
  have k294 : ai_hv t376 399 950 = some (.inl ((X 4) + (8 * (Y 4)))) := (e376 399 950 (by first | decide | omega)).trans k268
  have k295 : ai_hv t376 399 951 = some (.inl ((X 5) + (8 * (Y 5)))) := (e376 399 951 (by first | decide | omega)).trans k269
  have k296 : ai_hv t376 399 952 = some (.inl (B 0)) := (e376 399 952 (by first | decide | omega)).trans k270
  have k297 : ai_hv t376 399 954 = some (.inl 0) := (e376 399 954 (by first | decide | omega)).trans k271
  have k298 : ai_hv t376 399 956 = some (.inl 0) := (e376 399 956 (by first | decide | omega)).trans k272
  have k299 : ai_hv t376 399 958 = some (.inl 0) := (e376 399 958 (by first | decide | omega)).trans k273
  have k300 : ai_hv t376 399 960 = some (.inl 0) := (e376 399 960 (by first | decide | omega)).trans k274
  have k301 : ai_hv t376 399 953 = some (.inl (B 1)) := (e376 399 953 (by first | decide | omega)).trans k275
  have k302 : ai_hv t376 399 955 = some (.inl 0) := (e376 399 955 (by first | decide | omega)).trans k350
  refine ex_go (S := (112, [(2, .inl 1), (0, gx_r 383), (1, .inl 945)], [gx_r 383], t376, n, 0)) rfl (fun _ => rfl) rfl ?_
  refine gx_ref (c := 399) rfl g376 rfl rfl rfl rfl ?_
  refine ex_go (S := (116, [(2, .inl 1), (0, gx_r 383), (1, .inl 945)], [.inl 945, gx_r 399], t376, n, 0)) rfl (fun _ => rfl) rfl ?_
  refine ex_go (S := (118, [(2, .inl 1), (0, gx_r 383), (1, .inl 945)], [.inl 13, .inl 945, gx_r 399], t376, n, 0)) rfl (fun _ => rfl) rfl ?_
  refine ex_go (S := (119, [(2, .inl 1), (0, gx_r 383), (1, .inl 945)], [.inl 958, gx_r 399], t376, n, 0)) rfl (fun _ => rfl) rfl ?_
  refine ex_go (S := (120, [(2, .inl 1), (0, gx_r 383), (1, .inl 945)], [.inl 1, .inl 958, gx_r 399], t376, n, 0)) rfl (fun _ => rfl) rfl ?_
  refine ex_go (S := (121, [(2, .inl 1), (0, gx_r 383), (1, .inl 945)], [.inl 959, gx_r 399], t376, n, 0)) rfl (fun _ => rfl) rfl ?_
  refine ex_go (S := (122, [(2, .inl 1), (0, gx_r 383), (1, .inl 945)], [.inl 0, .inl 959, gx_r 399], t376, n, 0)) rfl (fun _ => rfl) rfl ?_
  refine gx_ap rfl (fun _ => rfl) g376 rfl rfl rfl (show 959 < 1035 from by omega) rfl (ai_in_h (by first | decide | omega) (by first | decide | omega) (by first | decide | omega)) rfl (fun t403 g403 k403 e403 => ?_)
  have k304 : ai_hv t403 389 77 = some (.inl (X 0)) := (e403 389 77 (by first | decide | omega)).trans k277
  have k305 : ai_hv t403 389 78 = some (.inl (Y 0)) := (e403 389 78 (by first | decide | omega)).trans k278
  have k306 : ai_hv t403 389 80 = some (.inl (X 1)) := (e403 389 80 (by first | decide | omega)).trans k279
  have k307 : ai_hv t403 389 81 = some (.inl (Y 1)) := (e403 389 81 (by first | decide | omega)).trans k280
  have k308 : ai_hv t403 389 83 = some (.inl (X 2)) := (e403 389 83 (by first | decide | omega)).trans k281
  have k309 : ai_hv t403 389 84 = some (.inl (Y 2)) := (e403 389 84 (by first | decide | omega)).trans k282
  have k310 : ai_hv t403 389 86 = some (.inl (X 3)) := (e403 389 86 (by first | decide | omega)).trans k283
  have k311 : ai_hv t403 389 87 = some (.inl (Y 3)) := (e403 389 87 (by first | decide | omega)).trans k284
  have k312 : ai_hv t403 389 89 = some (.inl (X 4)) := (e403 389 89 (by first | decide | omega)).trans k285
  have k313 : ai_hv t403 389 90 = some (.inl (Y 4)) := (e403 389 90 (by first | decide | omega)).trans k286
  have k314 : ai_hv t403 389 92 = some (.inl (X 5)) := (e403 389 92 (by first | decide | omega)).trans k287
  have k315 : ai_hv t403 389 93 = some (.inl (Y 5)) := (e403 389 93 (by first | decide | omega)).trans k288
  have k316 : ai_hv t403 399 945 = some (.inl 0) := (e403 399 945 (by first | decide | omega)).trans k289
  have k317 : ai_hv t403 399 946 = some (.inl ((X 0) + (8 * (Y 0)))) := (e403 399 946 (by first | decide | omega)).trans k290
  have k318 : ai_hv t403 399 947 = some (.inl ((X 1) + (8 * (Y 1)))) := (e403 399 947 (by first | decide | omega)).trans k291
  have k319 : ai_hv t403 399 948 = some (.inl ((X 2) + (8 * (Y 2)))) := (e403 399 948 (by first | decide | omega)).trans k292
  have k320 : ai_hv t403 399 949 = some (.inl ((X 3) + (8 * (Y 3)))) := (e403 399 949 (by first | decide | omega)).trans k293
  have k321 : ai_hv t403 399 950 = some (.inl ((X 4) + (8 * (Y 4)))) := (e403 399 950 (by first | decide | omega)).trans k294
  have k322 : ai_hv t403 399 951 = some (.inl ((X 5) + (8 * (Y 5)))) := (e403 399 951 (by first | decide | omega)).trans k295
  have k323 : ai_hv t403 399 952 = some (.inl (B 0)) := (e403 399 952 (by first | decide | omega)).trans k296
  have k324 : ai_hv t403 399 954 = some (.inl 0) := (e403 399 954 (by first | decide | omega)).trans k297
  have k325 : ai_hv t403 399 956 = some (.inl 0) := (e403 399 956 (by first | decide | omega)).trans k298
  have k326 : ai_hv t403 399 958 = some (.inl 0) := (e403 399 958 (by first | decide | omega)).trans k299
  have k327 : ai_hv t403 399 960 = some (.inl 0) := (e403 399 960 (by first | decide | omega)).trans k300
  have k328 : ai_hv t403 399 953 = some (.inl (B 1)) := (e403 399 953 (by first | decide | omega)).trans k301
  have k329 : ai_hv t403 399 955 = some (.inl 0) := (e403 399 955 (by first | decide | omega)).trans k302
  have k330 : ai_hv t403 399 957 = some (.inl 0) := (e403 399 957 (by first | decide | omega)).trans k376
  refine ex_go (S := (124, [(2, .inl 1), (0, gx_r 383), (1, .inl 945)], [gx_r 383], t403, n, 0)) rfl (fun _ => rfl) rfl ?_
  refine gx_ref (c := 399) rfl g403 rfl rfl rfl rfl ?_
  refine ex_go (S := (128, [(2, .inl 1), (0, gx_r 383), (1, .inl 945)], [.inl 945, gx_r 399], t403, n, 0)) rfl (fun _ => rfl) rfl ?_
  refine ex_go (S := (130, [(2, .inl 1), (0, gx_r 383), (1, .inl 945)], [.inl 15, .inl 945, gx_r 399], t403, n, 0)) rfl (fun _ => rfl) rfl ?_
  refine ex_go (S := (131, [(2, .inl 1), (0, gx_r 383), (1, .inl 945)], [.inl 960, gx_r 399], t403, n, 0)) rfl (fun _ => rfl) rfl ?_
  refine ex_go (S := (132, [(2, .inl 1), (0, gx_r 383), (1, .inl 945)], [.inl 1, .inl 960, gx_r 399], t403, n, 0)) rfl (fun _ => rfl) rfl ?_
  refine ex_go (S := (133, [(2, .inl 1), (0, gx_r 383), (1, .inl 945)], [.inl 961, gx_r 399], t403, n, 0)) rfl (fun _ => rfl) rfl ?_
  refine ex_go (S := (134, [(2, .inl 1), (0, gx_r 383), (1, .inl 945)], [.inl 0, .inl 961, gx_r 399], t403, n, 0)) rfl (fun _ => rfl) rfl ?_
  refine gx_ap rfl (fun _ => rfl) g403 rfl rfl rfl (show 961 < 1035 from by omega) rfl (ai_in_h (by first | decide | omega) (by first | decide | omega) (by first | decide | omega)) rfl (fun t431 g431 k431 e431 => ?_)
  have k332 : ai_hv t431 389 77 = some (.inl (X 0)) := (e431 389 77 (by first | decide | omega)).trans k304
  have k333 : ai_hv t431 389 78 = some (.inl (Y 0)) := (e431 389 78 (by first | decide | omega)).trans k305
  have k334 : ai_hv t431 389 80 = some (.inl (X 1)) := (e431 389 80 (by first | decide | omega)).trans k306
  have k335 : ai_hv t431 389 81 = some (.inl (Y 1)) := (e431 389 81 (by first | decide | omega)).trans k307
  have k336 : ai_hv t431 389 83 = some (.inl (X 2)) := (e431 389 83 (by first | decide | omega)).trans k308
  have k337 : ai_hv t431 389 84 = some (.inl (Y 2)) := (e431 389 84 (by first | decide | omega)).trans k309
  have k338 : ai_hv t431 389 86 = some (.inl (X 3)) := (e431 389 86 (by first | decide | omega)).trans k310
  have k339 : ai_hv t431 389 87 = some (.inl (Y 3)) := (e431 389 87 (by first | decide | omega)).trans k311
  have k340 : ai_hv t431 389 89 = some (.inl (X 4)) := (e431 389 89 (by first | decide | omega)).trans k312
  have k341 : ai_hv t431 389 90 = some (.inl (Y 4)) := (e431 389 90 (by first | decide | omega)).trans k313
  have k342 : ai_hv t431 389 92 = some (.inl (X 5)) := (e431 389 92 (by first | decide | omega)).trans k314
  have k343 : ai_hv t431 389 93 = some (.inl (Y 5)) := (e431 389 93 (by first | decide | omega)).trans k315
  have k344 : ai_hv t431 399 945 = some (.inl 0) := (e431 399 945 (by first | decide | omega)).trans k316
  have k345 : ai_hv t431 399 946 = some (.inl ((X 0) + (8 * (Y 0)))) := (e431 399 946 (by first | decide | omega)).trans k317
  have k346 : ai_hv t431 399 947 = some (.inl ((X 1) + (8 * (Y 1)))) := (e431 399 947 (by first | decide | omega)).trans k318
  have k347 : ai_hv t431 399 948 = some (.inl ((X 2) + (8 * (Y 2)))) := (e431 399 948 (by first | decide | omega)).trans k319
  have k348 : ai_hv t431 399 949 = some (.inl ((X 3) + (8 * (Y 3)))) := (e431 399 949 (by first | decide | omega)).trans k320
  have k349 : ai_hv t431 399 950 = some (.inl ((X 4) + (8 * (Y 4)))) := (e431 399 950 (by first | decide | omega)).trans k321
  have k350 : ai_hv t431 399 951 = some (.inl ((X 5) + (8 * (Y 5)))) := (e431 399 951 (by first | decide | omega)).trans k322
  have k351 : ai_hv t431 399 952 = some (.inl (B 0)) := (e431 399 952 (by first | decide | omega)).trans k323
  have k352 : ai_hv t431 399 954 = some (.inl 0) := (e431 399 954 (by first | decide | omega)).trans k324
  have k353 : ai_hv t431 399 956 = some (.inl 0) := (e431 399 956 (by first | decide | omega)).trans k325
  have k354 : ai_hv t431 399 958 = some (.inl 0) := (e431 399 958 (by first | decide | omega)).trans k326
  have k355 : ai_hv t431 399 960 = some (.inl 0) := (e431 399 960 (by first | decide | omega)).trans k327
  have k356 : ai_hv t431 399 953 = some (.inl (B 1)) := (e431 399 953 (by first | decide | omega)).trans k328
  have k357 : ai_hv t431 399 955 = some (.inl 0) := (e431 399 955 (by first | decide | omega)).trans k329
  have k358 : ai_hv t431 399 957 = some (.inl 0) := (e431 399 957 (by first | decide | omega)).trans k330
  have k359 : ai_hv t431 399 959 = some (.inl 0) := (e431 399 959 (by first | decide | omega)).trans k403
  refine ex_go (S := (138, [(2, .inl 2), (0, gx_r 383), (1, .inl 945)], [], t431, n, 0)) rfl (fun _ => rfl) rfl ?_
  refine ex_go (S := (65, [(2, .inl 2), (0, gx_r 383), (1, .inl 945)], [], t431, n, 0)) rfl (fun _ => rfl) rfl ?_
  refine ex_go (S := (66, [(2, .inl 2), (0, gx_r 383), (1, .inl 945)], [.inl 2], t431, n, 0)) rfl (fun _ => rfl) rfl ?_
  refine ex_go (S := (67, [(2, .inl 2), (0, gx_r 383), (1, .inl 945)], [.inl 2, .inl 2], t431, n, 0)) rfl (fun _ => rfl) rfl ?_
  refine ex_go (S := (141, [(2, .inl 2), (0, gx_r 383), (1, .inl 945)], [], t431, n, 0)) rfl (fun _ => rfl) rfl ?_
  refine ex_ret (r := (none, t431, n, 0)) rfl (fun _ => rfl) ?_
  refine ⟨_, rfl, t431, rfl, g431, (fun c i h => (e431 c i (by first | decide | omega)).trans ((e403 c i (by first | decide | omega)).trans ((e376 c i (by first | decide | omega)).trans ((e350 c i (by first | decide | omega)).trans ((e325 c i (by first | decide | omega)).trans ((e300 c i (by first | decide | omega)).trans ((e277 c i (by first | decide | omega)).trans ((e255 c i (by first | decide | omega)).trans ((e234 c i (by first | decide | omega)).trans ((e214 c i (by first | decide | omega)).trans ((e194 c i (by first | decide | omega)).trans ((e176 c i (by first | decide | omega)).trans ((e159 c i (by first | decide | omega)).trans ((e143 c i (by first | decide | omega)).trans ((e128 c i (by first | decide | omega)).trans ((e114 c i (by first | decide | omega)).trans (e101 c i (by first | decide | omega)))))))))))))))))), k344, (fun i hi => ?_), (fun c hc => ?_), fun j hj => ?_⟩
  · rcases (show i = 0 ∨ i = 1 ∨ i = 2 ∨ i = 3 ∨ i = 4 ∨ i = 5 by omega) with rfl | rfl | rfl | rfl | rfl | rfl
    · exact k345
    · exact k346
    · exact k347
    · exact k348
    · exact k349
    · exact k350
  · rcases (show c = 0 ∨ c = 1 by omega) with rfl | rfl
    · exact k351
    · exact k356
  · rcases (show j = 0 ∨ j = 1 ∨ j = 2 ∨ j = 3 ∨ j = 4 ∨ j = 5 ∨ j = 6 ∨ j = 7 by omega) with rfl | rfl | rfl | rfl | rfl | rfl | rfl | rfl
    · exact k352
    · exact k357
    · exact k353
    · exact k358
    · exact k354
    · exact k359
    · exact k355
    · exact k431
theorem pe_begins (d n : Nat) {t0 : en_H} (g0 : ai_HG ah_G t0) {X Y B : Nat → Nat} (kX : ∀ i, i < 6 → ai_hv t0 389 (77 + 3 * i) = some (.inl (X i))) (kY : ∀ i, i < 6 → ai_hv t0 389 (78 + 3 * i) = some (.inl (Y i))) (kB : ∀ c, c < 2 → ai_hv t0 389 (120 + 3 * c) = some (.inl (B c))) (hX : ∀ i, i < 6 → X i ≤ 7) (hY : ∀ i, i < 6 → Y i ≤ 7) (hB : ∀ c, c < 2 → B c ≤ 9999) : ∃ r, en_u (d + 3) 27 [gx_r 383] t0 n = some r ∧ ∃ t', r = (none, t', n, 0) ∧ ai_HG ah_G t' ∧ (∀ c i, ¬ ((c = 399 ∧ i < 18) ∨ (c = 396 ∧ i = 0) ∨ (c = 383 ∧ i = 26) ∨ c = 400) → ai_hv t' c i = ai_hv t0 c i) ∧ (ai_hv t' 399 0 = some (.inl 0) ∧ (∀ i, i < 6 → ai_hv t' 399 (1 + i) = some (.inl (X i + 8 * Y i))) ∧ (∀ c, c < 2 → ai_hv t' 399 (7 + c) = some (.inl (B c))) ∧ (∀ j, j < 8 → ai_hv t' 399 (9 + j) = some (.inl 0))) ∧ ai_hv t' 399 17 = some (.inl 0) ∧ ai_hv t' 396 0 = some (.inl 0) ∧ ai_hv t' 383 26 = some (.inl 0) ∧ ∀ i, i < 4 → ai_hv t' 400 i = some (.inl 0) := by
  refine en_u_ex (d := d + 2) rfl ?_
  show en_ex _ _ _ _ (0, [(0, gx_r 383)], [], t0, n, 0) _
  refine ex_go (S := (1, [(0, gx_r 383)], [gx_r 383], t0, n, 0)) rfl (fun _ => rfl) rfl ?_
  refine ex_go (S := (2, [(0, gx_r 383)], [.inl 0, gx_r 383], t0, n, 0)) rfl (fun _ => rfl) rfl ?_
  obtain ⟨_, r1, t1, rfl, g1, e1, z1, z2, z3, z4⟩ := pe_starts0 d n g0 kX kY kB hX hY hB
  refine gx_call0 rfl rfl g0 rfl rfl r1 rfl ?_
  show en_ex _ _ _ _ (5, [(0, gx_r 383)], [], t1, n, 0) _
  refine ex_go (S := (6, [(0, gx_r 383)], [gx_r 383], t1, n, 0)) rfl (fun _ => rfl) rfl ?_
  refine gx_ref (c := 399) rfl g1 rfl rfl rfl rfl ?_
  refine ex_go (S := (11, [(0, gx_r 383)], [.inl 17, gx_r 399], t1, n, 0)) rfl (fun _ => rfl) rfl ?_
  refine ex_go (S := (12, [(0, gx_r 383)], [.inl 0, .inl 17, gx_r 399], t1, n, 0)) rfl (fun _ => rfl) rfl ?_
  refine gx_ap rfl (fun _ => rfl) g1 rfl rfl rfl (show 17 < 1035 from by omega) rfl (ai_in_h (by first | decide | omega) (by first | decide | omega) (by first | decide | omega)) rfl (fun t101 g101 k101 e101 => ?_)
  refine ex_go (S := (14, [(0, gx_r 383)], [gx_r 383], t101, n, 0)) rfl (fun _ => rfl) rfl ?_
  refine gx_ref (c := 396) rfl g101 rfl rfl rfl rfl ?_
  refine ex_go (S := (18, [(0, gx_r 383)], [.inl 0, gx_r 396], t101, n, 0)) rfl (fun _ => rfl) rfl ?_
  refine ex_go (S := (19, [(0, gx_r 383)], [.inl 0, .inl 0, gx_r 396], t101, n, 0)) rfl (fun _ => rfl) rfl ?_
  refine gx_ap rfl (fun _ => rfl) g101 rfl rfl rfl (show 0 < 210 from by omega) rfl (ai_in_h (by first | decide | omega) (by first | decide | omega) (by first | decide | omega)) rfl (fun t102 g102 k102 e102 => ?_)
  have k3 : ai_hv t102 399 17 = some (.inl 0) := (e102 399 17 (by first | decide | omega)).trans k101
  refine ex_go (S := (21, [(0, gx_r 383)], [gx_r 383], t102, n, 0)) rfl (fun _ => rfl) rfl ?_
  refine ex_go (S := (22, [(0, gx_r 383)], [.inl 0, gx_r 383], t102, n, 0)) rfl (fun _ => rfl) rfl ?_
  refine gx_put rfl g102 rfl rfl (ai_in_h (by first | decide | omega) (by first | decide | omega) (by first | decide | omega)) rfl (fun t104 g104 k104 e104 => ?_)
  have k5 : ai_hv t104 399 17 = some (.inl 0) := (e104 399 17 (by first | decide | omega)).trans k3
  have k6 : ai_hv t104 396 0 = some (.inl 0) := (e104 396 0 (by first | decide | omega)).trans k102
  refine ex_go (S := (26, [(0, gx_r 383)], [.inl 0], t104, n, 0)) rfl (fun _ => rfl) rfl ?_
  refine ex_go (S := (27, [(1, .inl 0), (0, gx_r 383)], [], t104, n, 0)) rfl (fun _ => rfl) rfl ?_
  refine ex_go (S := (28, [(1, .inl 0), (0, gx_r 383)], [.inl 0], t104, n, 0)) rfl (fun _ => rfl) rfl ?_
  refine ex_go (S := (29, [(1, .inl 0), (0, gx_r 383)], [.inl 4, .inl 0], t104, n, 0)) rfl (fun _ => rfl) rfl ?_
  refine ex_go (S := (32, [(1, .inl 0), (0, gx_r 383)], [], t104, n, 0)) rfl (fun _ => rfl) rfl ?_
  refine ex_go (S := (33, [(1, .inl 0), (0, gx_r 383)], [gx_r 383], t104, n, 0)) rfl (fun _ => rfl) rfl ?_
  refine gx_ref (c := 400) rfl g104 rfl rfl rfl rfl ?_
  refine ex_go (S := (37, [(1, .inl 0), (0, gx_r 383)], [.inl 0, gx_r 400], t104, n, 0)) rfl (fun _ => rfl) rfl ?_
  refine ex_go (S := (38, [(1, .inl 0), (0, gx_r 383)], [.inl 0, .inl 0, gx_r 400], t104, n, 0)) rfl (fun _ => rfl) rfl ?_
  refine gx_apv (d := 2) rfl (fun _ => rfl) g104 rfl rfl rfl (show 0 < 4 from by omega) rfl (ai_in_h (by first | decide | omega) (by first | decide | omega) (by first | decide | omega)) rfl (fun t107 g107 k107 e107 => ?_)
  have k8 : ai_hv t107 399 17 = some (.inl 0) := (e107 399 17 (by first | decide | omega)).trans k5
  have k9 : ai_hv t107 396 0 = some (.inl 0) := (e107 396 0 (by first | decide | omega)).trans k6
  have k10 : ai_hv t107 383 26 = some (.inl 0) := (e107 383 26 (by first | decide | omega)).trans k104
  refine ex_go (S := (42, [(1, .inl 1), (0, gx_r 383)], [], t107, n, 0)) rfl (fun _ => rfl) rfl ?_
  refine ex_go (S := (27, [(1, .inl 1), (0, gx_r 383)], [], t107, n, 0)) rfl (fun _ => rfl) rfl ?_
  refine ex_go (S := (28, [(1, .inl 1), (0, gx_r 383)], [.inl 1], t107, n, 0)) rfl (fun _ => rfl) rfl ?_
  refine ex_go (S := (29, [(1, .inl 1), (0, gx_r 383)], [.inl 4, .inl 1], t107, n, 0)) rfl (fun _ => rfl) rfl ?_
  refine ex_go (S := (32, [(1, .inl 1), (0, gx_r 383)], [], t107, n, 0)) rfl (fun _ => rfl) rfl ?_
  refine ex_go (S := (33, [(1, .inl 1), (0, gx_r 383)], [gx_r 383], t107, n, 0)) rfl (fun _ => rfl) rfl ?_
  refine gx_ref (c := 400) rfl g107 rfl rfl rfl rfl ?_
  refine ex_go (S := (37, [(1, .inl 1), (0, gx_r 383)], [.inl 1, gx_r 400], t107, n, 0)) rfl (fun _ => rfl) rfl ?_
  refine ex_go (S := (38, [(1, .inl 1), (0, gx_r 383)], [.inl 0, .inl 1, gx_r 400], t107, n, 0)) rfl (fun _ => rfl) rfl ?_
  refine gx_apv (d := 2) rfl (fun _ => rfl) g107 rfl rfl rfl (show 1 < 4 from by omega) rfl (ai_in_h (by first | decide | omega) (by first | decide | omega) (by first | decide | omega)) rfl (fun t111 g111 k111 e111 => ?_)
  have k12 : ai_hv t111 399 17 = some (.inl 0) := (e111 399 17 (by first | decide | omega)).trans k8
  have k13 : ai_hv t111 396 0 = some (.inl 0) := (e111 396 0 (by first | decide | omega)).trans k9
  have k14 : ai_hv t111 383 26 = some (.inl 0) := (e111 383 26 (by first | decide | omega)).trans k10
  have k15 : ai_hv t111 400 0 = some (.inl 0) := (e111 400 0 (by first | decide | omega)).trans k107
  refine ex_go (S := (42, [(1, .inl 2), (0, gx_r 383)], [], t111, n, 0)) rfl (fun _ => rfl) rfl ?_
  refine ex_go (S := (27, [(1, .inl 2), (0, gx_r 383)], [], t111, n, 0)) rfl (fun _ => rfl) rfl ?_
  refine ex_go (S := (28, [(1, .inl 2), (0, gx_r 383)], [.inl 2], t111, n, 0)) rfl (fun _ => rfl) rfl ?_
  refine ex_go (S := (29, [(1, .inl 2), (0, gx_r 383)], [.inl 4, .inl 2], t111, n, 0)) rfl (fun _ => rfl) rfl ?_
  refine ex_go (S := (32, [(1, .inl 2), (0, gx_r 383)], [], t111, n, 0)) rfl (fun _ => rfl) rfl ?_
  refine ex_go (S := (33, [(1, .inl 2), (0, gx_r 383)], [gx_r 383], t111, n, 0)) rfl (fun _ => rfl) rfl ?_
  refine gx_ref (c := 400) rfl g111 rfl rfl rfl rfl ?_
  refine ex_go (S := (37, [(1, .inl 2), (0, gx_r 383)], [.inl 2, gx_r 400], t111, n, 0)) rfl (fun _ => rfl) rfl ?_
  refine ex_go (S := (38, [(1, .inl 2), (0, gx_r 383)], [.inl 0, .inl 2, gx_r 400], t111, n, 0)) rfl (fun _ => rfl) rfl ?_
  refine gx_apv (d := 2) rfl (fun _ => rfl) g111 rfl rfl rfl (show 2 < 4 from by omega) rfl (ai_in_h (by first | decide | omega) (by first | decide | omega) (by first | decide | omega)) rfl (fun t116 g116 k116 e116 => ?_)
  have k17 : ai_hv t116 399 17 = some (.inl 0) := (e116 399 17 (by first | decide | omega)).trans k12
  have k18 : ai_hv t116 396 0 = some (.inl 0) := (e116 396 0 (by first | decide | omega)).trans k13
  have k19 : ai_hv t116 383 26 = some (.inl 0) := (e116 383 26 (by first | decide | omega)).trans k14
  have k20 : ai_hv t116 400 0 = some (.inl 0) := (e116 400 0 (by first | decide | omega)).trans k15
  have k21 : ai_hv t116 400 1 = some (.inl 0) := (e116 400 1 (by first | decide | omega)).trans k111
  refine ex_go (S := (42, [(1, .inl 3), (0, gx_r 383)], [], t116, n, 0)) rfl (fun _ => rfl) rfl ?_
  refine ex_go (S := (27, [(1, .inl 3), (0, gx_r 383)], [], t116, n, 0)) rfl (fun _ => rfl) rfl ?_
  refine ex_go (S := (28, [(1, .inl 3), (0, gx_r 383)], [.inl 3], t116, n, 0)) rfl (fun _ => rfl) rfl ?_
  refine ex_go (S := (29, [(1, .inl 3), (0, gx_r 383)], [.inl 4, .inl 3], t116, n, 0)) rfl (fun _ => rfl) rfl ?_
  refine ex_go (S := (32, [(1, .inl 3), (0, gx_r 383)], [], t116, n, 0)) rfl (fun _ => rfl) rfl ?_
  refine ex_go (S := (33, [(1, .inl 3), (0, gx_r 383)], [gx_r 383], t116, n, 0)) rfl (fun _ => rfl) rfl ?_
  refine gx_ref (c := 400) rfl g116 rfl rfl rfl rfl ?_
  refine ex_go (S := (37, [(1, .inl 3), (0, gx_r 383)], [.inl 3, gx_r 400], t116, n, 0)) rfl (fun _ => rfl) rfl ?_
  refine ex_go (S := (38, [(1, .inl 3), (0, gx_r 383)], [.inl 0, .inl 3, gx_r 400], t116, n, 0)) rfl (fun _ => rfl) rfl ?_
  refine gx_apv (d := 2) rfl (fun _ => rfl) g116 rfl rfl rfl (show 3 < 4 from by omega) rfl (ai_in_h (by first | decide | omega) (by first | decide | omega) (by first | decide | omega)) rfl (fun t122 g122 k122 e122 => ?_)
  have k23 : ai_hv t122 399 17 = some (.inl 0) := (e122 399 17 (by first | decide | omega)).trans k17
  have k24 : ai_hv t122 396 0 = some (.inl 0) := (e122 396 0 (by first | decide | omega)).trans k18
  have k25 : ai_hv t122 383 26 = some (.inl 0) := (e122 383 26 (by first | decide | omega)).trans k19
  have k26 : ai_hv t122 400 0 = some (.inl 0) := (e122 400 0 (by first | decide | omega)).trans k20
  have k27 : ai_hv t122 400 1 = some (.inl 0) := (e122 400 1 (by first | decide | omega)).trans k21
  have k28 : ai_hv t122 400 2 = some (.inl 0) := (e122 400 2 (by first | decide | omega)).trans k116
  refine ex_go (S := (42, [(1, .inl 4), (0, gx_r 383)], [], t122, n, 0)) rfl (fun _ => rfl) rfl ?_
  refine ex_go (S := (27, [(1, .inl 4), (0, gx_r 383)], [], t122, n, 0)) rfl (fun _ => rfl) rfl ?_
  refine ex_go (S := (28, [(1, .inl 4), (0, gx_r 383)], [.inl 4], t122, n, 0)) rfl (fun _ => rfl) rfl ?_
  refine ex_go (S := (29, [(1, .inl 4), (0, gx_r 383)], [.inl 4, .inl 4], t122, n, 0)) rfl (fun _ => rfl) rfl ?_
  refine ex_go (S := (45, [(1, .inl 4), (0, gx_r 383)], [], t122, n, 0)) rfl (fun _ => rfl) rfl ?_
  refine ex_ret (r := (none, t122, n, 0)) rfl (fun _ => rfl) ?_
  refine ⟨_, rfl, t122, rfl, g122, (fun c i h => (e122 c i (by first | decide | omega)).trans ((e116 c i (by first | decide | omega)).trans ((e111 c i (by first | decide | omega)).trans ((e107 c i (by first | decide | omega)).trans ((e104 c i (by first | decide | omega)).trans ((e102 c i (by first | decide | omega)).trans ((e101 c i (by first | decide | omega)).trans (e1 c i (by first | decide | omega))))))))), ⟨(e122 399 0 (by first | decide | omega)).trans ((e116 399 0 (by first | decide | omega)).trans ((e111 399 0 (by first | decide | omega)).trans ((e107 399 0 (by first | decide | omega)).trans ((e104 399 0 (by first | decide | omega)).trans ((e102 399 0 (by first | decide | omega)).trans ((e101 399 0 (by first | decide | omega)).trans (z1))))))), (fun i hi => (e122 399 _ (by first | decide | omega)).trans ((e116 399 _ (by first | decide | omega)).trans ((e111 399 _ (by first | decide | omega)).trans ((e107 399 _ (by first | decide | omega)).trans ((e104 399 _ (by first | decide | omega)).trans ((e102 399 _ (by first | decide | omega)).trans ((e101 399 _ (by first | decide | omega)).trans (z2 i hi)))))))), (fun c hc => (e122 399 _ (by first | decide | omega)).trans ((e116 399 _ (by first | decide | omega)).trans ((e111 399 _ (by first | decide | omega)).trans ((e107 399 _ (by first | decide | omega)).trans ((e104 399 _ (by first | decide | omega)).trans ((e102 399 _ (by first | decide | omega)).trans ((e101 399 _ (by first | decide | omega)).trans (z3 c hc)))))))), fun j hj => (e122 399 _ (by first | decide | omega)).trans ((e116 399 _ (by first | decide | omega)).trans ((e111 399 _ (by first | decide | omega)).trans ((e107 399 _ (by first | decide | omega)).trans ((e104 399 _ (by first | decide | omega)).trans ((e102 399 _ (by first | decide | omega)).trans ((e101 399 _ (by first | decide | omega)).trans (z4 j hj)))))))⟩, k23, k24, k25, fun i hi => ?_⟩
  rcases (show i = 0 ∨ i = 1 ∨ i = 2 ∨ i = 3 by omega) with rfl | rfl | rfl | rfl
  · exact k26
  · exact k27
  · exact k28
  · exact k122
theorem pe_XYB {t : en_H} (g : ai_HG ah_G t) : ∃ X Y B : Nat → Nat, (∀ i, i < 6 → ai_hv t 389 (77 + 3 * i) = some (.inl (X i))) ∧ (∀ i, i < 6 → ai_hv t 389 (78 + 3 * i) = some (.inl (Y i))) ∧ (∀ c, c < 2 → ai_hv t 389 (120 + 3 * c) = some (.inl (B c))) ∧ (∀ i, i < 6 → X i ≤ 7) ∧ (∀ i, i < 6 → Y i ≤ 7) ∧ (∀ c, c < 2 → B c ≤ 9999) := by
  have hx : ∀ i, ∃ v, i < 6 → ai_hv t 389 (77 + 3 * i) = some (.inl v) ∧ v ≤ 7 := fun i => by
    by_cases h : i < 6
    · obtain ⟨m, k, -, h2⟩ := gx_inb (c := 389) (i := 77 + 3 * i) (lo := 0) (hi := 7) g rfl (show 77 + 3 * i < 320 by omega) (show ai_run ah_389.2.2.2 (77 + 3 * i) = some (.inl (2147483648, 2147483655)) from gx_at (rs := ah_389.2.2.2) (b := 77) (st := 3) (m := 6) (by decide +kernel) i h rfl) (by decide) (by decide) rfl
      exact ⟨m, fun _ => ⟨k, h2⟩⟩
    · exact ⟨0, fun z => absurd z h⟩
  have hy : ∀ i, ∃ v, i < 6 → ai_hv t 389 (78 + 3 * i) = some (.inl v) ∧ v ≤ 7 := fun i => by
    by_cases h : i < 6
    · obtain ⟨m, k, -, h2⟩ := gx_inb (c := 389) (i := 78 + 3 * i) (lo := 0) (hi := 7) g rfl (show 78 + 3 * i < 320 by omega) (show ai_run ah_389.2.2.2 (78 + 3 * i) = some (.inl (2147483648, 2147483655)) from gx_at (rs := ah_389.2.2.2) (b := 78) (st := 3) (m := 6) (by decide +kernel) i h rfl) (by decide) (by decide) rfl
      exact ⟨m, fun _ => ⟨k, h2⟩⟩
    · exact ⟨0, fun z => absurd z h⟩
  have hb : ∀ c, ∃ v, c < 2 → ai_hv t 389 (120 + 3 * c) = some (.inl v) ∧ v ≤ 9999 := fun c => by
    by_cases h : c < 2
    · obtain ⟨m, k, -, h2⟩ := gx_inb (c := 389) (i := 120 + 3 * c) (lo := 0) (hi := 9999) g rfl (show 120 + 3 * c < 320 by omega) (show ai_run ah_389.2.2.2 (120 + 3 * c) = some (.inl (2147483648, 2147493647)) from gx_at (rs := ah_389.2.2.2) (b := 120) (st := 3) (m := 2) (by decide +kernel) c h rfl) (by decide) (by decide) rfl
      exact ⟨m, fun _ => ⟨k, h2⟩⟩
    · exact ⟨0, fun z => absurd z h⟩
  exact ⟨fun i => Classical.choose (hx i), fun i => Classical.choose (hy i), fun i => Classical.choose (hb i), fun i h => (Classical.choose_spec (hx i) h).1, fun i h => (Classical.choose_spec (hy i) h).1, fun i h => (Classical.choose_spec (hb i) h).1, fun i h => (Classical.choose_spec (hx i) h).2, fun i h => (Classical.choose_spec (hy i) h).2, fun i h => (Classical.choose_spec (hb i) h).2⟩
/-- the reference has begun: all where told -/
noncomputable def SBg (t : en_H) : Prop := ∃ X Y B : Nat → Nat, (∀ i, i < 6 → ai_hv t 389 (77 + 3 * i) = some (.inl (X i))) ∧ (∀ i, i < 6 → ai_hv t 389 (78 + 3 * i) = some (.inl (Y i))) ∧ (∀ c, c < 2 → ai_hv t 389 (120 + 3 * c) = some (.inl (B c))) ∧ (ai_hv t 399 0 = some (.inl 0) ∧ (∀ i, i < 6 → ai_hv t 399 (1 + i) = some (.inl (X i + 8 * Y i))) ∧ (∀ c, c < 2 → ai_hv t 399 (7 + c) = some (.inl (B c))) ∧ (∀ j, j < 8 → ai_hv t 399 (9 + j) = some (.inl 0))) ∧ ai_hv t 399 17 = some (.inl 0) ∧ ai_hv t 396 0 = some (.inl 0) ∧ ai_hv t 383 26 = some (.inl 0) ∧ ∀ i, i < 4 → ai_hv t 400 i = some (.inl 0)
theorem SBg_of {d n : Nat} {t t' : en_H} (g : ai_HG ah_G t) (h : en_u (d + 3) 27 [gx_r 383] t n = some (none, t', n, 0)) : SBg t' := by
  obtain ⟨X, Y, B, kX, kY, kB, hX, hY, hB⟩ := pe_XYB g
  obtain ⟨_, r1, t2, rfl, -, e1, z1, z2, z3, z4, z5⟩ := pe_begins d n g kX kY kB hX hY hB
  have e2 := Option.some.inj (h.symm.trans r1)
  have e3 : t' = t2 := congrArg (fun z => z.2.1) e2
  subst e3
  exact ⟨X, Y, B, fun i hi => (e1 _ _ (by first | decide | omega)).trans (kX i hi), fun i hi => (e1 _ _ (by first | decide | omega)).trans (kY i hi), fun c hc => (e1 _ _ (by first | decide | omega)).trans (kB c hc), z1, z2, z3, z4, z5⟩
end SZB
