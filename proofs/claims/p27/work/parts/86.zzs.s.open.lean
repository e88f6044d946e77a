section SSS
/-- both come back with the same -/
noncomputable def zs_A (mc mr : Nat) (ac ar : List en_V) (t : en_H) (n : Nat) : Prop := ∃ z t1 t2, en_u 60 mc ac t n = some (some (.inl z), t1, n, 0) ∧ en_u 60 mr ar t1 n = some (some (.inl z), t2, n, 0)
theorem sc_open191 (d n : Nat) {t0 : en_H} {w : Nat → Nat → Nat} {L : List Nat} {σ : Nat → Nat} {x y z : Nat} (g0 : ai_HG ah_G t0) (hC : CW t0 191 w L) (hw : WS w) (k10 : ai_hv t0 0 10 = some (gx_r 191)) (k8 : ai_hv t0 8 0 = some (.inl (σ 0))) (hB : σ 0 ≤ 900000) (hx : x < 4294967296) (hy : y < 4294967296) (hz : z < 4294967296) : ∃ r, en_u (d + 4) 38 [gx_r 0, .inl x, .inl y, .inl z] t0 n = some r ∧ ∃ v, r = (some (.inl v), t0, n, 0) ∧ ((x < w 0 0 ∧ y < w 0 1 ∧ z ≤ 200) → v = if opn w (σ 0 + z) (8 * y + x) = true then 1 else 0) ∧ (¬ (x < w 0 0 ∧ y < w 0 1 ∧ z ≤ 200) → v = 4294967295) := by
  have hO := hw.1.1
  have hD := hw.1.2.1
  refine en_u_ex (d := d + 3) rfl ?_
  show en_ex _ _ _ _ (0, [(0, gx_r 0), (1, .inl x), (2, .inl y), (3, .inl z)], [], t0, n, 0) _
  refine ex_go (S := (1, [(0, gx_r 0), (1, .inl x), (2, .inl y), (3, .inl z)], [gx_r 0], t0, n, 0)) rfl (fun _ => rfl) rfl ?_
  refine gxo_get (a := 0) rfl g0 rfl rfl k10 rfl ?_
  refine ex_go (S := (5, [(0, gx_r 0), (1, .inl x), (2, .inl y), (3, .inl z)], [.inl x, gx_r 191], t0, n, 0)) rfl (fun _ => rfl) rfl ?_
  refine ex_go (S := (6, [(0, gx_r 0), (1, .inl x), (2, .inl y), (3, .inl z)], [.inl y, .inl x, gx_r 191], t0, n, 0)) rfl (fun _ => rfl) rfl ?_
  obtain ⟨_, r121, b121, rfl, hb121, hi121⟩ := pc_isPlace191 (d + 2) n (x := x) (y := y) (o := w 0 0) (e := w 0 1) g0 hC.1.1 hC.1.2.1 (by first | decide | omega) (by first | decide | omega) hO hD
  refine gx_callo (a := 191) rfl rfl g0 rfl rfl rfl r121 rfl ?_
  show en_ex _ _ _ _ (9, [(0, gx_r 0), (1, .inl x), (2, .inl y), (3, .inl z)], [.inl b121], t0, n, 0) _
  by_cases hc22 : b121 = 0
  · refine gx_1t (c := .eq) rfl (by first | decide | omega) hc22 rfl ?_
    refine ex_go (S := (24, [(0, gx_r 0), (1, .inl x), (2, .inl y), (3, .inl z)], [.inl 4294967295], t0, n, 0)) rfl (fun _ => rfl) rfl ?_
    refine ex_ret (r := (some (.inl 4294967295), t0, n, 0)) rfl (fun _ => rfl) ?_
    exact ⟨_, rfl, _, rfl, (fun c9 => by omega), (fun _ => rfl)⟩
  · refine gx_1f (c := .eq) rfl (by first | decide | omega) hc22 rfl ?_
    refine ex_go (S := (13, [(0, gx_r 0), (1, .inl x), (2, .inl y), (3, .inl z)], [.inl z], t0, n, 0)) rfl (fun _ => rfl) rfl ?_
    refine ex_go (S := (14, [(0, gx_r 0), (1, .inl x), (2, .inl y), (3, .inl z)], [.inl 0, .inl z], t0, n, 0)) rfl (fun _ => rfl) rfl ?_
    refine ex_go (S := (17, [(0, gx_r 0), (1, .inl x), (2, .inl y), (3, .inl z)], [.inl 200, .inl 0, .inl z], t0, n, 0)) rfl (fun _ => rfl) rfl ?_
    obtain ⟨_, r23, b24, rfl, b24b, q25⟩ := pz_isWithin (d + 2) n (t0 := t0) (x := z) (lo := 0) (hi := 200) (by first | decide | omega) (by first | decide | omega) (by first | decide | omega)
    refine ex_stat rfl rfl rfl rfl rfl r23 (Nat.le_refl _) rfl ?_
    show en_ex _ _ _ _ (20, [(0, gx_r 0), (1, .inl x), (2, .inl y), (3, .inl z)], [.inl b24], t0, n, 0) _
    by_cases hc26 : b24 ≠ 0
    · refine gx_1t (c := .ne) rfl (by first | decide | omega) hc26 rfl ?_
      refine ex_go (S := (26, [(0, gx_r 0), (1, .inl x), (2, .inl y), (3, .inl z)], [gx_r 0], t0, n, 0)) rfl (fun _ => rfl) rfl ?_
      refine gxo_get (a := 0) rfl g0 rfl rfl k10 rfl ?_
      refine ex_go (S := (30, [(0, gx_r 0), (1, .inl x), (2, .inl y), (3, .inl z)], [gx_r 0, gx_r 191], t0, n, 0)) rfl (fun _ => rfl) rfl ?_
      refine gxo_ref (a := 0) (c := 8) rfl g0 rfl rfl rfl rfl rfl ?_
      refine gxo_get (a := 8) rfl g0 rfl rfl k8 rfl ?_
      refine ex_go (S := (37, [(0, gx_r 0), (1, .inl x), (2, .inl y), (3, .inl z)], [.inl z, .inl (σ 0), gx_r 191], t0, n, 0)) rfl (fun _ => rfl) rfl ?_
      refine ex_iadd rfl (by first | decide | omega) rfl ?_
      obtain ⟨_, r8, y9, rfl, hy9⟩ := sc_openLeads191 (d + 1) n (s := σ 0 + z) g0 hC hw (by first | decide | omega)
      refine gx_callo (a := 191) rfl rfl g0 rfl rfl rfl r8 rfl ?_
      show en_ex _ _ _ _ (41, [(0, gx_r 0), (1, .inl x), (2, .inl y), (3, .inl z)], [.inr (.inl y9)], t0, n, 0) _
      refine ex_go (S := (42, [(0, gx_r 0), (1, .inl x), (2, .inl y), (3, .inl z)], [.inl x, .inr (.inl y9)], t0, n, 0)) rfl (fun _ => rfl) rfl ?_
      refine ex_go (S := (43, [(0, gx_r 0), (1, .inl x), (2, .inl y), (3, .inl z)], [.inl y, .inl x, .inr (.inl y9)], t0, n, 0)) rfl (fun _ => rfl) rfl ?_
      obtain ⟨_, r27, rfl⟩ := pc_placeOf2 (d + 2) n (t0 := t0) (x := x) (y := y) (by first | decide | omega) (by first | decide | omega)
      rw [Nat.add_comm x (8 * y)] at r27
      refine ex_stat rfl rfl rfl rfl rfl r27 (Nat.le_refl _) rfl ?_
      show en_ex _ _ _ _ (46, [(0, gx_r 0), (1, .inl x), (2, .inl y), (3, .inl z)], [.inl (8 * y + x), .inr (.inl y9)], t0, n, 0) _
      obtain ⟨_, r9, rfl⟩ := pz_has (d + 1) n (t0 := t0) (x := y9) (k := 8 * y + x) hy9.1 (by first | decide | omega)
      rw [bts_at hy9 (by first | decide | omega)] at r9
      cases ho : opn w (σ 0 + z) (8 * y + x)
      · rw [ho] at r9
        refine ex_stat rfl rfl rfl rfl rfl r9 (Nat.le_refl _) rfl ?_
        show en_ex _ _ _ _ (49, [(0, gx_r 0), (1, .inl x), (2, .inl y), (3, .inl z)], [.inl 0], t0, n, 0) _
        refine ex_go (S := (56, [(0, gx_r 0), (1, .inl x), (2, .inl y), (3, .inl z)], [], t0, n, 0)) rfl (fun _ => rfl) rfl ?_
        refine ex_go (S := (57, [(0, gx_r 0), (1, .inl x), (2, .inl y), (3, .inl z)], [.inl 0], t0, n, 0)) rfl (fun _ => rfl) rfl ?_
        refine ex_ret (r := (some (.inl 0), t0, n, 0)) rfl (fun _ => rfl) ?_
        exact ⟨_, rfl, _, rfl, (fun _ => by first | rfl | (rw [ho]; rfl)), (fun c9 => absurd ⟨by omega, by omega, by omega⟩ c9)⟩
      · rw [ho] at r9
        refine ex_stat rfl rfl rfl rfl rfl r9 (Nat.le_refl _) rfl ?_
        show en_ex _ _ _ _ (49, [(0, gx_r 0), (1, .inl x), (2, .inl y), (3, .inl z)], [.inl 1], t0, n, 0) _
        refine ex_go (S := (52, [(0, gx_r 0), (1, .inl x), (2, .inl y), (3, .inl z)], [], t0, n, 0)) rfl (fun _ => rfl) rfl ?_
        refine ex_go (S := (53, [(0, gx_r 0), (1, .inl x), (2, .inl y), (3, .inl z)], [.inl 1], t0, n, 0)) rfl (fun _ => rfl) rfl ?_
        refine ex_go (S := (57, [(0, gx_r 0), (1, .inl x), (2, .inl y), (3, .inl z)], [.inl 1], t0, n, 0)) rfl (fun _ => rfl) rfl ?_
        refine ex_ret (r := (some (.inl 1), t0, n, 0)) rfl (fun _ => rfl) ?_
        exact ⟨_, rfl, _, rfl, (fun _ => by first | rfl | (rw [ho]; rfl)), (fun c9 => absurd ⟨by omega, by omega, by omega⟩ c9)⟩
    · refine gx_1f (c := .ne) rfl (by first | decide | omega) hc26 rfl ?_
      refine ex_go (S := (24, [(0, gx_r 0), (1, .inl x), (2, .inl y), (3, .inl z)], [.inl 4294967295], t0, n, 0)) rfl (fun _ => rfl) rfl ?_
      refine ex_ret (r := (some (.inl 4294967295), t0, n, 0)) rfl (fun _ => rfl) ?_
      exact ⟨_, rfl, _, rfl, (fun c9 => by omega), (fun _ => rfl)⟩
theorem sc_open257 (d n : Nat) {t0 : en_H} {w : Nat → Nat → Nat} {L : List Nat} {σ : Nat → Nat} {x y z : Nat} (g0 : ai_HG ah_G t0) (hC : CW t0 257 w L) (hw : WS w) (k10 : ai_hv t0 0 10 = some (gx_r 257)) (k8 : ai_hv t0 8 0 = some (.inl (σ 0))) (hB : σ 0 ≤ 900000) (hx : x < 4294967296) (hy : y < 4294967296) (hz : z < 4294967296) : ∃ r, en_u (d + 4) 38 [gx_r 0, .inl x, .inl y, .inl z] t0 n = some r ∧ ∃ v, r = (some (.inl v), t0, n, 0) ∧ ((x < w 0 0 ∧ y < w 0 1 ∧ z ≤ 200) → v = if opn w (σ 0 + z) (8 * y + x) = true then 1 else 0) ∧ (¬ (x < w 0 0 ∧ y < w 0 1 ∧ z ≤ 200) → v = 4294967295) := by
  have hO := hw.1.1
  have hD := hw.1.2.1
  refine en_u_ex (d := d + 3) rfl ?_
  show en_ex _ _ _ _ (0, [(0, gx_r 0), (1, .inl x), (2, .inl y), (3, .inl z)], [], t0, n, 0) _
  refine ex_go (S := (1, [(0, gx_r 0), (1, .inl x), (2, .inl y), (3, .inl z)], [gx_r 0], t0, n, 0)) rfl (fun _ => rfl) rfl ?_
  refine gxo_get (a := 0) rfl g0 rfl rfl k10 rfl ?_
  refine ex_go (S := (5, [(0, gx_r 0), (1, .inl x), (2, .inl y), (3, .inl z)], [.inl x, gx_r 257], t0, n, 0)) rfl (fun _ => rfl) rfl ?_
  refine ex_go (S := (6, [(0, gx_r 0), (1, .inl x), (2, .inl y), (3, .inl z)], [.inl y, .inl x, gx_r 257], t0, n, 0)) rfl (fun _ => rfl) rfl ?_
  obtain ⟨_, r121, b121, rfl, hb121, hi121⟩ := pc_isPlace257 (d + 2) n (x := x) (y := y) (o := w 0 0) (e := w 0 1) g0 hC.1.1 hC.1.2.1 (by first | decide | omega) (by first | decide | omega) hO hD
  refine gx_callo (a := 257) rfl rfl g0 rfl rfl rfl r121 rfl ?_
  show en_ex _ _ _ _ (9, [(0, gx_r 0), (1, .inl x), (2, .inl y), (3, .inl z)], [.inl b121], t0, n, 0) _
  by_cases hc22 : b121 = 0
  · refine gx_1t (c := .eq) rfl (by first | decide | omega) hc22 rfl ?_
    refine ex_go (S := (24, [(0, gx_r 0), (1, .inl x), (2, .inl y), (3, .inl z)], [.inl 4294967295], t0, n, 0)) rfl (fun _ => rfl) rfl ?_
    refine ex_ret (r := (some (.inl 4294967295), t0, n, 0)) rfl (fun _ => rfl) ?_
    exact ⟨_, rfl, _, rfl, (fun c9 => by omega), (fun _ => rfl)⟩
  · refine gx_1f (c := .eq) rfl (by first | decide | omega) hc22 rfl ?_
    refine ex_go (S := (13, [(0, gx_r 0), (1, .inl x), (2, .inl y), (3, .inl z)], [.inl z], t0, n, 0)) rfl (fun _ => rfl) rfl ?_
    refine ex_go (S := (14, [(0, gx_r 0), (1, .inl x), (2, .inl y), (3, .inl z)], [.inl 0, .inl z], t0, n, 0)) rfl (fun _ => rfl) rfl ?_
    refine ex_go (S := (17, [(0, gx_r 0), (1, .inl x), (2, .inl y), (3, .inl z)], [.inl 200, .inl 0, .inl z], t0, n, 0)) rfl (fun _ => rfl) rfl ?_
    obtain ⟨_, r23, b24, rfl, b24b, q25⟩ := pz_isWithin (d + 2) n (t0 := t0) (x := z) (lo := 0) (hi := 200) (by first | decide | omega) (by first | decide | omega) (by first | decide | omega)
    refine ex_stat rfl rfl rfl rfl rfl r23 (Nat.le_refl _) rfl ?_
    show en_ex _ _ _ _ (20, [(0, gx_r 0), (1, .inl x), (2, .inl y), (3, .inl z)], [.inl b24], t0, n, 0) _
    by_cases hc26 : b24 ≠ 0
    · refine gx_1t (c := .ne) rfl (by first | decide | omega) hc26 rfl ?_
      refine ex_go (S := (26, [(0, gx_r 0), (1, .inl x), (2, .inl y), (3, .inl z)], [gx_r 0], t0, n, 0)) rfl (fun _ => rfl) rfl ?_
      refine gxo_get (a := 0) rfl g0 rfl rfl k10 rfl ?_
      refine ex_go (S := (30, [(0, gx_r 0), (1, .inl x), (2, .inl y), (3, .inl z)], [gx_r 0, gx_r 257], t0, n, 0)) rfl (fun _ => rfl) rfl ?_
      refine gxo_ref (a := 0) (c := 8) rfl g0 rfl rfl rfl rfl rfl ?_
      refine gxo_get (a := 8) rfl g0 rfl rfl k8 rfl ?_
      refine ex_go (S := (37, [(0, gx_r 0), (1, .inl x), (2, .inl y), (3, .inl z)], [.inl z, .inl (σ 0), gx_r 257], t0, n, 0)) rfl (fun _ => rfl) rfl ?_
      refine ex_iadd rfl (by first | decide | omega) rfl ?_
      obtain ⟨_, r8, y9, rfl, hy9⟩ := sc_openLeads257 (d + 1) n (s := σ 0 + z) g0 hC hw (by first | decide | omega)
      refine gx_callo (a := 257) rfl rfl g0 rfl rfl rfl r8 rfl ?_
      show en_ex _ _ _ _ (41, [(0, gx_r 0), (1, .inl x), (2, .inl y), (3, .inl z)], [.inr (.inl y9)], t0, n, 0) _
      refine ex_go (S := (42, [(0, gx_r 0), (1, .inl x), (2, .inl y), (3, .inl z)], [.inl x, .inr (.inl y9)], t0, n, 0)) rfl (fun _ => rfl) rfl ?_
      refine ex_go (S := (43, [(0, gx_r 0), (1, .inl x), (2, .inl y), (3, .inl z)], [.inl y, .inl x, .inr (.inl y9)], t0, n, 0)) rfl (fun _ => rfl) rfl ?_
      obtain ⟨_, r27, rfl⟩ := pc_placeOf2 (d + 2) n (t0 := t0) (x := x) (y := y) (by first | decide | omega) (by first | decide | omega)
      rw [Nat.add_comm x (8 * y)] at r27
      refine ex_stat rfl rfl rfl rfl rfl r27 (Nat.le_refl _) rfl ?_
      show en_ex _ _ _ _ (46, [(0, gx_r 0), (1, .inl x), (2, .inl y), (3, .inl z)], [.inl (8 * y + x), .inr (.inl y9)], t0, n, 0) _
      obtain ⟨_, r9, rfl⟩ := pz_has (d + 1) n (t0 := t0) (x := y9) (k := 8 * y + x) hy9.1 (by first | decide | omega)
      rw [bts_at hy9 (by first | decide | omega)] at r9
      cases ho : opn w (σ 0 + z) (8 * y + x)
      · rw [ho] at r9
        refine ex_stat rfl rfl rfl rfl rfl r9 (Nat.le_refl _) rfl ?_
        show en_ex _ _ _ _ (49, [(0, gx_r 0), (1, .inl x), (2, .inl y), (3, .inl z)], [.inl 0], t0, n, 0) _
        refine ex_go (S := (56, [(0, gx_r 0), (1, .inl x), (2, .inl y), (3, .inl z)], [], t0, n, 0)) rfl (fun _ => rfl) rfl ?_
        refine ex_go (S := (57, [(0, gx_r 0), (1, .inl x), (2, .inl y), (3, .inl z)], [.inl 0], t0, n, 0)) rfl (fun _ => rfl) rfl ?_
        refine ex_ret (r := (some (.inl 0), t0, n, 0)) rfl (fun _ => rfl) ?_
        exact ⟨_, rfl, _, rfl, (fun _ => by first | rfl | (rw [ho]; rfl)), (fun c9 => absurd ⟨by omega, by omega, by omega⟩ c9)⟩
      · rw [ho] at r9
        refine ex_stat rfl rfl rfl rfl rfl r9 (Nat.le_refl _) rfl ?_
        show en_ex _ _ _ _ (49, [(0, gx_r 0), (1, .inl x), (2, .inl y), (3, .inl z)], [.inl 1], t0, n, 0) _
        refine ex_go (S := (52, [(0, gx_r 0), (1, .inl x), (2, .inl y), (3, .inl z)], [], t0, n, 0)) rfl (fun _ => rfl) rfl ?_
        refine ex_go (S := (53, [(0, gx_r 0), (1, .inl x), (2, .inl y), (3, .inl z)], [.inl 1], t0, n, 0)) rfl (fun _ => rfl) rfl ?_
        refine ex_go (S := (57, [(0, gx_r 0), (1, .inl x), (2, .inl y), (3, .inl z)], [.inl 1], t0, n, 0)) rfl (fun _ => rfl) rfl ?_
        refine ex_ret (r := (some (.inl 1), t0, n, 0)) rfl (fun _ => rfl) ?_
        exact ⟨_, rfl, _, rfl, (fun _ => by first | rfl | (rw [ho]; rfl)), (fun c9 => absurd ⟨by omega, by omega, by omega⟩ c9)⟩
    · refine gx_1f (c := .ne) rfl (by first | decide | omega) hc26 rfl ?_
      refine ex_go (S := (24, [(0, gx_r 0), (1, .inl x), (2, .inl y), (3, .inl z)], [.inl 4294967295], t0, n, 0)) rfl (fun _ => rfl) rfl ?_
      refine ex_ret (r := (some (.inl 4294967295), t0, n, 0)) rfl (fun _ => rfl) ?_
      exact ⟨_, rfl, _, rfl, (fun c9 => by omega), (fun _ => rfl)⟩
theorem sr_open (d n : Nat) {t0 : en_H} {w : Nat → Nat → Nat} {L : List Nat} {σ : Nat → Nat} {x y z : Nat} (g0 : ai_HG ah_G t0) (hR : RW t0 w L) (k0 : ai_hv t0 399 0 = some (.inl (σ 0))) (hB : σ 0 ≤ 900000) (hx : x < 4294967296) (hy : y < 4294967296) (hz : z < 4294967296) : ∃ r, en_u (d + 3) 39 [gx_r 383, .inl x, .inl y, .inl z] t0 n = some r ∧ ∃ v t', r = (some (.inl v), t', n, 0) ∧ ((x < w 0 0 ∧ y < w 0 1 ∧ z ≤ 200) → v = if opn w (σ 0 + z) (8 * y + x) = true then 1 else 0) ∧ (¬ (x < w 0 0 ∧ y < w 0 1 ∧ z ≤ 200) → v = 4294967295) := by
  have hO := hR.2.1.1
  have hD := hR.2.1.2.1
  refine en_u_ex (d := d + 2) rfl ?_
  show en_ex _ _ _ _ (0, [(0, gx_r 383), (1, .inl x), (2, .inl y), (3, .inl z)], [], t0, n, 0) _
  refine ex_go (S := (1, [(0, gx_r 383), (1, .inl x), (2, .inl y), (3, .inl z)], [gx_r 383], t0, n, 0)) rfl (fun _ => rfl) rfl ?_
  refine ex_go (S := (2, [(0, gx_r 383), (1, .inl x), (2, .inl y), (3, .inl z)], [.inl 0, gx_r 383], t0, n, 0)) rfl (fun _ => rfl) rfl ?_
  refine gx_put rfl g0 rfl rfl (ai_in_h (by first | decide | omega) (by first | decide | omega) (by first | decide | omega)) rfl (fun t121 g121 k121 e121 => ?_)
  have k22 : ai_hv t121 399 0 = some (.inl (σ 0)) := (e121 399 0 (by first | decide | omega)).trans k0
  refine ex_go (S := (6, [(0, gx_r 383), (1, .inl x), (2, .inl y), (3, .inl z)], [gx_r 383], t121, n, 0)) rfl (fun _ => rfl) rfl ?_
  refine ex_go (S := (7, [(0, gx_r 383), (1, .inl x), (2, .inl y), (3, .inl z)], [.inl x, gx_r 383], t121, n, 0)) rfl (fun _ => rfl) rfl ?_
  refine ex_go (S := (8, [(0, gx_r 383), (1, .inl x), (2, .inl y), (3, .inl z)], [.inl y, .inl x, gx_r 383], t121, n, 0)) rfl (fun _ => rfl) rfl ?_
  obtain ⟨_, r123, b123, rfl, hb123, hi123⟩ := pe_isPlace (d + 1) n (x := x) (y := y) (o := w 0 0) (e := w 0 1) g121 ((e121 389 0 (by first | decide | omega)).trans ((hR.1 0 (by first | decide | omega)))) ((e121 389 1 (by first | decide | omega)).trans ((hR.1 1 (by first | decide | omega)))) (by first | decide | omega) (by first | decide | omega) hR.2.1.1 hR.2.1.2.1
  refine gx_call1 rfl rfl g121 rfl rfl r123 rfl ?_
  show en_ex _ _ _ _ (11, [(0, gx_r 383), (1, .inl x), (2, .inl y), (3, .inl z)], [.inl b123], t121, n, 0) _
  by_cases hc24 : b123 = 0
  · refine gx_1t (c := .eq) rfl (by first | decide | omega) hc24 rfl ?_
    refine ex_go (S := (26, [(0, gx_r 383), (1, .inl x), (2, .inl y), (3, .inl z)], [.inl 4294967295], t121, n, 0)) rfl (fun _ => rfl) rfl ?_
    refine ex_go (S := (55, [(0, gx_r 383), (1, .inl x), (2, .inl y), (3, .inl z)], [.inl 4294967295], t121, n, 0)) rfl (fun _ => rfl) rfl ?_
    refine ex_ret (r := (some (.inl 4294967295), t121, n, 0)) rfl (fun _ => rfl) ?_
    exact ⟨_, rfl, _, _, rfl, (fun c9 => by omega), (fun _ => rfl)⟩
  · refine gx_1f (c := .eq) rfl (by first | decide | omega) hc24 rfl ?_
    refine ex_go (S := (15, [(0, gx_r 383), (1, .inl x), (2, .inl y), (3, .inl z)], [.inl z], t121, n, 0)) rfl (fun _ => rfl) rfl ?_
    refine ex_go (S := (16, [(0, gx_r 383), (1, .inl x), (2, .inl y), (3, .inl z)], [.inl 0, .inl z], t121, n, 0)) rfl (fun _ => rfl) rfl ?_
    refine ex_go (S := (19, [(0, gx_r 383), (1, .inl x), (2, .inl y), (3, .inl z)], [.inl 200, .inl 0, .inl z], t121, n, 0)) rfl (fun _ => rfl) rfl ?_
    obtain ⟨_, r25, b26, rfl, b26b, q27⟩ := pz_within (d + 1) n (t0 := t121) (x := z) (lo := 0) (hi := 200) (by first | decide | omega) (by first | decide | omega) (by first | decide | omega)
    refine ex_stat rfl rfl rfl rfl rfl r25 (Nat.le_refl _) rfl ?_
    show en_ex _ _ _ _ (22, [(0, gx_r 383), (1, .inl x), (2, .inl y), (3, .inl z)], [.inl b26], t121, n, 0) _
    by_cases hc28 : b26 ≠ 0
    · refine gx_1t (c := .ne) rfl (by first | decide | omega) hc28 rfl ?_
      refine ex_go (S := (30, [(0, gx_r 383), (1, .inl x), (2, .inl y), (3, .inl z)], [gx_r 383], t121, n, 0)) rfl (fun _ => rfl) rfl ?_
      refine ex_go (S := (32, [(0, gx_r 383), (1, .inl x), (2, .inl y), (3, .inl z)], [.inl 8, gx_r 383], t121, n, 0)) rfl (fun _ => rfl) rfl ?_
      refine ex_go (S := (33, [(0, gx_r 383), (1, .inl x), (2, .inl y), (3, .inl z)], [.inl y, .inl 8, gx_r 383], t121, n, 0)) rfl (fun _ => rfl) rfl ?_
      refine gx_imul rfl (by first | decide | omega) rfl ?_
      refine ex_go (S := (35, [(0, gx_r 383), (1, .inl x), (2, .inl y), (3, .inl z)], [.inl x, .inl (8 * y), gx_r 383], t121, n, 0)) rfl (fun _ => rfl) rfl ?_
      refine ex_iadd rfl (by first | decide | omega) rfl ?_
      refine ex_go (S := (37, [(0, gx_r 383), (1, .inl x), (2, .inl y), (3, .inl z)], [gx_r 383, .inl ((8 * y) + x), gx_r 383], t121, n, 0)) rfl (fun _ => rfl) rfl ?_
      refine gx_ref (c := 399) rfl g121 rfl rfl rfl rfl ?_
      refine ex_go (S := (41, [(0, gx_r 383), (1, .inl x), (2, .inl y), (3, .inl z)], [.inl 0, gx_r 399, .inl ((8 * y) + x), gx_r 383], t121, n, 0)) rfl (fun _ => rfl) rfl ?_
      refine gx_ag (v := .inl (σ 0)) (cb := fun c => Nat.beq c 0) rfl (fun _ => rfl) g121 rfl rfl k22 (by first | decide | omega) rfl ?_
      refine ex_go (S := (43, [(0, gx_r 383), (1, .inl x), (2, .inl y), (3, .inl z)], [.inl z, .inl (σ 0), .inl ((8 * y) + x), gx_r 383], t121, n, 0)) rfl (fun _ => rfl) rfl ?_
      refine ex_iadd rfl (by first | decide | omega) rfl ?_
      obtain ⟨_, r9, rfl⟩ := sr_isOpen (d + 1) n (q := 8 * y + x) (s := σ 0 + z) g121 (RW_keep hR (fun i hi => e121 389 i (by first | decide | omega)) (fun c i hc _ => e121 c i (by first | decide | omega))) (by first | decide | omega) (by first | decide | omega)
      cases ho : opn w (σ 0 + z) (8 * y + x)
      · rw [ho] at r9
        refine gx_call1 rfl rfl g121 rfl rfl r9 rfl ?_
        show en_ex _ _ _ _ (47, [(0, gx_r 383), (1, .inl x), (2, .inl y), (3, .inl z)], [.inl 0], t121, n, 0) _
        refine ex_go (S := (54, [(0, gx_r 383), (1, .inl x), (2, .inl y), (3, .inl z)], [], t121, n, 0)) rfl (fun _ => rfl) rfl ?_
        refine ex_go (S := (55, [(0, gx_r 383), (1, .inl x), (2, .inl y), (3, .inl z)], [.inl 0], t121, n, 0)) rfl (fun _ => rfl) rfl ?_
        refine ex_ret (r := (some (.inl 0), t121, n, 0)) rfl (fun _ => rfl) ?_
        exact ⟨_, rfl, _, _, rfl, (fun _ => by first | rfl | (rw [ho]; rfl)), (fun c9 => absurd ⟨by omega, by omega, by omega⟩ c9)⟩
      · rw [ho] at r9
        refine gx_call1 rfl rfl g121 rfl rfl r9 rfl ?_
        show en_ex _ _ _ _ (47, [(0, gx_r 383), (1, .inl x), (2, .inl y), (3, .inl z)], [.inl 1], t121, n, 0) _
        refine ex_go (S := (50, [(0, gx_r 383), (1, .inl x), (2, .inl y), (3, .inl z)], [], t121, n, 0)) rfl (fun _ => rfl) rfl ?_
        refine ex_go (S := (51, [(0, gx_r 383), (1, .inl x), (2, .inl y), (3, .inl z)], [.inl 1], t121, n, 0)) rfl (fun _ => rfl) rfl ?_
        refine ex_go (S := (55, [(0, gx_r 383), (1, .inl x), (2, .inl y), (3, .inl z)], [.inl 1], t121, n, 0)) rfl (fun _ => rfl) rfl ?_
        refine ex_ret (r := (some (.inl 1), t121, n, 0)) rfl (fun _ => rfl) ?_
        exact ⟨_, rfl, _, _, rfl, (fun _ => by first | rfl | (rw [ho]; rfl)), (fun c9 => absurd ⟨by omega, by omega, by omega⟩ c9)⟩
    · refine gx_1f (c := .ne) rfl (by first | decide | omega) hc28 rfl ?_
      refine ex_go (S := (26, [(0, gx_r 383), (1, .inl x), (2, .inl y), (3, .inl z)], [.inl 4294967295], t121, n, 0)) rfl (fun _ => rfl) rfl ?_
      refine ex_go (S := (55, [(0, gx_r 383), (1, .inl x), (2, .inl y), (3, .inl z)], [.inl 4294967295], t121, n, 0)) rfl (fun _ => rfl) rfl ?_
      refine ex_ret (r := (some (.inl 4294967295), t121, n, 0)) rfl (fun _ => rfl) ?_
      exact ⟨_, rfl, _, _, rfl, (fun c9 => by omega), (fun _ => rfl)⟩
theorem zs_open191 {n B x y z : Nat} {t : en_H} (g0 : ai_HG ah_G t) (hP : SPk 191 t) (hZ : ZS B t) (hB : B ≤ 900000) (hx : x < 4294967296) (hy : y < 4294967296) (hz : z < 4294967296) : zs_A 38 39 [gx_r 0, .inl x, .inl y, .inl z] [gx_r 383, .inl x, .inl y, .inl z] t n := by
  obtain ⟨k10, w, L, hR, hC, hX⟩ := hP
  obtain ⟨T, K, σ, u, τ, F, μ, q, v, -, hS, hS', hB5, -⟩ := hZ
  have hσ := hB5.2.1
  obtain ⟨_, r1, z1, rfl, a1, a2⟩ := sc_open191 56 n g0 hC (WS_of hR) k10 hS'.1.1 (by first | decide | omega) hx hy hz
  obtain ⟨_, r2, z2, t2, rfl, b1, b2⟩ := sr_open 57 n g0 hR (show ai_hv t 399 0 = _ from hS.1 0 (by decide)) (by first | decide | omega) hx hy hz
  have e : z2 = z1 := by
    by_cases c : x < w 0 0 ∧ y < w 0 1 ∧ z ≤ 200
    · rw [a1 c, b1 c]
    · rw [a2 c, b2 c]
  subst e
  exact ⟨_, _, _, r1, r2⟩
theorem zs_open257 {n B x y z : Nat} {t : en_H} (g0 : ai_HG ah_G t) (hP : SPk 257 t) (hZ : ZS B t) (hB : B ≤ 900000) (hx : x < 4294967296) (hy : y < 4294967296) (hz : z < 4294967296) : zs_A 38 39 [gx_r 0, .inl x, .inl y, .inl z] [gx_r 383, .inl x, .inl y, .inl z] t n := by
  obtain ⟨k10, w, L, hR, hC, hX⟩ := hP
  obtain ⟨T, K, σ, u, τ, F, μ, q, v, -, hS, hS', hB5, -⟩ := hZ
  have hσ := hB5.2.1
  obtain ⟨_, r1, z1, rfl, a1, a2⟩ := sc_open257 56 n g0 hC (WS_of hR) k10 hS'.1.1 (by first | decide | omega) hx hy hz
  obtain ⟨_, r2, z2, t2, rfl, b1, b2⟩ := sr_open 57 n g0 hR (show ai_hv t 399 0 = _ from hS.1 0 (by decide)) (by first | decide | omega) hx hy hz
  have e : z2 = z1 := by
    by_cases c : x < w 0 0 ∧ y < w 0 1 ∧ z ≤ 200
    · rw [a1 c, b1 c]
    · rw [a2 c, b2 c]
  subst e
  exact ⟨_, _, _, r1, r2⟩
end SSS
