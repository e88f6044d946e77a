section SSL
theorem sgH_o {σ : Nat → Nat} {c to j : Nat} (h1 : j ≠ 11 + c) (h2 : j ≠ 13 + c) (h3 : j ≠ 15 + c) : sgH σ c to j = σ j := by unfold sgH; rw [if_neg h1, if_neg h2, if_neg h3]
theorem sgH_11 {σ : Nat → Nat} {c to : Nat} : sgH σ c to (11 + c) = 1 := if_pos rfl
theorem sgH_13 {σ : Nat → Nat} {c to : Nat} : sgH σ c to (13 + c) = to := by unfold sgH; rw [if_neg (by first | decide | omega), if_pos rfl]
theorem sgH_15 {σ : Nat → Nat} {c to : Nat} : sgH σ c to (15 + c) = 1 := by unfold sgH; rw [if_neg (by first | decide | omega), if_neg (by first | decide | omega), if_pos rfl]
theorem sgL_o {σ : Nat → Nat} {c v j : Nat} (h1 : j ≠ 7 + c) (h2 : j ≠ 8 - c) (h3 : j ≠ 9 + c) (h4 : j ≠ 10 - c) : sgL σ c v j = σ j := by unfold sgL; rw [if_neg h1, if_neg h2, if_neg h3, if_neg h4]
theorem sgL_7 {σ : Nat → Nat} {c v : Nat} : sgL σ c v (7 + c) = σ (7 + c) - lnv σ c v := if_pos rfl
theorem sgL_8 {σ : Nat → Nat} {c v : Nat} (hc : c ≤ 1) : sgL σ c v (8 - c) = σ (8 - c) + lnv σ c v := by unfold sgL; rw [if_neg (by first | decide | omega), if_pos rfl]
theorem sgL_9 {σ : Nat → Nat} {c v : Nat} (hc : c ≤ 1) : sgL σ c v (9 + c) = en_wrap (σ (9 + c) + lnv σ c v) := by unfold sgL; rw [if_neg (by first | decide | omega), if_neg (by first | decide | omega), if_pos rfl]
theorem sgL_10 {σ : Nat → Nat} {c v : Nat} (hc : c ≤ 1) : sgL σ c v (10 - c) = isb (σ (10 - c)) (lnv σ c v) := by unfold sgL; rw [if_neg (by first | decide | omega), if_neg (by first | decide | omega), if_neg (by first | decide | omega), if_pos rfl]
theorem sgM_o {σ : Nat → Nat} {c j : Nat} (h1 : j ≠ 11 + c) : sgM' σ c j = σ j := by unfold sgM'; rw [if_neg h1]
theorem sgM_11 {σ : Nat → Nat} {c : Nat} : sgM' σ c (11 + c) = 0 := if_pos rfl
theorem sc_sled8_191_0 (d n : Nat) {t0 : en_H} {w : Nat → Nat → Nat} {L : List Nat} {σ : Nat → Nat} (g0 : ai_HG ah_G t0) (hC : CW t0 191 w L) (hw : WS w) (hb : sbd σ) (hS : SC t0 8 (w 0 2) (w 0 4) σ) (hc : 0 < w 0 4) : ∃ r, en_u (d + 1) 172 [gx_r 8, gx_r 191, .inl 0] t0 n = some r ∧ r = (some (.inl (slp w σ 0)), t0, n, 0) := by
  have hS9 := hS
  have hb9 := hb
  obtain ⟨hb1, ⟨hb7, hb8⟩, ⟨hb11, hb12⟩, ⟨hb13, hb14⟩, ⟨hb15, hb16⟩, hb0, hbo9, hb10⟩ := hb9
  have hT := hw.1.2.2.1
  have hK := hw.1.2.2.2.2.1
  obtain ⟨x7_0, x9_0, x11_0, x15_0, x13_0⟩ := hS9.2.2 0 (by first | decide | omega)
  have x13_0 : σ 11 = 1 → ai_hv t0 14 0 = some (.inl (σ 13)) := x13_0
  have w3_0 := (hC.2.2.1 0 (by first | decide | omega)).1
  have hs0 := (hw.2.1 0 (by first | decide | omega)).1
  have hp0 := hb1 (w 3 0) (by first | decide | omega)
  have hsl : slp w σ 0 = if σ 11 = 1 then σ 13 else σ (1 + w 3 0) := rfl
  refine en_u_ex rfl ?_
  show en_ex _ _ _ _ (0, [(0, gx_r 8), (1, gx_r 191), (2, .inl 0)], [], t0, n, 0) _
  refine ex_go (S := (1, [(0, gx_r 8), (1, gx_r 191), (2, .inl 0)], [gx_r 8], t0, n, 0)) rfl (fun _ => rfl) rfl ?_
  refine gxo_ref (a := 8) (c := 12) rfl g0 rfl rfl rfl rfl rfl ?_
  refine ex_go (S := (5, [(0, gx_r 8), (1, gx_r 191), (2, .inl 0)], [.inl 0, gx_r 12], t0, n, 0)) rfl (fun _ => rfl) rfl ?_
  have k21 : ai_hv t0 12 0 = some (.inl (σ 11)) := x11_0
  refine gx_ag (v := .inl (σ 11)) (cb := fun c => Nat.beq c 2 || Nat.beq c 1) rfl (fun _ => rfl) g0 rfl rfl k21 (by first | decide | omega) rfl ?_
  by_cases hc22 : σ 11 = 0
  · refine gx_1t (c := .eq) rfl (by first | decide | omega) hc22 rfl ?_
    refine ex_go (S := (19, [(0, gx_r 8), (1, gx_r 191), (2, .inl 0)], [gx_r 8], t0, n, 0)) rfl (fun _ => rfl) rfl ?_
    refine gxo_ref (a := 8) (c := 9) rfl g0 rfl rfl rfl rfl rfl ?_
    refine ex_go (S := (23, [(0, gx_r 8), (1, gx_r 191), (2, .inl 0)], [gx_r 191, gx_r 9], t0, n, 0)) rfl (fun _ => rfl) rfl ?_
    refine gxo_ref (a := 191) (c := 206) rfl g0 rfl rfl rfl rfl rfl ?_
    refine gxo_ref (a := 206) (c := 208) rfl g0 rfl rfl rfl rfl rfl ?_
    refine ex_go (S := (30, [(0, gx_r 8), (1, gx_r 191), (2, .inl 0)], [.inl 0, gx_r 208, gx_r 9], t0, n, 0)) rfl (fun _ => rfl) rfl ?_
    have k23 : ai_hv t0 208 0 = some (.inl (w 3 0)) := w3_0
    refine gx_ag (v := .inl (w 3 0)) (cb := fun c => Nat.beq c 0) rfl (fun _ => rfl) g0 rfl rfl k23 (by first | decide | omega) rfl ?_
    have k24 : ai_hv t0 9 (w 3 0) = some (.inl (σ (1 + w 3 0))) := hS.2.1 _ (by first | decide | omega)
    refine gx_ag (v := .inl (σ (1 + w 3 0))) (cb := fun c => Nat.beq c 0) rfl (fun _ => rfl) g0 rfl rfl k24 (by first | decide | omega) rfl ?_
    refine ex_ret (r := (some (.inl (σ (1 + w 3 0))), t0, n, 0)) rfl (fun _ => rfl) ?_
    have e9 : slp w σ 0 = σ (1 + w 3 0) := by rw [hsl, if_neg (by first | decide | omega)]
    exact ⟨_, rfl, by rw [e9]⟩
  · refine gx_1f (c := .eq) rfl (by first | decide | omega) hc22 rfl ?_
    refine ex_go (S := (10, [(0, gx_r 8), (1, gx_r 191), (2, .inl 0)], [gx_r 8], t0, n, 0)) rfl (fun _ => rfl) rfl ?_
    refine gxo_ref (a := 8) (c := 14) rfl g0 rfl rfl rfl rfl rfl ?_
    refine ex_go (S := (14, [(0, gx_r 8), (1, gx_r 191), (2, .inl 0)], [.inl 0, gx_r 14], t0, n, 0)) rfl (fun _ => rfl) rfl ?_
    have k25 : ai_hv t0 14 0 = some (.inl (σ 13)) := x13_0 (by first | decide | omega)
    refine gx_ag (v := .inl (σ 13)) (cb := fun c => Nat.beq c 0) rfl (fun _ => rfl) g0 rfl rfl k25 (by first | decide | omega) rfl ?_
    refine ex_go (S := (32, [(0, gx_r 8), (1, gx_r 191), (2, .inl 0)], [.inl (σ 13)], t0, n, 0)) rfl (fun _ => rfl) rfl ?_
    refine ex_ret (r := (some (.inl (σ 13)), t0, n, 0)) rfl (fun _ => rfl) ?_
    have e9 : slp w σ 0 = σ 13 := by rw [hsl, if_pos (by first | decide | omega)]
    exact ⟨_, rfl, by rw [e9]⟩
theorem sc_hs8_191_0 (d n : Nat) {t0 : en_H} {w : Nat → Nat → Nat} {L : List Nat} {σ : Nat → Nat} {to : Nat} (g0 : ai_HG ah_G t0) (hC : CW t0 191 w L) (hw : WS w) (hb : sbd σ) (hS : SC t0 8 (w 0 2) (w 0 4) σ) (hX : CX t0 191 w) (hB : σ 0 ≤ 900000) (hc : 0 < w 0 4) (ht : to < 64) : ∃ r, en_u (d + 4) 200 [gx_r 8, gx_r 191, .inl 0, .inl to] t0 n = some r ∧ ∃ v t', r = (some (.inl v), t', n, 0) ∧ ai_HG ah_G t' ∧ (∀ c i, ¬ (c = 12 ∨ c = 13 ∨ c = 14) → ai_hv t' c i = ai_hv t0 c i) ∧ v ≤ 1 ∧ (v = 1 → mayH w σ 0 to ∧ SC t' 8 (w 0 2) (w 0 4) (sgH σ 0 to)) ∧ (v = 0 → ¬ mayH w σ 0 to ∧ t' = t0) := by
  have hsp := slp_lt hw hb hc
  have hS9 := hS
  have hb9 := hb
  obtain ⟨hb1, ⟨hb7, hb8⟩, ⟨hb11, hb12⟩, ⟨hb13, hb14⟩, ⟨hb15, hb16⟩, hb0, hbo9, hb10⟩ := hb9
  have hT := hw.1.2.2.1
  have hK := hw.1.2.2.2.2.1
  obtain ⟨x7_0, x9_0, x11_0, x15_0, x13_0⟩ := hS9.2.2 0 (by first | decide | omega)
  have x13_0 : σ 11 = 1 → ai_hv t0 14 0 = some (.inl (σ 13)) := x13_0
  have w3_0 := (hC.2.2.1 0 (by first | decide | omega)).1
  have hs0 := (hw.2.1 0 (by first | decide | omega)).1
  have hp0 := hb1 (w 3 0) (by first | decide | omega)
  refine en_u_ex (d := d + 3) rfl ?_
  show en_ex _ _ _ _ (0, [(0, gx_r 8), (1, gx_r 191), (2, .inl 0), (3, .inl to)], [], t0, n, 0) _
  refine ex_go (S := (1, [(0, gx_r 8), (1, gx_r 191), (2, .inl 0), (3, .inl to)], [gx_r 8], t0, n, 0)) rfl (fun _ => rfl) rfl ?_
  refine ex_go (S := (2, [(0, gx_r 8), (1, gx_r 191), (2, .inl 0), (3, .inl to)], [gx_r 191, gx_r 8], t0, n, 0)) rfl (fun _ => rfl) rfl ?_
  refine ex_go (S := (3, [(0, gx_r 8), (1, gx_r 191), (2, .inl 0), (3, .inl to)], [.inl 0, gx_r 191, gx_r 8], t0, n, 0)) rfl (fun _ => rfl) rfl ?_
  obtain ⟨_, r21, rfl⟩ := sc_sled8_191_0 (d + 2) n g0 hC hw hb hS hc
  refine gx_callo (a := 8) rfl rfl g0 rfl rfl rfl r21 rfl ?_
  show en_ex _ _ _ _ (6, [(0, gx_r 8), (1, gx_r 191), (2, .inl 0), (3, .inl to)], [.inl (slp w σ 0)], t0, n, 0) _
  refine ex_go (S := (8, [(4, .inl (slp w σ 0)), (0, gx_r 8), (1, gx_r 191), (2, .inl 0), (3, .inl to)], [], t0, n, 0)) rfl (fun _ => rfl) rfl ?_
  refine ex_go (S := (9, [(4, .inl (slp w σ 0)), (0, gx_r 8), (1, gx_r 191), (2, .inl 0), (3, .inl to)], [gx_r 8], t0, n, 0)) rfl (fun _ => rfl) rfl ?_
  refine gxo_ref (a := 8) (c := 13) rfl g0 rfl rfl rfl rfl rfl ?_
  refine ex_go (S := (13, [(4, .inl (slp w σ 0)), (0, gx_r 8), (1, gx_r 191), (2, .inl 0), (3, .inl to)], [.inl 0, gx_r 13], t0, n, 0)) rfl (fun _ => rfl) rfl ?_
  have k22 : ai_hv t0 13 0 = some (.inl (σ 15)) := x15_0
  refine gx_ag (v := .inl (σ 15)) (cb := fun c => Nat.beq c 2 || Nat.beq c 1) rfl (fun _ => rfl) g0 rfl rfl k22 (by first | decide | omega) rfl ?_
  by_cases hc23 : σ 15 ≠ 0
  · refine gx_1t (c := .ne) rfl (by first | decide | omega) hc23 rfl ?_
    refine ex_go (S := (44, [(4, .inl (slp w σ 0)), (0, gx_r 8), (1, gx_r 191), (2, .inl 0), (3, .inl to)], [.inl 0], t0, n, 0)) rfl (fun _ => rfl) rfl ?_
    refine ex_ret (r := (some (.inl 0), t0, n, 0)) rfl (fun _ => rfl) ?_
    exact ⟨_, rfl, 0, t0, rfl, g0, (fun _ _ _ => rfl), by decide, (fun z => absurd z (by decide)), fun _ => ⟨fun z => by
      obtain ⟨z1, z2, -⟩ := z
      have z1 : ¬ σ 15 = 1 := z1
      omega, rfl⟩⟩
  · refine gx_1f (c := .ne) rfl (by first | decide | omega) hc23 rfl ?_
    refine ex_go (S := (18, [(4, .inl (slp w σ 0)), (0, gx_r 8), (1, gx_r 191), (2, .inl 0), (3, .inl to)], [.inl to], t0, n, 0)) rfl (fun _ => rfl) rfl ?_
    refine ex_go (S := (20, [(4, .inl (slp w σ 0)), (0, gx_r 8), (1, gx_r 191), (2, .inl 0), (3, .inl to)], [.inl (slp w σ 0), .inl to], t0, n, 0)) rfl (fun _ => rfl) rfl ?_
    by_cases hc24 : to = slp w σ 0
    · refine gx_2t (c := .eq) rfl (by first | decide | omega) (by first | decide | omega) hc24 rfl ?_
      refine ex_go (S := (44, [(4, .inl (slp w σ 0)), (0, gx_r 8), (1, gx_r 191), (2, .inl 0), (3, .inl to)], [.inl 0], t0, n, 0)) rfl (fun _ => rfl) rfl ?_
      refine ex_ret (r := (some (.inl 0), t0, n, 0)) rfl (fun _ => rfl) ?_
      exact ⟨_, rfl, 0, t0, rfl, g0, (fun _ _ _ => rfl), by decide, (fun z => absurd z (by decide)), fun _ => ⟨fun z => by
        obtain ⟨z1, z2, -⟩ := z
        have z1 : ¬ σ 15 = 1 := z1
        omega, rfl⟩⟩
    · refine gx_2f (c := .eq) rfl (by first | decide | omega) (by first | decide | omega) hc24 rfl ?_
      refine ex_go (S := (24, [(4, .inl (slp w σ 0)), (0, gx_r 8), (1, gx_r 191), (2, .inl 0), (3, .inl to)], [gx_r 191], t0, n, 0)) rfl (fun _ => rfl) rfl ?_
      refine ex_go (S := (26, [(4, .inl (slp w σ 0)), (0, gx_r 8), (1, gx_r 191), (2, .inl 0), (3, .inl to)], [.inl (slp w σ 0), gx_r 191], t0, n, 0)) rfl (fun _ => rfl) rfl ?_
      obtain ⟨_, r25, rfl⟩ := pz_bit (d + 2) n (t0 := t0) (x := slp w σ 0) (by first | decide | omega)
      refine ex_stat rfl rfl rfl rfl rfl r25 (Nat.le_refl _) rfl ?_
      show en_ex _ _ _ _ (29, [(4, .inl (slp w σ 0)), (0, gx_r 8), (1, gx_r 191), (2, .inl 0), (3, .inl to)], [.inr (.inl (2 ^ (slp w σ 0))), gx_r 191], t0, n, 0) _
      refine ex_go (S := (30, [(4, .inl (slp w σ 0)), (0, gx_r 8), (1, gx_r 191), (2, .inl 0), (3, .inl to)], [gx_r 8, .inr (.inl (2 ^ (slp w σ 0))), gx_r 191], t0, n, 0)) rfl (fun _ => rfl) rfl ?_
      refine gxo_get (a := 8) rfl g0 rfl rfl hS.1 rfl ?_
      obtain ⟨_, r1, y, rfl, hy⟩ := sc_hauled191 d n (H := fun q => decide (q = slp w σ 0)) (s := σ 0) (x := 2 ^ slp w σ 0) g0 hC hX hw (by first | decide | omega) (bts_mk (sz_two hsp) (fun j hj => by rw [Nat.testBit_two_pow, decide_eq_decide]; exact eq_comm))
      refine gx_callo (a := 191) rfl rfl g0 rfl rfl rfl r1 rfl ?_
      show en_ex _ _ _ _ (36, [(4, .inl (slp w σ 0)), (0, gx_r 8), (1, gx_r 191), (2, .inl 0), (3, .inl to)], [.inr (.inl y)], t0, n, 0) _
      refine ex_go (S := (37, [(4, .inl (slp w σ 0)), (0, gx_r 8), (1, gx_r 191), (2, .inl 0), (3, .inl to)], [.inl to, .inr (.inl y)], t0, n, 0)) rfl (fun _ => rfl) rfl ?_
      obtain ⟨_, r26, rfl⟩ := pz_has (d + 1) n (t0 := t0) (x := y) (k := to) hy.1 ht
      have hbt := bts_at hy ht
      have hbv := bv_le (b := y.testBit to)
      refine ex_stat rfl rfl rfl rfl rfl r26 (Nat.le_refl _) rfl ?_
      show en_ex _ _ _ _ (40, [(4, .inl (slp w σ 0)), (0, gx_r 8), (1, gx_r 191), (2, .inl 0), (3, .inl to)], [.inl (bv (y.testBit to))], t0, n, 0) _
      by_cases hc27 : bv (y.testBit to) ≠ 0
      · refine gx_1t (c := .ne) rfl (by first | decide | omega) hc27 rfl ?_
        refine ex_go (S := (46, [(4, .inl (slp w σ 0)), (0, gx_r 8), (1, gx_r 191), (2, .inl 0), (3, .inl to)], [gx_r 8], t0, n, 0)) rfl (fun _ => rfl) rfl ?_
        refine gxo_ref (a := 8) (c := 12) rfl g0 rfl rfl rfl rfl rfl ?_
        refine ex_go (S := (50, [(4, .inl (slp w σ 0)), (0, gx_r 8), (1, gx_r 191), (2, .inl 0), (3, .inl to)], [.inl 0, gx_r 12], t0, n, 0)) rfl (fun _ => rfl) rfl ?_
        refine ex_go (S := (51, [(4, .inl (slp w σ 0)), (0, gx_r 8), (1, gx_r 191), (2, .inl 0), (3, .inl to)], [.inl 1, .inl 0, gx_r 12], t0, n, 0)) rfl (fun _ => rfl) rfl ?_
        refine gx_apv (d := 2) rfl (fun _ => rfl) g0 rfl rfl rfl (show 0 < 2 from by omega) rfl (ai_in_h (by first | decide | omega) (by first | decide | omega) (by first | decide | omega)) rfl (fun t128 g128 k128 e128 => ?_)
        have k29 : ai_hv t128 8 0 = some (.inl (σ 0)) := (e128 8 0 (by first | decide | omega)).trans hS.1
        have k30 : ai_hv t128 13 0 = some (.inl (σ 15)) := (e128 13 0 (by first | decide | omega)).trans k22
        refine ex_go (S := (53, [(4, .inl (slp w σ 0)), (0, gx_r 8), (1, gx_r 191), (2, .inl 0), (3, .inl to)], [gx_r 8], t128, n, 0)) rfl (fun _ => rfl) rfl ?_
        refine gxo_ref (a := 8) (c := 13) rfl g128 rfl rfl rfl rfl rfl ?_
        refine ex_go (S := (57, [(4, .inl (slp w σ 0)), (0, gx_r 8), (1, gx_r 191), (2, .inl 0), (3, .inl to)], [.inl 0, gx_r 13], t128, n, 0)) rfl (fun _ => rfl) rfl ?_
        refine ex_go (S := (58, [(4, .inl (slp w σ 0)), (0, gx_r 8), (1, gx_r 191), (2, .inl 0), (3, .inl to)], [.inl 1, .inl 0, gx_r 13], t128, n, 0)) rfl (fun _ => rfl) rfl ?_
        refine gx_apv (d := 2) rfl (fun _ => rfl) g128 rfl rfl rfl (show 0 < 2 from by omega) rfl (ai_in_h (by first | decide | omega) (by first | decide | omega) (by first | decide | omega)) rfl (fun t131 g131 k131 e131 => ?_)
        have k32 : ai_hv t131 8 0 = some (.inl (σ 0)) := (e131 8 0 (by first | decide | omega)).trans k29
        have k33 : ai_hv t131 12 0 = some (.inl 1) := (e131 12 0 (by first | decide | omega)).trans k128
        refine ex_go (S := (60, [(4, .inl (slp w σ 0)), (0, gx_r 8), (1, gx_r 191), (2, .inl 0), (3, .inl to)], [gx_r 8], t131, n, 0)) rfl (fun _ => rfl) rfl ?_
        refine gxo_ref (a := 8) (c := 14) rfl g131 rfl rfl rfl rfl rfl ?_
        refine ex_go (S := (64, [(4, .inl (slp w σ 0)), (0, gx_r 8), (1, gx_r 191), (2, .inl 0), (3, .inl to)], [.inl 0, gx_r 14], t131, n, 0)) rfl (fun _ => rfl) rfl ?_
        refine ex_go (S := (65, [(4, .inl (slp w σ 0)), (0, gx_r 8), (1, gx_r 191), (2, .inl 0), (3, .inl to)], [.inl to, .inl 0, gx_r 14], t131, n, 0)) rfl (fun _ => rfl) rfl ?_
        refine gx_ap rfl (fun _ => rfl) g131 rfl rfl rfl (show 0 < 2 from by omega) rfl (ai_in_h (by first | decide | omega) (by first | decide | omega) (by first | decide | omega)) rfl (fun t134 g134 k134 e134 => ?_)
        have k35 : ai_hv t134 8 0 = some (.inl (σ 0)) := (e134 8 0 (by first | decide | omega)).trans k32
        have k36 : ai_hv t134 12 0 = some (.inl 1) := (e134 12 0 (by first | decide | omega)).trans k33
        have k37 : ai_hv t134 13 0 = some (.inl 1) := (e134 13 0 (by first | decide | omega)).trans k131
        refine ex_go (S := (67, [(4, .inl (slp w σ 0)), (0, gx_r 8), (1, gx_r 191), (2, .inl 0), (3, .inl to)], [.inl 1], t134, n, 0)) rfl (fun _ => rfl) rfl ?_
        refine ex_ret (r := (some (.inl 1), t134, n, 0)) rfl (fun _ => rfl) ?_
        refine ⟨_, rfl, 1, t134, rfl, g134, (fun c i h => (e134 c i (by first | decide | omega)).trans ((e131 c i (by first | decide | omega)).trans (e128 c i (by first | decide | omega)))), by decide, (fun _ => ⟨⟨?_, ?_, ?_⟩, ?_⟩), fun z => absurd z (by decide)⟩
        · show ¬ σ 15 = 1
          omega
        · omega
        · rw [← hbt]; exact bv_1 (by first | decide | omega)
        · refine ⟨?_, fun i hi => ?_, fun c9 hc9 => ?_⟩
          · rw [sgH_o (by first | decide | omega) (by first | decide | omega) (by first | decide | omega)]; exact ((e134 8 0 (by first | decide | omega)).trans ((e131 8 0 (by first | decide | omega)).trans (e128 8 0 (by first | decide | omega)))).trans (hS.1)
          · rw [sgH_o (by first | decide | omega) (by first | decide | omega) (by first | decide | omega)]; exact ((e134 9 i (by first | decide | omega)).trans ((e131 9 i (by first | decide | omega)).trans (e128 9 i (by first | decide | omega)))).trans (hS.2.1 i hi)
          · rcases (show c9 = 0 ∨ c9 = 1 by omega) with rfl | rfl
            · obtain ⟨y7, y9, y11, y15, y13⟩ := hS.2.2 0 hc9
              refine ⟨?_, ?_, ?_, ?_, ?_⟩
              · rw [sgH_o (by first | decide | omega) (by first | decide | omega) (by first | decide | omega)]; exact ((e134 10 0 (by first | decide | omega)).trans ((e131 10 0 (by first | decide | omega)).trans (e128 10 0 (by first | decide | omega)))).trans (y7)
              · rw [sgH_o (by first | decide | omega) (by first | decide | omega) (by first | decide | omega)]; exact ((e134 11 0 (by first | decide | omega)).trans ((e131 11 0 (by first | decide | omega)).trans (e128 11 0 (by first | decide | omega)))).trans (y9)
              · rw [sgH_11]; exact k36
              · rw [sgH_15]; exact k37
              · intro _; rw [sgH_13]; exact k134
            · obtain ⟨y7, y9, y11, y15, y13⟩ := hS.2.2 1 hc9
              refine ⟨?_, ?_, ?_, ?_, ?_⟩
              · rw [sgH_o (by first | decide | omega) (by first | decide | omega) (by first | decide | omega)]; exact ((e134 10 1 (by first | decide | omega)).trans ((e131 10 1 (by first | decide | omega)).trans (e128 10 1 (by first | decide | omega)))).trans (y7)
              · rw [sgH_o (by first | decide | omega) (by first | decide | omega) (by first | decide | omega)]; exact ((e134 11 1 (by first | decide | omega)).trans ((e131 11 1 (by first | decide | omega)).trans (e128 11 1 (by first | decide | omega)))).trans (y9)
              · rw [sgH_o (by first | decide | omega) (by first | decide | omega) (by first | decide | omega)]; exact ((e134 12 1 (by first | decide | omega)).trans ((e131 12 1 (by first | decide | omega)).trans (e128 12 1 (by first | decide | omega)))).trans (y11)
              · rw [sgH_o (by first | decide | omega) (by first | decide | omega) (by first | decide | omega)]; exact ((e134 13 1 (by first | decide | omega)).trans ((e131 13 1 (by first | decide | omega)).trans (e128 13 1 (by first | decide | omega)))).trans (y15)
              · intro z
                rw [sgH_o (by first | decide | omega) (by first | decide | omega) (by first | decide | omega)] at z
                rw [sgH_o (by first | decide | omega) (by first | decide | omega) (by first | decide | omega)]; exact ((e134 14 1 (by first | decide | omega)).trans ((e131 14 1 (by first | decide | omega)).trans (e128 14 1 (by first | decide | omega)))).trans (y13 z)
      · refine gx_1f (c := .ne) rfl (by first | decide | omega) hc27 rfl ?_
        refine ex_go (S := (44, [(4, .inl (slp w σ 0)), (0, gx_r 8), (1, gx_r 191), (2, .inl 0), (3, .inl to)], [.inl 0], t0, n, 0)) rfl (fun _ => rfl) rfl ?_
        refine ex_ret (r := (some (.inl 0), t0, n, 0)) rfl (fun _ => rfl) ?_
        exact ⟨_, rfl, 0, t0, rfl, g0, (fun _ _ _ => rfl), by decide, (fun z => absurd z (by decide)), fun _ => ⟨(fun z => by
          have h9 := bv_0 (b := y.testBit to) (by first | decide | omega)
          rw [hbt] at h9
          rw [z.2.2] at h9
          cases h9), rfl⟩⟩
theorem sc_lb8_191_0 (d n : Nat) {t0 : en_H} {w : Nat → Nat → Nat} {L : List Nat} {σ : Nat → Nat} {v : Nat} (g0 : ai_HG ah_G t0) (hC : CW t0 191 w L) (hw : WS w) (hb : sbd σ) (hS : SC t0 8 (w 0 2) (w 0 4) σ) (hsum : σ 7 + σ 8 ≤ 19998) (hc : 0 < w 0 4) (hv : v ≤ 999) : ∃ r, en_u (d + 2) 201 [gx_r 8, gx_r 191, .inl 0, .inl v] t0 n = some r ∧ ∃ y t', r = (some (.inl y), t', n, 0) ∧ ai_HG ah_G t' ∧ (∀ c i, ¬ (c = 10 ∨ c = 11) → ai_hv t' c i = ai_hv t0 c i) ∧ (mayL w σ 0 → y = lnv σ 0 v ∧ SC t' 8 (w 0 2) (w 0 4) (sgL σ 0 v)) ∧ (¬ mayL w σ 0 → y = 4294967295 ∧ t' = t0) := by
  have hml : mayL w σ 0 ↔ (w 0 4 = 2 ∧ σ 11 = 1 ∧ 0 < σ 7 ∧ σ 13 = σ (1 + w 3 1)) := Iff.rfl
  have hlv : lnv σ 0 v = min v (σ 7) := rfl
  by_cases h2 : w 0 4 = 2
  · have hS9 := hS
    have hb9 := hb
    obtain ⟨hb1, ⟨hb7, hb8⟩, ⟨hb11, hb12⟩, ⟨hb13, hb14⟩, ⟨hb15, hb16⟩, hb0, hbo9, hb10⟩ := hb9
    have hT := hw.1.2.2.1
    have hK := hw.1.2.2.2.2.1
    obtain ⟨x7_0, x9_0, x11_0, x15_0, x13_0⟩ := hS9.2.2 0 (by first | decide | omega)
    have x13_0 : σ 11 = 1 → ai_hv t0 14 0 = some (.inl (σ 13)) := x13_0
    have w3_0 := (hC.2.2.1 0 (by first | decide | omega)).1
    have hs0 := (hw.2.1 0 (by first | decide | omega)).1
    have hp0 := hb1 (w 3 0) (by first | decide | omega)
    obtain ⟨x7_1, x9_1, x11_1, x15_1, x13_1⟩ := hS9.2.2 1 (by first | decide | omega)
    have x13_1 : σ 12 = 1 → ai_hv t0 14 1 = some (.inl (σ 14)) := x13_1
    have w3_1 := (hC.2.2.1 1 (by first | decide | omega)).1
    have hs1 := (hw.2.1 1 (by first | decide | omega)).1
    have hp1 := hb1 (w 3 1) (by first | decide | omega)
    refine en_u_ex (d := d + 1) rfl ?_
    show en_ex _ _ _ _ (0, [(0, gx_r 8), (1, gx_r 191), (2, .inl 0), (3, .inl v)], [], t0, n, 0) _
    refine ex_go (S := (1, [(0, gx_r 8), (1, gx_r 191), (2, .inl 0), (3, .inl v)], [.inl 1], t0, n, 0)) rfl (fun _ => rfl) rfl ?_
    refine ex_go (S := (2, [(0, gx_r 8), (1, gx_r 191), (2, .inl 0), (3, .inl v)], [.inl 0, .inl 1], t0, n, 0)) rfl (fun _ => rfl) rfl ?_
    refine ex_go (S := (3, [(0, gx_r 8), (1, gx_r 191), (2, .inl 0), (3, .inl v)], [.inl 1], t0, n, 0)) rfl (fun _ => rfl) rfl ?_
    refine ex_go (S := (5, [(4, .inl 1), (0, gx_r 8), (1, gx_r 191), (2, .inl 0), (3, .inl v)], [], t0, n, 0)) rfl (fun _ => rfl) rfl ?_
    refine ex_go (S := (6, [(4, .inl 1), (0, gx_r 8), (1, gx_r 191), (2, .inl 0), (3, .inl v)], [gx_r 191], t0, n, 0)) rfl (fun _ => rfl) rfl ?_
    refine gxo_ref (a := 191) (c := 206) rfl g0 rfl rfl rfl rfl rfl ?_
    refine ex_go (S := (11, [(4, .inl 1), (0, gx_r 8), (1, gx_r 191), (2, .inl 0), (3, .inl v)], [.inl 1, gx_r 206], t0, n, 0)) rfl (fun _ => rfl) rfl ?_
    obtain ⟨_, r121, b121, rfl, hb121, hi121⟩ := pz_holds206 d n (x := 1) (K := w 0 4) g0 (by decide) hC.1.2.2.2.2.2 (by first | decide | omega)
    refine gx_callo (a := 206) rfl rfl g0 rfl rfl rfl r121 rfl ?_
    show en_ex _ _ _ _ (14, [(4, .inl 1), (0, gx_r 8), (1, gx_r 191), (2, .inl 0), (3, .inl v)], [.inl b121], t0, n, 0) _
    refine gx_1f (c := .eq) rfl (by first | decide | omega) (show ¬ (b121 = 0) from by omega) rfl ?_
    refine ex_go (S := (18, [(4, .inl 1), (0, gx_r 8), (1, gx_r 191), (2, .inl 0), (3, .inl v)], [gx_r 8], t0, n, 0)) rfl (fun _ => rfl) rfl ?_
    refine gxo_ref (a := 8) (c := 12) rfl g0 rfl rfl rfl rfl rfl ?_
    refine ex_go (S := (22, [(4, .inl 1), (0, gx_r 8), (1, gx_r 191), (2, .inl 0), (3, .inl v)], [.inl 0, gx_r 12], t0, n, 0)) rfl (fun _ => rfl) rfl ?_
    have k22 : ai_hv t0 12 0 = some (.inl (σ 11)) := x11_0
    refine gx_ag (v := .inl (σ 11)) (cb := fun c => Nat.beq c 2 || Nat.beq c 1) rfl (fun _ => rfl) g0 rfl rfl k22 (by first | decide | omega) rfl ?_
    by_cases hc23 : σ 11 = 0
    · refine gx_1t (c := .eq) rfl (by first | decide | omega) hc23 rfl ?_
      refine ex_go (S := (60, [(4, .inl 1), (0, gx_r 8), (1, gx_r 191), (2, .inl 0), (3, .inl v)], [.inl 4294967295], t0, n, 0)) rfl (fun _ => rfl) rfl ?_
      refine ex_ret (r := (some (.inl 4294967295), t0, n, 0)) rfl (fun _ => rfl) ?_
      exact ⟨_, rfl, _, t0, rfl, g0, (fun _ _ _ => rfl), (fun z => by rw [hml] at z; omega), fun _ => ⟨rfl, rfl⟩⟩
    · refine gx_1f (c := .eq) rfl (by first | decide | omega) hc23 rfl ?_
      refine ex_go (S := (27, [(4, .inl 1), (0, gx_r 8), (1, gx_r 191), (2, .inl 0), (3, .inl v)], [gx_r 8], t0, n, 0)) rfl (fun _ => rfl) rfl ?_
      refine gxo_ref (a := 8) (c := 10) rfl g0 rfl rfl rfl rfl rfl ?_
      refine ex_go (S := (31, [(4, .inl 1), (0, gx_r 8), (1, gx_r 191), (2, .inl 0), (3, .inl v)], [.inl 0, gx_r 10], t0, n, 0)) rfl (fun _ => rfl) rfl ?_
      have k24 : ai_hv t0 10 0 = some (.inl (σ 7)) := x7_0
      refine gx_ag (v := .inl (σ 7)) (cb := fun c => Nat.beq c 0) rfl (fun _ => rfl) g0 rfl rfl k24 (by first | decide | omega) rfl ?_
      by_cases hc25 : σ 7 = 0
      · refine gx_1t (c := .eq) rfl (by first | decide | omega) hc25 rfl ?_
        refine ex_go (S := (60, [(4, .inl 1), (0, gx_r 8), (1, gx_r 191), (2, .inl 0), (3, .inl v)], [.inl 4294967295], t0, n, 0)) rfl (fun _ => rfl) rfl ?_
        refine ex_ret (r := (some (.inl 4294967295), t0, n, 0)) rfl (fun _ => rfl) ?_
        exact ⟨_, rfl, _, t0, rfl, g0, (fun _ _ _ => rfl), (fun z => by rw [hml] at z; omega), fun _ => ⟨rfl, rfl⟩⟩
      · refine gx_1f (c := .eq) rfl (by first | decide | omega) hc25 rfl ?_
        refine ex_go (S := (36, [(4, .inl 1), (0, gx_r 8), (1, gx_r 191), (2, .inl 0), (3, .inl v)], [gx_r 8], t0, n, 0)) rfl (fun _ => rfl) rfl ?_
        refine gxo_ref (a := 8) (c := 14) rfl g0 rfl rfl rfl rfl rfl ?_
        refine ex_go (S := (40, [(4, .inl 1), (0, gx_r 8), (1, gx_r 191), (2, .inl 0), (3, .inl v)], [.inl 0, gx_r 14], t0, n, 0)) rfl (fun _ => rfl) rfl ?_
        have k26 : ai_hv t0 14 0 = some (.inl (σ 13)) := x13_0 (by first | decide | omega)
        refine gx_ag (v := .inl (σ 13)) (cb := fun c => Nat.beq c 0) rfl (fun _ => rfl) g0 rfl rfl k26 (by first | decide | omega) rfl ?_
        refine ex_go (S := (42, [(4, .inl 1), (0, gx_r 8), (1, gx_r 191), (2, .inl 0), (3, .inl v)], [gx_r 8, .inl (σ 13)], t0, n, 0)) rfl (fun _ => rfl) rfl ?_
        refine gxo_ref (a := 8) (c := 9) rfl g0 rfl rfl rfl rfl rfl ?_
        refine ex_go (S := (46, [(4, .inl 1), (0, gx_r 8), (1, gx_r 191), (2, .inl 0), (3, .inl v)], [gx_r 191, gx_r 9, .inl (σ 13)], t0, n, 0)) rfl (fun _ => rfl) rfl ?_
        refine gxo_ref (a := 191) (c := 206) rfl g0 rfl rfl rfl rfl rfl ?_
        refine gxo_ref (a := 206) (c := 208) rfl g0 rfl rfl rfl rfl rfl ?_
        refine ex_go (S := (54, [(4, .inl 1), (0, gx_r 8), (1, gx_r 191), (2, .inl 0), (3, .inl v)], [.inl 1, gx_r 208, gx_r 9, .inl (σ 13)], t0, n, 0)) rfl (fun _ => rfl) rfl ?_
        have k27 : ai_hv t0 208 1 = some (.inl (w 3 1)) := w3_1
        refine gx_ag (v := .inl (w 3 1)) (cb := fun c => Nat.beq c 0) rfl (fun _ => rfl) g0 rfl rfl k27 (by first | decide | omega) rfl ?_
        have k28 : ai_hv t0 9 (w 3 1) = some (.inl (σ (1 + w 3 1))) := hS.2.1 _ (by first | decide | omega)
        refine gx_ag (v := .inl (σ (1 + w 3 1))) (cb := fun c => Nat.beq c 0) rfl (fun _ => rfl) g0 rfl rfl k28 (by first | decide | omega) rfl ?_
        by_cases hc29 : σ 13 = σ (1 + w 3 1)
        · refine gx_2t (c := .eq) rfl (by first | decide | omega) (by first | decide | omega) hc29 rfl ?_
          refine ex_go (S := (62, [(4, .inl 1), (0, gx_r 8), (1, gx_r 191), (2, .inl 0), (3, .inl v)], [.inl v], t0, n, 0)) rfl (fun _ => rfl) rfl ?_
          refine ex_go (S := (63, [(4, .inl 1), (0, gx_r 8), (1, gx_r 191), (2, .inl 0), (3, .inl v)], [gx_r 8, .inl v], t0, n, 0)) rfl (fun _ => rfl) rfl ?_
          refine gxo_ref (a := 8) (c := 10) rfl g0 rfl rfl rfl rfl rfl ?_
          refine ex_go (S := (67, [(4, .inl 1), (0, gx_r 8), (1, gx_r 191), (2, .inl 0), (3, .inl v)], [.inl 0, gx_r 10, .inl v], t0, n, 0)) rfl (fun _ => rfl) rfl ?_
          refine gx_ag (v := .inl (σ 7)) (cb := fun c => Nat.beq c 0) rfl (fun _ => rfl) g0 rfl rfl k24 (by first | decide | omega) rfl ?_
          refine gx_inn rfl rfl rfl (zk_min (by first | decide | omega) (by first | decide | omega)) rfl rfl ?_
          refine ex_go (S := (73, [(5, .inl (min v (σ 7))), (4, .inl 1), (0, gx_r 8), (1, gx_r 191), (2, .inl 0), (3, .inl v)], [], t0, n, 0)) rfl (fun _ => rfl) rfl ?_
          refine ex_go (S := (74, [(5, .inl (min v (σ 7))), (4, .inl 1), (0, gx_r 8), (1, gx_r 191), (2, .inl 0), (3, .inl v)], [gx_r 8], t0, n, 0)) rfl (fun _ => rfl) rfl ?_
          refine gxo_ref (a := 8) (c := 10) rfl g0 rfl rfl rfl rfl rfl ?_
          refine ex_go (S := (78, [(5, .inl (min v (σ 7))), (4, .inl 1), (0, gx_r 8), (1, gx_r 191), (2, .inl 0), (3, .inl v)], [.inl 0, gx_r 10], t0, n, 0)) rfl (fun _ => rfl) rfl ?_
          refine ex_go (S := (79, [(5, .inl (min v (σ 7))), (4, .inl 1), (0, gx_r 8), (1, gx_r 191), (2, .inl 0), (3, .inl v)], [.inl 0, gx_r 10, .inl 0, gx_r 10], t0, n, 0)) rfl (fun _ => rfl) rfl ?_
          refine gx_ag (v := .inl (σ 7)) (cb := fun c => Nat.beq c 0) rfl (fun _ => rfl) g0 rfl rfl k24 (by first | decide | omega) rfl ?_
          refine ex_go (S := (82, [(5, .inl (min v (σ 7))), (4, .inl 1), (0, gx_r 8), (1, gx_r 191), (2, .inl 0), (3, .inl v)], [.inl (min v (σ 7)), .inl (σ 7), .inl 0, gx_r 10], t0, n, 0)) rfl (fun _ => rfl) rfl ?_
          refine gx_isub rfl (by first | decide | omega) (by first | decide | omega) rfl ?_
          refine gx_ap rfl (fun _ => rfl) g0 rfl rfl rfl (show 0 < 2 from by omega) rfl (gx_full (by first | decide | omega)) rfl (fun t130 g130 k130 e130 => ?_)
          have k31 : ai_hv t130 12 0 = some (.inl (σ 11)) := (e130 12 0 (by first | decide | omega)).trans k22
          have k32 : ai_hv t130 14 0 = some (.inl (σ 13)) := (e130 14 0 (by first | decide | omega)).trans k26
          have k33 : ai_hv t130 208 1 = some (.inl (w 3 1)) := (e130 208 1 (by first | decide | omega)).trans k27
          have k34 : ai_hv t130 9 (w 3 1) = some (.inl (σ (1 + w 3 1))) := (e130 9 (w 3 1) (by first | decide | omega)).trans k28
          refine ex_go (S := (85, [(5, .inl (min v (σ 7))), (4, .inl 1), (0, gx_r 8), (1, gx_r 191), (2, .inl 0), (3, .inl v)], [gx_r 8], t130, n, 0)) rfl (fun _ => rfl) rfl ?_
          refine gxo_ref (a := 8) (c := 10) rfl g130 rfl rfl rfl rfl rfl ?_
          refine ex_go (S := (90, [(5, .inl (min v (σ 7))), (4, .inl 1), (0, gx_r 8), (1, gx_r 191), (2, .inl 0), (3, .inl v)], [.inl 1, gx_r 10], t130, n, 0)) rfl (fun _ => rfl) rfl ?_
          refine ex_go (S := (91, [(5, .inl (min v (σ 7))), (4, .inl 1), (0, gx_r 8), (1, gx_r 191), (2, .inl 0), (3, .inl v)], [.inl 1, gx_r 10, .inl 1, gx_r 10], t130, n, 0)) rfl (fun _ => rfl) rfl ?_
          have k35 : ai_hv t130 10 1 = some (.inl (σ 8)) := (e130 10 1 (by first | decide | omega)).trans (x7_1)
          refine gx_ag (v := .inl (σ 8)) (cb := fun c => Nat.beq c 0) rfl (fun _ => rfl) g130 rfl rfl k35 (by first | decide | omega) rfl ?_
          refine ex_go (S := (94, [(5, .inl (min v (σ 7))), (4, .inl 1), (0, gx_r 8), (1, gx_r 191), (2, .inl 0), (3, .inl v)], [.inl (min v (σ 7)), .inl (σ 8), .inl 1, gx_r 10], t130, n, 0)) rfl (fun _ => rfl) rfl ?_
          refine ex_iadd rfl (by first | decide | omega) rfl ?_
          refine gx_ap rfl (fun _ => rfl) g130 rfl rfl rfl (show 1 < 2 from by omega) rfl (gx_full (by first | decide | omega)) rfl (fun t136 g136 k136 e136 => ?_)
          have k37 : ai_hv t136 12 0 = some (.inl (σ 11)) := (e136 12 0 (by first | decide | omega)).trans k31
          have k38 : ai_hv t136 14 0 = some (.inl (σ 13)) := (e136 14 0 (by first | decide | omega)).trans k32
          have k39 : ai_hv t136 208 1 = some (.inl (w 3 1)) := (e136 208 1 (by first | decide | omega)).trans k33
          have k40 : ai_hv t136 9 (w 3 1) = some (.inl (σ (1 + w 3 1))) := (e136 9 (w 3 1) (by first | decide | omega)).trans k34
          have k41 : ai_hv t136 10 0 = some (.inl ((σ 7) - (min v (σ 7)))) := (e136 10 0 (by first | decide | omega)).trans k130
          refine ex_go (S := (97, [(5, .inl (min v (σ 7))), (4, .inl 1), (0, gx_r 8), (1, gx_r 191), (2, .inl 0), (3, .inl v)], [gx_r 8], t136, n, 0)) rfl (fun _ => rfl) rfl ?_
          refine gxo_ref (a := 8) (c := 11) rfl g136 rfl rfl rfl rfl rfl ?_
          refine ex_go (S := (101, [(5, .inl (min v (σ 7))), (4, .inl 1), (0, gx_r 8), (1, gx_r 191), (2, .inl 0), (3, .inl v)], [.inl 0, gx_r 11], t136, n, 0)) rfl (fun _ => rfl) rfl ?_
          refine ex_go (S := (102, [(5, .inl (min v (σ 7))), (4, .inl 1), (0, gx_r 8), (1, gx_r 191), (2, .inl 0), (3, .inl v)], [.inl 0, gx_r 11, .inl 0, gx_r 11], t136, n, 0)) rfl (fun _ => rfl) rfl ?_
          have k42 : ai_hv t136 11 0 = some (.inl (σ 9)) := ((e136 11 0 (by first | decide | omega)).trans (e130 11 0 (by first | decide | omega))).trans (x9_0)
          refine gx_ag (v := .inl (σ 9)) (cb := fun c => Nat.beq c 0) rfl (fun _ => rfl) g136 rfl rfl k42 (by first | decide | omega) rfl ?_
          refine ex_go (S := (105, [(5, .inl (min v (σ 7))), (4, .inl 1), (0, gx_r 8), (1, gx_r 191), (2, .inl 0), (3, .inl v)], [.inl (min v (σ 7)), .inl (σ 9), .inl 0, gx_r 11], t136, n, 0)) rfl (fun _ => rfl) rfl ?_
          have hw43 : en_wrap ((σ 9) + (min v (σ 7))) < 4294967296 := wrap_lt
          refine gs_iaddx rfl rfl ?_
          refine gx_ap rfl (fun _ => rfl) g136 rfl rfl rfl (show 0 < 2 from by omega) rfl (gx_full (by first | decide | omega)) rfl (fun t144 g144 k144 e144 => ?_)
          have k45 : ai_hv t144 12 0 = some (.inl (σ 11)) := (e144 12 0 (by first | decide | omega)).trans k37
          have k46 : ai_hv t144 14 0 = some (.inl (σ 13)) := (e144 14 0 (by first | decide | omega)).trans k38
          have k47 : ai_hv t144 208 1 = some (.inl (w 3 1)) := (e144 208 1 (by first | decide | omega)).trans k39
          have k48 : ai_hv t144 9 (w 3 1) = some (.inl (σ (1 + w 3 1))) := (e144 9 (w 3 1) (by first | decide | omega)).trans k40
          have k49 : ai_hv t144 10 0 = some (.inl ((σ 7) - (min v (σ 7)))) := (e144 10 0 (by first | decide | omega)).trans k41
          have k50 : ai_hv t144 10 1 = some (.inl ((σ 8) + (min v (σ 7)))) := (e144 10 1 (by first | decide | omega)).trans k136
          refine ex_go (S := (108, [(5, .inl (min v (σ 7))), (4, .inl 1), (0, gx_r 8), (1, gx_r 191), (2, .inl 0), (3, .inl v)], [gx_r 8], t144, n, 0)) rfl (fun _ => rfl) rfl ?_
          refine gxo_ref (a := 8) (c := 11) rfl g144 rfl rfl rfl rfl rfl ?_
          refine ex_go (S := (113, [(5, .inl (min v (σ 7))), (4, .inl 1), (0, gx_r 8), (1, gx_r 191), (2, .inl 0), (3, .inl v)], [.inl 1, gx_r 11], t144, n, 0)) rfl (fun _ => rfl) rfl ?_
          refine ex_go (S := (114, [(5, .inl (min v (σ 7))), (4, .inl 1), (0, gx_r 8), (1, gx_r 191), (2, .inl 0), (3, .inl v)], [.inl 1, gx_r 11, .inl 1, gx_r 11], t144, n, 0)) rfl (fun _ => rfl) rfl ?_
          have k51 : ai_hv t144 11 1 = some (.inl (σ 10)) := ((e144 11 1 (by first | decide | omega)).trans ((e136 11 1 (by first | decide | omega)).trans (e130 11 1 (by first | decide | omega)))).trans (x9_1)
          refine gx_ag (v := .inl (σ 10)) (cb := fun c => Nat.beq c 0) rfl (fun _ => rfl) g144 rfl rfl k51 (by first | decide | omega) rfl ?_
          refine ex_go (S := (117, [(5, .inl (min v (σ 7))), (4, .inl 1), (0, gx_r 8), (1, gx_r 191), (2, .inl 0), (3, .inl v)], [.inl (min v (σ 7)), .inl (σ 10), .inl 1, gx_r 11], t144, n, 0)) rfl (fun _ => rfl) rfl ?_
          have hw52 : isb (σ 10) (min v (σ 7)) < 4294967296 := isb_lt
          refine gx_isbx rfl rfl ?_
          refine gx_ap rfl (fun _ => rfl) g144 rfl rfl rfl (show 1 < 2 from by omega) rfl (gx_full (by first | decide | omega)) rfl (fun t153 g153 k153 e153 => ?_)
          have k54 : ai_hv t153 12 0 = some (.inl (σ 11)) := (e153 12 0 (by first | decide | omega)).trans k45
          have k55 : ai_hv t153 14 0 = some (.inl (σ 13)) := (e153 14 0 (by first | decide | omega)).trans k46
          have k56 : ai_hv t153 208 1 = some (.inl (w 3 1)) := (e153 208 1 (by first | decide | omega)).trans k47
          have k57 : ai_hv t153 9 (w 3 1) = some (.inl (σ (1 + w 3 1))) := (e153 9 (w 3 1) (by first | decide | omega)).trans k48
          have k58 : ai_hv t153 10 0 = some (.inl ((σ 7) - (min v (σ 7)))) := (e153 10 0 (by first | decide | omega)).trans k49
          have k59 : ai_hv t153 10 1 = some (.inl ((σ 8) + (min v (σ 7)))) := (e153 10 1 (by first | decide | omega)).trans k50
          have k60 : ai_hv t153 11 0 = some (.inl (en_wrap ((σ 9) + (min v (σ 7))))) := (e153 11 0 (by first | decide | omega)).trans k144
          refine ex_go (S := (121, [(5, .inl (min v (σ 7))), (4, .inl 1), (0, gx_r 8), (1, gx_r 191), (2, .inl 0), (3, .inl v)], [.inl (min v (σ 7))], t153, n, 0)) rfl (fun _ => rfl) rfl ?_
          refine ex_ret (r := (some (.inl (min v (σ 7))), t153, n, 0)) rfl (fun _ => rfl) ?_
          have hl9 : lnv σ 0 v = min v (σ 7) := by omega
          refine ⟨_, rfl, _, t153, rfl, g153, (fun c i h => (e153 c i (by first | decide | omega)).trans ((e144 c i (by first | decide | omega)).trans ((e136 c i (by first | decide | omega)).trans (e130 c i (by first | decide | omega))))), (fun _ => ⟨hl9.symm, ?_⟩), fun z => absurd (by rw [hml]; omega) z⟩
          refine ⟨?_, fun i hi => ?_, fun c9 hc9 => ?_⟩
          · rw [sgL_o (by first | decide | omega) (by first | decide | omega) (by first | decide | omega) (by first | decide | omega)]; exact ((e153 8 0 (by first | decide | omega)).trans ((e144 8 0 (by first | decide | omega)).trans ((e136 8 0 (by first | decide | omega)).trans (e130 8 0 (by first | decide | omega))))).trans (hS.1)
          · rw [sgL_o (by first | decide | omega) (by first | decide | omega) (by first | decide | omega) (by first | decide | omega)]; exact ((e153 9 i (by first | decide | omega)).trans ((e144 9 i (by first | decide | omega)).trans ((e136 9 i (by first | decide | omega)).trans (e130 9 i (by first | decide | omega))))).trans (hS.2.1 i hi)
          · rcases (show c9 = 0 ∨ c9 = 1 by omega) with rfl | rfl
            · obtain ⟨y7, y9, y11, y15, y13⟩ := hS.2.2 0 hc9
              refine ⟨?_, ?_, ?_, ?_, ?_⟩
              · rw [sgL_7, hl9]; exact k58
              · rw [sgL_9 (by first | decide | omega), hl9]; exact k60
              · rw [sgL_o (by first | decide | omega) (by first | decide | omega) (by first | decide | omega) (by first | decide | omega)]; exact ((e153 12 0 (by first | decide | omega)).trans ((e144 12 0 (by first | decide | omega)).trans ((e136 12 0 (by first | decide | omega)).trans (e130 12 0 (by first | decide | omega))))).trans (y11)
              · rw [sgL_o (by first | decide | omega) (by first | decide | omega) (by first | decide | omega) (by first | decide | omega)]; exact ((e153 13 0 (by first | decide | omega)).trans ((e144 13 0 (by first | decide | omega)).trans ((e136 13 0 (by first | decide | omega)).trans (e130 13 0 (by first | decide | omega))))).trans (y15)
              · intro z
                rw [sgL_o (by first | decide | omega) (by first | decide | omega) (by first | decide | omega) (by first | decide | omega)] at z
                rw [sgL_o (by first | decide | omega) (by first | decide | omega) (by first | decide | omega) (by first | decide | omega)]; exact ((e153 14 0 (by first | decide | omega)).trans ((e144 14 0 (by first | decide | omega)).trans ((e136 14 0 (by first | decide | omega)).trans (e130 14 0 (by first | decide | omega))))).trans (y13 z)
            · obtain ⟨y7, y9, y11, y15, y13⟩ := hS.2.2 1 hc9
              refine ⟨?_, ?_, ?_, ?_, ?_⟩
              · rw [show 7 + 1 = 8 - 0 from rfl, sgL_8 (by first | decide | omega), hl9]; exact k59
              · rw [show 9 + 1 = 10 - 0 from rfl, sgL_10 (by first | decide | omega), hl9]; exact k153
              · rw [sgL_o (by first | decide | omega) (by first | decide | omega) (by first | decide | omega) (by first | decide | omega)]; exact ((e153 12 1 (by first | decide | omega)).trans ((e144 12 1 (by first | decide | omega)).trans ((e136 12 1 (by first | decide | omega)).trans (e130 12 1 (by first | decide | omega))))).trans (y11)
              · rw [sgL_o (by first | decide | omega) (by first | decide | omega) (by first | decide | omega) (by first | decide | omega)]; exact ((e153 13 1 (by first | decide | omega)).trans ((e144 13 1 (by first | decide | omega)).trans ((e136 13 1 (by first | decide | omega)).trans (e130 13 1 (by first | decide | omega))))).trans (y15)
              · intro z
                rw [sgL_o (by first | decide | omega) (by first | decide | omega) (by first | decide | omega) (by first | decide | omega)] at z
                rw [sgL_o (by first | decide | omega) (by first | decide | omega) (by first | decide | omega) (by first | decide | omega)]; exact ((e153 14 1 (by first | decide | omega)).trans ((e144 14 1 (by first | decide | omega)).trans ((e136 14 1 (by first | decide | omega)).trans (e130 14 1 (by first | decide | omega))))).trans (y13 z)
        · refine gx_2f (c := .eq) rfl (by first | decide | omega) (by first | decide | omega) hc29 rfl ?_
          refine ex_go (S := (60, [(4, .inl 1), (0, gx_r 8), (1, gx_r 191), (2, .inl 0), (3, .inl v)], [.inl 4294967295], t0, n, 0)) rfl (fun _ => rfl) rfl ?_
          refine ex_ret (r := (some (.inl 4294967295), t0, n, 0)) rfl (fun _ => rfl) ?_
          exact ⟨_, rfl, _, t0, rfl, g0, (fun _ _ _ => rfl), (fun z => by rw [hml] at z; omega), fun _ => ⟨rfl, rfl⟩⟩
  · have hS9 := hS
    have hb9 := hb
    obtain ⟨hb1, ⟨hb7, hb8⟩, ⟨hb11, hb12⟩, ⟨hb13, hb14⟩, ⟨hb15, hb16⟩, hb0, hbo9, hb10⟩ := hb9
    have hT := hw.1.2.2.1
    have hK := hw.1.2.2.2.2.1
    obtain ⟨x7_0, x9_0, x11_0, x15_0, x13_0⟩ := hS9.2.2 0 (by first | decide | omega)
    have x13_0 : σ 11 = 1 → ai_hv t0 14 0 = some (.inl (σ 13)) := x13_0
    have w3_0 := (hC.2.2.1 0 (by first | decide | omega)).1
    have hs0 := (hw.2.1 0 (by first | decide | omega)).1
    have hp0 := hb1 (w 3 0) (by first | decide | omega)
    refine en_u_ex (d := d + 1) rfl ?_
    show en_ex _ _ _ _ (0, [(0, gx_r 8), (1, gx_r 191), (2, .inl 0), (3, .inl v)], [], t0, n, 0) _
    refine ex_go (S := (1, [(0, gx_r 8), (1, gx_r 191), (2, .inl 0), (3, .inl v)], [.inl 1], t0, n, 0)) rfl (fun _ => rfl) rfl ?_
    refine ex_go (S := (2, [(0, gx_r 8), (1, gx_r 191), (2, .inl 0), (3, .inl v)], [.inl 0, .inl 1], t0, n, 0)) rfl (fun _ => rfl) rfl ?_
    refine ex_go (S := (3, [(0, gx_r 8), (1, gx_r 191), (2, .inl 0), (3, .inl v)], [.inl 1], t0, n, 0)) rfl (fun _ => rfl) rfl ?_
    refine ex_go (S := (5, [(4, .inl 1), (0, gx_r 8), (1, gx_r 191), (2, .inl 0), (3, .inl v)], [], t0, n, 0)) rfl (fun _ => rfl) rfl ?_
    refine ex_go (S := (6, [(4, .inl 1), (0, gx_r 8), (1, gx_r 191), (2, .inl 0), (3, .inl v)], [gx_r 191], t0, n, 0)) rfl (fun _ => rfl) rfl ?_
    refine gxo_ref (a := 191) (c := 206) rfl g0 rfl rfl rfl rfl rfl ?_
    refine ex_go (S := (11, [(4, .inl 1), (0, gx_r 8), (1, gx_r 191), (2, .inl 0), (3, .inl v)], [.inl 1, gx_r 206], t0, n, 0)) rfl (fun _ => rfl) rfl ?_
    obtain ⟨_, r121, b121, rfl, hb121, hi121⟩ := pz_holds206 d n (x := 1) (K := w 0 4) g0 (by decide) hC.1.2.2.2.2.2 (by first | decide | omega)
    refine gx_callo (a := 206) rfl rfl g0 rfl rfl rfl r121 rfl ?_
    show en_ex _ _ _ _ (14, [(4, .inl 1), (0, gx_r 8), (1, gx_r 191), (2, .inl 0), (3, .inl v)], [.inl b121], t0, n, 0) _
    refine gx_1t (c := .eq) rfl (by first | decide | omega) (show b121 = 0 from by omega) rfl ?_
    refine ex_go (S := (60, [(4, .inl 1), (0, gx_r 8), (1, gx_r 191), (2, .inl 0), (3, .inl v)], [.inl 4294967295], t0, n, 0)) rfl (fun _ => rfl) rfl ?_
    refine ex_ret (r := (some (.inl 4294967295), t0, n, 0)) rfl (fun _ => rfl) ?_
    exact ⟨_, rfl, _, t0, rfl, g0, (fun _ _ _ => rfl), (fun z => by rw [hml] at z; omega), fun _ => ⟨rfl, rfl⟩⟩
theorem sc_bi8_191_0 (d n : Nat) {t0 : en_H} {w : Nat → Nat → Nat} {L : List Nat} {σ : Nat → Nat} (g0 : ai_HG ah_G t0) (hC : CW t0 191 w L) (hw : WS w) (hb : sbd σ) (hS : SC t0 8 (w 0 2) (w 0 4) σ) (hc : 0 < w 0 4) : ∃ r, en_u (d + 1) 202 [gx_r 8, gx_r 191, .inl 0] t0 n = some r ∧ ∃ y t', r = (some (.inl y), t', n, 0) ∧ ai_HG ah_G t' ∧ (∀ c i, ¬ c = 12 → ai_hv t' c i = ai_hv t0 c i) ∧ y ≤ 1 ∧ (y = 1 → mayM w σ 0 ∧ SC t' 8 (w 0 2) (w 0 4) (sgM' σ 0)) ∧ (y = 0 → ¬ mayM w σ 0 ∧ t' = t0) := by
  have hml : mayM w σ 0 ↔ (σ 11 = 1 ∧ σ 13 = σ (1 + w 3 0)) := Iff.rfl
  have hS9 := hS
  have hb9 := hb
  obtain ⟨hb1, ⟨hb7, hb8⟩, ⟨hb11, hb12⟩, ⟨hb13, hb14⟩, ⟨hb15, hb16⟩, hb0, hbo9, hb10⟩ := hb9
  have hT := hw.1.2.2.1
  have hK := hw.1.2.2.2.2.1
  obtain ⟨x7_0, x9_0, x11_0, x15_0, x13_0⟩ := hS9.2.2 0 (by first | decide | omega)
  have x13_0 : σ 11 = 1 → ai_hv t0 14 0 = some (.inl (σ 13)) := x13_0
  have w3_0 := (hC.2.2.1 0 (by first | decide | omega)).1
  have hs0 := (hw.2.1 0 (by first | decide | omega)).1
  have hp0 := hb1 (w 3 0) (by first | decide | omega)
  refine en_u_ex rfl ?_
  show en_ex _ _ _ _ (0, [(0, gx_r 8), (1, gx_r 191), (2, .inl 0)], [], t0, n, 0) _
  refine ex_go (S := (1, [(0, gx_r 8), (1, gx_r 191), (2, .inl 0)], [gx_r 8], t0, n, 0)) rfl (fun _ => rfl) rfl ?_
  refine gxo_ref (a := 8) (c := 12) rfl g0 rfl rfl rfl rfl rfl ?_
  refine ex_go (S := (5, [(0, gx_r 8), (1, gx_r 191), (2, .inl 0)], [.inl 0, gx_r 12], t0, n, 0)) rfl (fun _ => rfl) rfl ?_
  have k21 : ai_hv t0 12 0 = some (.inl (σ 11)) := x11_0
  refine gx_ag (v := .inl (σ 11)) (cb := fun c => Nat.beq c 2 || Nat.beq c 1) rfl (fun _ => rfl) g0 rfl rfl k21 (by first | decide | omega) rfl ?_
  by_cases hc22 : σ 11 = 0
  · refine gx_1t (c := .eq) rfl (by first | decide | omega) hc22 rfl ?_
    refine ex_go (S := (33, [(0, gx_r 8), (1, gx_r 191), (2, .inl 0)], [.inl 0], t0, n, 0)) rfl (fun _ => rfl) rfl ?_
    refine ex_ret (r := (some (.inl 0), t0, n, 0)) rfl (fun _ => rfl) ?_
    exact ⟨_, rfl, 0, t0, rfl, g0, (fun _ _ _ => rfl), by decide, (fun z => absurd z (by decide)), fun _ => ⟨fun z => by rw [hml] at z; omega, rfl⟩⟩
  · refine gx_1f (c := .eq) rfl (by first | decide | omega) hc22 rfl ?_
    refine ex_go (S := (10, [(0, gx_r 8), (1, gx_r 191), (2, .inl 0)], [gx_r 8], t0, n, 0)) rfl (fun _ => rfl) rfl ?_
    refine gxo_ref (a := 8) (c := 14) rfl g0 rfl rfl rfl rfl rfl ?_
    refine ex_go (S := (14, [(0, gx_r 8), (1, gx_r 191), (2, .inl 0)], [.inl 0, gx_r 14], t0, n, 0)) rfl (fun _ => rfl) rfl ?_
    have k23 : ai_hv t0 14 0 = some (.inl (σ 13)) := x13_0 (by first | decide | omega)
    refine gx_ag (v := .inl (σ 13)) (cb := fun c => Nat.beq c 0) rfl (fun _ => rfl) g0 rfl rfl k23 (by first | decide | omega) rfl ?_
    refine ex_go (S := (16, [(0, gx_r 8), (1, gx_r 191), (2, .inl 0)], [gx_r 8, .inl (σ 13)], t0, n, 0)) rfl (fun _ => rfl) rfl ?_
    refine gxo_ref (a := 8) (c := 9) rfl g0 rfl rfl rfl rfl rfl ?_
    refine ex_go (S := (20, [(0, gx_r 8), (1, gx_r 191), (2, .inl 0)], [gx_r 191, gx_r 9, .inl (σ 13)], t0, n, 0)) rfl (fun _ => rfl) rfl ?_
    refine gxo_ref (a := 191) (c := 206) rfl g0 rfl rfl rfl rfl rfl ?_
    refine gxo_ref (a := 206) (c := 208) rfl g0 rfl rfl rfl rfl rfl ?_
    refine ex_go (S := (27, [(0, gx_r 8), (1, gx_r 191), (2, .inl 0)], [.inl 0, gx_r 208, gx_r 9, .inl (σ 13)], t0, n, 0)) rfl (fun _ => rfl) rfl ?_
    have k24 : ai_hv t0 208 0 = some (.inl (w 3 0)) := w3_0
    refine gx_ag (v := .inl (w 3 0)) (cb := fun c => Nat.beq c 0) rfl (fun _ => rfl) g0 rfl rfl k24 (by first | decide | omega) rfl ?_
    have k25 : ai_hv t0 9 (w 3 0) = some (.inl (σ (1 + w 3 0))) := hS.2.1 _ (by first | decide | omega)
    refine gx_ag (v := .inl (σ (1 + w 3 0))) (cb := fun c => Nat.beq c 0) rfl (fun _ => rfl) g0 rfl rfl k25 (by first | decide | omega) rfl ?_
    by_cases hc26 : σ 13 = σ (1 + w 3 0)
    · refine gx_2t (c := .eq) rfl (by first | decide | omega) (by first | decide | omega) hc26 rfl ?_
      refine ex_go (S := (35, [(0, gx_r 8), (1, gx_r 191), (2, .inl 0)], [gx_r 8], t0, n, 0)) rfl (fun _ => rfl) rfl ?_
      refine gxo_ref (a := 8) (c := 12) rfl g0 rfl rfl rfl rfl rfl ?_
      refine ex_go (S := (39, [(0, gx_r 8), (1, gx_r 191), (2, .inl 0)], [.inl 0, gx_r 12], t0, n, 0)) rfl (fun _ => rfl) rfl ?_
      refine ex_go (S := (40, [(0, gx_r 8), (1, gx_r 191), (2, .inl 0)], [.inl 0, .inl 0, gx_r 12], t0, n, 0)) rfl (fun _ => rfl) rfl ?_
      refine gx_apv (d := 2) rfl (fun _ => rfl) g0 rfl rfl rfl (show 0 < 2 from by omega) rfl (ai_in_h (by first | decide | omega) (by first | decide | omega) (by first | decide | omega)) rfl (fun t127 g127 k127 e127 => ?_)
      have k28 : ai_hv t127 14 0 = some (.inl (σ 13)) := (e127 14 0 (by first | decide | omega)).trans k23
      have k29 : ai_hv t127 208 0 = some (.inl (w 3 0)) := (e127 208 0 (by first | decide | omega)).trans k24
      have k30 : ai_hv t127 9 (w 3 0) = some (.inl (σ (1 + w 3 0))) := (e127 9 (w 3 0) (by first | decide | omega)).trans k25
      refine ex_go (S := (42, [(0, gx_r 8), (1, gx_r 191), (2, .inl 0)], [.inl 1], t127, n, 0)) rfl (fun _ => rfl) rfl ?_
      refine ex_ret (r := (some (.inl 1), t127, n, 0)) rfl (fun _ => rfl) ?_
      refine ⟨_, rfl, 1, t127, rfl, g127, (fun c i h => e127 c i (by first | decide | omega)), by decide, (fun _ => ⟨by rw [hml]; omega, ?_⟩), fun z => absurd z (by decide)⟩
      refine ⟨?_, fun i hi => ?_, fun c9 hc9 => ?_⟩
      · rw [sgM_o (by first | decide | omega)]; exact (e127 8 0 (by first | decide | omega)).trans (hS.1)
      · rw [sgM_o (by first | decide | omega)]; exact (e127 9 i (by first | decide | omega)).trans (hS.2.1 i hi)
      · rcases (show c9 = 0 ∨ c9 = 1 by omega) with rfl | rfl
        · obtain ⟨y7, y9, y11, y15, y13⟩ := hS.2.2 0 hc9
          refine ⟨?_, ?_, ?_, ?_, ?_⟩
          · rw [sgM_o (by first | decide | omega)]; exact (e127 10 0 (by first | decide | omega)).trans (y7)
          · rw [sgM_o (by first | decide | omega)]; exact (e127 11 0 (by first | decide | omega)).trans (y9)
          · rw [sgM_11]; exact k127
          · rw [sgM_o (by first | decide | omega)]; exact (e127 13 0 (by first | decide | omega)).trans (y15)
          · intro z; rw [sgM_11] at z; exact absurd z (by decide)
        · obtain ⟨y7, y9, y11, y15, y13⟩ := hS.2.2 1 hc9
          refine ⟨?_, ?_, ?_, ?_, ?_⟩
          · rw [sgM_o (by first | decide | omega)]; exact (e127 10 1 (by first | decide | omega)).trans (y7)
          · rw [sgM_o (by first | decide | omega)]; exact (e127 11 1 (by first | decide | omega)).trans (y9)
          · rw [sgM_o (by first | decide | omega)]; exact (e127 12 1 (by first | decide | omega)).trans (y11)
          · rw [sgM_o (by first | decide | omega)]; exact (e127 13 1 (by first | decide | omega)).trans (y15)
          · intro z
            rw [sgM_o (by first | decide | omega)] at z
            rw [sgM_o (by first | decide | omega)]; exact (e127 14 1 (by first | decide | omega)).trans (y13 z)
    · refine gx_2f (c := .eq) rfl (by first | decide | omega) (by first | decide | omega) hc26 rfl ?_
      refine ex_go (S := (33, [(0, gx_r 8), (1, gx_r 191), (2, .inl 0)], [.inl 0], t0, n, 0)) rfl (fun _ => rfl) rfl ?_
      refine ex_ret (r := (some (.inl 0), t0, n, 0)) rfl (fun _ => rfl) ?_
      exact ⟨_, rfl, 0, t0, rfl, g0, (fun _ _ _ => rfl), by decide, (fun z => absurd z (by decide)), fun _ => ⟨fun z => by rw [hml] at z; omega, rfl⟩⟩
theorem sc_sled8_191_1 (d n : Nat) {t0 : en_H} {w : Nat → Nat → Nat} {L : List Nat} {σ : Nat → Nat} (g0 : ai_HG ah_G t0) (hC : CW t0 191 w L) (hw : WS w) (hb : sbd σ) (hS : SC t0 8 (w 0 2) (w 0 4) σ) (hc : 1 < w 0 4) : ∃ r, en_u (d + 1) 172 [gx_r 8, gx_r 191, .inl 1] t0 n = some r ∧ r = (some (.inl (slp w σ 1)), t0, n, 0) := by
  have hS9 := hS
  have hb9 := hb
  obtain ⟨hb1, ⟨hb7, hb8⟩, ⟨hb11, hb12⟩, ⟨hb13, hb14⟩, ⟨hb15, hb16⟩, hb0, hbo9, hb10⟩ := hb9
  have hT := hw.1.2.2.1
  have hK := hw.1.2.2.2.2.1
  obtain ⟨x7_1, x9_1, x11_1, x15_1, x13_1⟩ := hS9.2.2 1 (by first | decide | omega)
  have x13_1 : σ 12 = 1 → ai_hv t0 14 1 = some (.inl (σ 14)) := x13_1
  have w3_1 := (hC.2.2.1 1 (by first | decide | omega)).1
  have hs1 := (hw.2.1 1 (by first | decide | omega)).1
  have hp1 := hb1 (w 3 1) (by first | decide | omega)
  have hsl : slp w σ 1 = if σ 12 = 1 then σ 14 else σ (1 + w 3 1) := rfl
  refine en_u_ex rfl ?_
  show en_ex _ _ _ _ (0, [(0, gx_r 8), (1, gx_r 191), (2, .inl 1)], [], t0, n, 0) _
  refine ex_go (S := (1, [(0, gx_r 8), (1, gx_r 191), (2, .inl 1)], [gx_r 8], t0, n, 0)) rfl (fun _ => rfl) rfl ?_
  refine gxo_ref (a := 8) (c := 12) rfl g0 rfl rfl rfl rfl rfl ?_
  refine ex_go (S := (5, [(0, gx_r 8), (1, gx_r 191), (2, .inl 1)], [.inl 1, gx_r 12], t0, n, 0)) rfl (fun _ => rfl) rfl ?_
  have k21 : ai_hv t0 12 1 = some (.inl (σ 12)) := x11_1
  refine gx_ag (v := .inl (σ 12)) (cb := fun c => Nat.beq c 2 || Nat.beq c 1) rfl (fun _ => rfl) g0 rfl rfl k21 (by first | decide | omega) rfl ?_
  by_cases hc22 : σ 12 = 0
  · refine gx_1t (c := .eq) rfl (by first | decide | omega) hc22 rfl ?_
    refine ex_go (S := (19, [(0, gx_r 8), (1, gx_r 191), (2, .inl 1)], [gx_r 8], t0, n, 0)) rfl (fun _ => rfl) rfl ?_
    refine gxo_ref (a := 8) (c := 9) rfl g0 rfl rfl rfl rfl rfl ?_
    refine ex_go (S := (23, [(0, gx_r 8), (1, gx_r 191), (2, .inl 1)], [gx_r 191, gx_r 9], t0, n, 0)) rfl (fun _ => rfl) rfl ?_
    refine gxo_ref (a := 191) (c := 206) rfl g0 rfl rfl rfl rfl rfl ?_
    refine gxo_ref (a := 206) (c := 208) rfl g0 rfl rfl rfl rfl rfl ?_
    refine ex_go (S := (30, [(0, gx_r 8), (1, gx_r 191), (2, .inl 1)], [.inl 1, gx_r 208, gx_r 9], t0, n, 0)) rfl (fun _ => rfl) rfl ?_
    have k23 : ai_hv t0 208 1 = some (.inl (w 3 1)) := w3_1
    refine gx_ag (v := .inl (w 3 1)) (cb := fun c => Nat.beq c 0) rfl (fun _ => rfl) g0 rfl rfl k23 (by first | decide | omega) rfl ?_
    have k24 : ai_hv t0 9 (w 3 1) = some (.inl (σ (1 + w 3 1))) := hS.2.1 _ (by first | decide | omega)
    refine gx_ag (v := .inl (σ (1 + w 3 1))) (cb := fun c => Nat.beq c 0) rfl (fun _ => rfl) g0 rfl rfl k24 (by first | decide | omega) rfl ?_
    refine ex_ret (r := (some (.inl (σ (1 + w 3 1))), t0, n, 0)) rfl (fun _ => rfl) ?_
    have e9 : slp w σ 1 = σ (1 + w 3 1) := by rw [hsl, if_neg (by first | decide | omega)]
    exact ⟨_, rfl, by rw [e9]⟩
  · refine gx_1f (c := .eq) rfl (by first | decide | omega) hc22 rfl ?_
    refine ex_go (S := (10, [(0, gx_r 8), (1, gx_r 191), (2, .inl 1)], [gx_r 8], t0, n, 0)) rfl (fun _ => rfl) rfl ?_
    refine gxo_ref (a := 8) (c := 14) rfl g0 rfl rfl rfl rfl rfl ?_
    refine ex_go (S := (14, [(0, gx_r 8), (1, gx_r 191), (2, .inl 1)], [.inl 1, gx_r 14], t0, n, 0)) rfl (fun _ => rfl) rfl ?_
    have k25 : ai_hv t0 14 1 = some (.inl (σ 14)) := x13_1 (by first | decide | omega)
    refine gx_ag (v := .inl (σ 14)) (cb := fun c => Nat.beq c 0) rfl (fun _ => rfl) g0 rfl rfl k25 (by first | decide | omega) rfl ?_
    refine ex_go (S := (32, [(0, gx_r 8), (1, gx_r 191), (2, .inl 1)], [.inl (σ 14)], t0, n, 0)) rfl (fun _ => rfl) rfl ?_
    refine ex_ret (r := (some (.inl (σ 14)), t0, n, 0)) rfl (fun _ => rfl) ?_
    have e9 : slp w σ 1 = σ 14 := by rw [hsl, if_pos (by first | decide | omega)]
    exact ⟨_, rfl, by rw [e9]⟩
theorem sc_hs8_191_1 (d n : Nat) {t0 : en_H} {w : Nat → Nat → Nat} {L : List Nat} {σ : Nat → Nat} {to : Nat} (g0 : ai_HG ah_G t0) (hC : CW t0 191 w L) (hw : WS w) (hb : sbd σ) (hS : SC t0 8 (w 0 2) (w 0 4) σ) (hX : CX t0 191 w) (hB : σ 0 ≤ 900000) (hc : 1 < w 0 4) (ht : to < 64) : ∃ r, en_u (d + 4) 200 [gx_r 8, gx_r 191, .inl 1, .inl to] t0 n = some r ∧ ∃ v t', r = (some (.inl v), t', n, 0) ∧ ai_HG ah_G t' ∧ (∀ c i, ¬ (c = 12 ∨ c = 13 ∨ c = 14) → ai_hv t' c i = ai_hv t0 c i) ∧ v ≤ 1 ∧ (v = 1 → mayH w σ 1 to ∧ SC t' 8 (w 0 2) (w 0 4) (sgH σ 1 to)) ∧ (v = 0 → ¬ mayH w σ 1 to ∧ t' = t0) := by
  have hsp := slp_lt hw hb hc
  have hS9 := hS
  have hb9 := hb
  obtain ⟨hb1, ⟨hb7, hb8⟩, ⟨hb11, hb12⟩, ⟨hb13, hb14⟩, ⟨hb15, hb16⟩, hb0, hbo9, hb10⟩ := hb9
  have hT := hw.1.2.2.1
  have hK := hw.1.2.2.2.2.1
  obtain ⟨x7_1, x9_1, x11_1, x15_1, x13_1⟩ := hS9.2.2 1 (by first | decide | omega)
  have x13_1 : σ 12 = 1 → ai_hv t0 14 1 = some (.inl (σ 14)) := x13_1
  have w3_1 := (hC.2.2.1 1 (by first | decide | omega)).1
  have hs1 := (hw.2.1 1 (by first | decide | omega)).1
  have hp1 := hb1 (w 3 1) (by first | decide | omega)
  refine en_u_ex (d := d + 3) rfl ?_
  show en_ex _ _ _ _ (0, [(0, gx_r 8), (1, gx_r 191), (2, .inl 1), (3, .inl to)], [], t0, n, 0) _
  refine ex_go (S := (1, [(0, gx_r 8), (1, gx_r 191), (2, .inl 1), (3, .inl to)], [gx_r 8], t0, n, 0)) rfl (fun _ => rfl) rfl ?_
  refine ex_go (S := (2, [(0, gx_r 8), (1, gx_r 191), (2, .inl 1), (3, .inl to)], [gx_r 191, gx_r 8], t0, n, 0)) rfl (fun _ => rfl) rfl ?_
  refine ex_go (S := (3, [(0, gx_r 8), (1, gx_r 191), (2, .inl 1), (3, .inl to)], [.inl 1, gx_r 191, gx_r 8], t0, n, 0)) rfl (fun _ => rfl) rfl ?_
  obtain ⟨_, r21, rfl⟩ := sc_sled8_191_1 (d + 2) n g0 hC hw hb hS hc
  refine gx_callo (a := 8) rfl rfl g0 rfl rfl rfl r21 rfl ?_
  show en_ex _ _ _ _ (6, [(0, gx_r 8), (1, gx_r 191), (2, .inl 1), (3, .inl to)], [.inl (slp w σ 1)], t0, n, 0) _
  refine ex_go (S := (8, [(4, .inl (slp w σ 1)), (0, gx_r 8), (1, gx_r 191), (2, .inl 1), (3, .inl to)], [], t0, n, 0)) rfl (fun _ => rfl) rfl ?_
  refine ex_go (S := (9, [(4, .inl (slp w σ 1)), (0, gx_r 8), (1, gx_r 191), (2, .inl 1), (3, .inl to)], [gx_r 8], t0, n, 0)) rfl (fun _ => rfl) rfl ?_
  refine gxo_ref (a := 8) (c := 13) rfl g0 rfl rfl rfl rfl rfl ?_
  refine ex_go (S := (13, [(4, .inl (slp w σ 1)), (0, gx_r 8), (1, gx_r 191), (2, .inl 1), (3, .inl to)], [.inl 1, gx_r 13], t0, n, 0)) rfl (fun _ => rfl) rfl ?_
  have k22 : ai_hv t0 13 1 = some (.inl (σ 16)) := x15_1
  refine gx_ag (v := .inl (σ 16)) (cb := fun c => Nat.beq c 2 || Nat.beq c 1) rfl (fun _ => rfl) g0 rfl rfl k22 (by first | decide | omega) rfl ?_
  by_cases hc23 : σ 16 ≠ 0
  · refine gx_1t (c := .ne) rfl (by first | decide | omega) hc23 rfl ?_
    refine ex_go (S := (44, [(4, .inl (slp w σ 1)), (0, gx_r 8), (1, gx_r 191), (2, .inl 1), (3, .inl to)], [.inl 0], t0, n, 0)) rfl (fun _ => rfl) rfl ?_
    refine ex_ret (r := (some (.inl 0), t0, n, 0)) rfl (fun _ => rfl) ?_
    exact ⟨_, rfl, 0, t0, rfl, g0, (fun _ _ _ => rfl), by decide, (fun z => absurd z (by decide)), fun _ => ⟨fun z => by
      obtain ⟨z1, z2, -⟩ := z
      have z1 : ¬ σ 16 = 1 := z1
      omega, rfl⟩⟩
  · refine gx_1f (c := .ne) rfl (by first | decide | omega) hc23 rfl ?_
    refine ex_go (S := (18, [(4, .inl (slp w σ 1)), (0, gx_r 8), (1, gx_r 191), (2, .inl 1), (3, .inl to)], [.inl to], t0, n, 0)) rfl (fun _ => rfl) rfl ?_
    refine ex_go (S := (20, [(4, .inl (slp w σ 1)), (0, gx_r 8), (1, gx_r 191), (2, .inl 1), (3, .inl to)], [.inl (slp w σ 1), .inl to], t0, n, 0)) rfl (fun _ => rfl) rfl ?_
    by_cases hc24 : to = slp w σ 1
    · refine gx_2t (c := .eq) rfl (by first | decide | omega) (by first | decide | omega) hc24 rfl ?_
      refine ex_go (S := (44, [(4, .inl (slp w σ 1)), (0, gx_r 8), (1, gx_r 191), (2, .inl 1), (3, .inl to)], [.inl 0], t0, n, 0)) rfl (fun _ => rfl) rfl ?_
      refine ex_ret (r := (some (.inl 0), t0, n, 0)) rfl (fun _ => rfl) ?_
      exact ⟨_, rfl, 0, t0, rfl, g0, (fun _ _ _ => rfl), by decide, (fun z => absurd z (by decide)), fun _ => ⟨fun z => by
        obtain ⟨z1, z2, -⟩ := z
        have z1 : ¬ σ 16 = 1 := z1
        omega, rfl⟩⟩
    · refine gx_2f (c := .eq) rfl (by first | decide | omega) (by first | decide | omega) hc24 rfl ?_
      refine ex_go (S := (24, [(4, .inl (slp w σ 1)), (0, gx_r 8), (1, gx_r 191), (2, .inl 1), (3, .inl to)], [gx_r 191], t0, n, 0)) rfl (fun _ => rfl) rfl ?_
      refine ex_go (S := (26, [(4, .inl (slp w σ 1)), (0, gx_r 8), (1, gx_r 191), (2, .inl 1), (3, .inl to)], [.inl (slp w σ 1), gx_r 191], t0, n, 0)) rfl (fun _ => rfl) rfl ?_
      obtain ⟨_, r25, rfl⟩ := pz_bit (d + 2) n (t0 := t0) (x := slp w σ 1) (by first | decide | omega)
      refine ex_stat rfl rfl rfl rfl rfl r25 (Nat.le_refl _) rfl ?_
      show en_ex _ _ _ _ (29, [(4, .inl (slp w σ 1)), (0, gx_r 8), (1, gx_r 191), (2, .inl 1), (3, .inl to)], [.inr (.inl (2 ^ (slp w σ 1))), gx_r 191], t0, n, 0) _
      refine ex_go (S := (30, [(4, .inl (slp w σ 1)), (0, gx_r 8), (1, gx_r 191), (2, .inl 1), (3, .inl to)], [gx_r 8, .inr (.inl (2 ^ (slp w σ 1))), gx_r 191], t0, n, 0)) rfl (fun _ => rfl) rfl ?_
      refine gxo_get (a := 8) rfl g0 rfl rfl hS.1 rfl ?_
      obtain ⟨_, r1, y, rfl, hy⟩ := sc_hauled191 d n (H := fun q => decide (q = slp w σ 1)) (s := σ 0) (x := 2 ^ slp w σ 1) g0 hC hX hw (by first | decide | omega) (bts_mk (sz_two hsp) (fun j hj => by rw [Nat.testBit_two_pow, decide_eq_decide]; exact eq_comm))
      refine gx_callo (a := 191) rfl rfl g0 rfl rfl rfl r1 rfl ?_
      show en_ex _ _ _ _ (36, [(4, .inl (slp w σ 1)), (0, gx_r 8), (1, gx_r 191), (2, .inl 1), (3, .inl to)], [.inr (.inl y)], t0, n, 0) _
      refine ex_go (S := (37, [(4, .inl (slp w σ 1)), (0, gx_r 8), (1, gx_r 191), (2, .inl 1), (3, .inl to)], [.inl to, .inr (.inl y)], t0, n, 0)) rfl (fun _ => rfl) rfl ?_
      obtain ⟨_, r26, rfl⟩ := pz_has (d + 1) n (t0 := t0) (x := y) (k := to) hy.1 ht
      have hbt := bts_at hy ht
      have hbv := bv_le (b := y.testBit to)
      refine ex_stat rfl rfl rfl rfl rfl r26 (Nat.le_refl _) rfl ?_
      show en_ex _ _ _ _ (40, [(4, .inl (slp w σ 1)), (0, gx_r 8), (1, gx_r 191), (2, .inl 1), (3, .inl to)], [.inl (bv (y.testBit to))], t0, n, 0) _
      by_cases hc27 : bv (y.testBit to) ≠ 0
      · refine gx_1t (c := .ne) rfl (by first | decide | omega) hc27 rfl ?_
        refine ex_go (S := (46, [(4, .inl (slp w σ 1)), (0, gx_r 8), (1, gx_r 191), (2, .inl 1), (3, .inl to)], [gx_r 8], t0, n, 0)) rfl (fun _ => rfl) rfl ?_
        refine gxo_ref (a := 8) (c := 12) rfl g0 rfl rfl rfl rfl rfl ?_
        refine ex_go (S := (50, [(4, .inl (slp w σ 1)), (0, gx_r 8), (1, gx_r 191), (2, .inl 1), (3, .inl to)], [.inl 1, gx_r 12], t0, n, 0)) rfl (fun _ => rfl) rfl ?_
        refine ex_go (S := (51, [(4, .inl (slp w σ 1)), (0, gx_r 8), (1, gx_r 191), (2, .inl 1), (3, .inl to)], [.inl 1, .inl 1, gx_r 12], t0, n, 0)) rfl (fun _ => rfl) rfl ?_
        refine gx_apv (d := 2) rfl (fun _ => rfl) g0 rfl rfl rfl (show 1 < 2 from by omega) rfl (ai_in_h (by first | decide | omega) (by first | decide | omega) (by first | decide | omega)) rfl (fun t128 g128 k128 e128 => ?_)
        have k29 : ai_hv t128 8 0 = some (.inl (σ 0)) := (e128 8 0 (by first | decide | omega)).trans hS.1
        have k30 : ai_hv t128 13 1 = some (.inl (σ 16)) := (e128 13 1 (by first | decide | omega)).trans k22
        refine ex_go (S := (53, [(4, .inl (slp w σ 1)), (0, gx_r 8), (1, gx_r 191), (2, .inl 1), (3, .inl to)], [gx_r 8], t128, n, 0)) rfl (fun _ => rfl) rfl ?_
        refine gxo_ref (a := 8) (c := 13) rfl g128 rfl rfl rfl rfl rfl ?_
        refine ex_go (S := (57, [(4, .inl (slp w σ 1)), (0, gx_r 8), (1, gx_r 191), (2, .inl 1), (3, .inl to)], [.inl 1, gx_r 13], t128, n, 0)) rfl (fun _ => rfl) rfl ?_
        refine ex_go (S := (58, [(4, .inl (slp w σ 1)), (0, gx_r 8), (1, gx_r 191), (2, .inl 1), (3, .inl to)], [.inl 1, .inl 1, gx_r 13], t128, n, 0)) rfl (fun _ => rfl) rfl ?_
        refine gx_apv (d := 2) rfl (fun _ => rfl) g128 rfl rfl rfl (show 1 < 2 from by omega) rfl (ai_in_h (by first | decide | omega) (by first | decide | omega) (by first | decide | omega)) rfl (fun t131 g131 k131 e131 => ?_)
        have k32 : ai_hv t131 8 0 = some (.inl (σ 0)) := (e131 8 0 (by first | decide | omega)).trans k29
        have k33 : ai_hv t131 12 1 = some (.inl 1) := (e131 12 1 (by first | decide | omega)).trans k128
        refine ex_go (S := (60, [(4, .inl (slp w σ 1)), (0, gx_r 8), (1, gx_r 191), (2, .inl 1), (3, .inl to)], [gx_r 8], t131, n, 0)) rfl (fun _ => rfl) rfl ?_
        refine gxo_ref (a := 8) (c := 14) rfl g131 rfl rfl rfl rfl rfl ?_
        refine ex_go (S := (64, [(4, .inl (slp w σ 1)), (0, gx_r 8), (1, gx_r 191), (2, .inl 1), (3, .inl to)], [.inl 1, gx_r 14], t131, n, 0)) rfl (fun _ => rfl) rfl ?_
        refine ex_go (S := (65, [(4, .inl (slp w σ 1)), (0, gx_r 8), (1, gx_r 191), (2, .inl 1), (3, .inl to)], [.inl to, .inl 1, gx_r 14], t131, n, 0)) rfl (fun _ => rfl) rfl ?_
        refine gx_ap rfl (fun _ => rfl) g131 rfl rfl rfl (show 1 < 2 from by omega) rfl (ai_in_h (by first | decide | omega) (by first | decide | omega) (by first | decide | omega)) rfl (fun t134 g134 k134 e134 => ?_)
        have k35 : ai_hv t134 8 0 = some (.inl (σ 0)) := (e134 8 0 (by first | decide | omega)).trans k32
        have k36 : ai_hv t134 12 1 = some (.inl 1) := (e134 12 1 (by first | decide | omega)).trans k33
        have k37 : ai_hv t134 13 1 = some (.inl 1) := (e134 13 1 (by first | decide | omega)).trans k131
        refine ex_go (S := (67, [(4, .inl (slp w σ 1)), (0, gx_r 8), (1, gx_r 191), (2, .inl 1), (3, .inl to)], [.inl 1], t134, n, 0)) rfl (fun _ => rfl) rfl ?_
        refine ex_ret (r := (some (.inl 1), t134, n, 0)) rfl (fun _ => rfl) ?_
        refine ⟨_, rfl, 1, t134, rfl, g134, (fun c i h => (e134 c i (by first | decide | omega)).trans ((e131 c i (by first | decide | omega)).trans (e128 c i (by first | decide | omega)))), by decide, (fun _ => ⟨⟨?_, ?_, ?_⟩, ?_⟩), fun z => absurd z (by decide)⟩
        · show ¬ σ 16 = 1
          omega
        · omega
        · rw [← hbt]; exact bv_1 (by first | decide | omega)
        · refine ⟨?_, fun i hi => ?_, fun c9 hc9 => ?_⟩
          · rw [sgH_o (by first | decide | omega) (by first | decide | omega) (by first | decide | omega)]; exact ((e134 8 0 (by first | decide | omega)).trans ((e131 8 0 (by first | decide | omega)).trans (e128 8 0 (by first | decide | omega)))).trans (hS.1)
          · rw [sgH_o (by first | decide | omega) (by first | decide | omega) (by first | decide | omega)]; exact ((e134 9 i (by first | decide | omega)).trans ((e131 9 i (by first | decide | omega)).trans (e128 9 i (by first | decide | omega)))).trans (hS.2.1 i hi)
          · rcases (show c9 = 0 ∨ c9 = 1 by omega) with rfl | rfl
            · obtain ⟨y7, y9, y11, y15, y13⟩ := hS.2.2 0 hc9
              refine ⟨?_, ?_, ?_, ?_, ?_⟩
              · rw [sgH_o (by first | decide | omega) (by first | decide | omega) (by first | decide | omega)]; exact ((e134 10 0 (by first | decide | omega)).trans ((e131 10 0 (by first | decide | omega)).trans (e128 10 0 (by first | decide | omega)))).trans (y7)
              · rw [sgH_o (by first | decide | omega) (by first | decide | omega) (by first | decide | omega)]; exact ((e134 11 0 (by first | decide | omega)).trans ((e131 11 0 (by first | decide | omega)).trans (e128 11 0 (by first | decide | omega)))).trans (y9)
              · rw [sgH_o (by first | decide | omega) (by first | decide | omega) (by first | decide | omega)]; exact ((e134 12 0 (by first | decide | omega)).trans ((e131 12 0 (by first | decide | omega)).trans (e128 12 0 (by first | decide | omega)))).trans (y11)
              · rw [sgH_o (by first | decide | omega) (by first | decide | omega) (by first | decide | omega)]; exact ((e134 13 0 (by first | decide | omega)).trans ((e131 13 0 (by first | decide | omega)).trans (e128 13 0 (by first | decide | omega)))).trans (y15)
              · intro z
                rw [sgH_o (by first | decide | omega) (by first | decide | omega) (by first | decide | omega)] at z
                rw [sgH_o (by first | decide | omega) (by first | decide | omega) (by first | decide | omega)]; exact ((e134 14 0 (by first | decide | omega)).trans ((e131 14 0 (by first | decide | omega)).trans (e128 14 0 (by first | decide | omega)))).trans (y13 z)
            · obtain ⟨y7, y9, y11, y15, y13⟩ := hS.2.2 1 hc9
              refine ⟨?_, ?_, ?_, ?_, ?_⟩
              · rw [sgH_o (by first | decide | omega) (by first | decide | omega) (by first | decide | omega)]; exact ((e134 10 1 (by first | decide | omega)).trans ((e131 10 1 (by first | decide | omega)).trans (e128 10 1 (by first | decide | omega)))).trans (y7)
              · rw [sgH_o (by first | decide | omega) (by first | decide | omega) (by first | decide | omega)]; exact ((e134 11 1 (by first | decide | omega)).trans ((e131 11 1 (by first | decide | omega)).trans (e128 11 1 (by first | decide | omega)))).trans (y9)
              · rw [sgH_11]; exact k36
              · rw [sgH_15]; exact k37
              · intro _; rw [sgH_13]; exact k134
      · refine gx_1f (c := .ne) rfl (by first | decide | omega) hc27 rfl ?_
        refine ex_go (S := (44, [(4, .inl (slp w σ 1)), (0, gx_r 8), (1, gx_r 191), (2, .inl 1), (3, .inl to)], [.inl 0], t0, n, 0)) rfl (fun _ => rfl) rfl ?_
        refine ex_ret (r := (some (.inl 0), t0, n, 0)) rfl (fun _ => rfl) ?_
        exact ⟨_, rfl, 0, t0, rfl, g0, (fun _ _ _ => rfl), by decide, (fun z => absurd z (by decide)), fun _ => ⟨(fun z => by
          have h9 := bv_0 (b := y.testBit to) (by first | decide | omega)
          rw [hbt] at h9
          rw [z.2.2] at h9
          cases h9), rfl⟩⟩
theorem sc_lb8_191_1 (d n : Nat) {t0 : en_H} {w : Nat → Nat → Nat} {L : List Nat} {σ : Nat → Nat} {v : Nat} (g0 : ai_HG ah_G t0) (hC : CW t0 191 w L) (hw : WS w) (hb : sbd σ) (hS : SC t0 8 (w 0 2) (w 0 4) σ) (hsum : σ 7 + σ 8 ≤ 19998) (hc : 1 < w 0 4) (hv : v ≤ 999) : ∃ r, en_u (d + 2) 201 [gx_r 8, gx_r 191, .inl 1, .inl v] t0 n = some r ∧ ∃ y t', r = (some (.inl y), t', n, 0) ∧ ai_HG ah_G t' ∧ (∀ c i, ¬ (c = 10 ∨ c = 11) → ai_hv t' c i = ai_hv t0 c i) ∧ (mayL w σ 1 → y = lnv σ 1 v ∧ SC t' 8 (w 0 2) (w 0 4) (sgL σ 1 v)) ∧ (¬ mayL w σ 1 → y = 4294967295 ∧ t' = t0) := by
  have hml : mayL w σ 1 ↔ (w 0 4 = 2 ∧ σ 12 = 1 ∧ 0 < σ 8 ∧ σ 14 = σ (1 + w 3 0)) := Iff.rfl
  have hlv : lnv σ 1 v = min v (σ 8) := rfl
  by_cases h2 : w 0 4 = 2
  · have hS9 := hS
    have hb9 := hb
    obtain ⟨hb1, ⟨hb7, hb8⟩, ⟨hb11, hb12⟩, ⟨hb13, hb14⟩, ⟨hb15, hb16⟩, hb0, hbo9, hb10⟩ := hb9
    have hT := hw.1.2.2.1
    have hK := hw.1.2.2.2.2.1
    obtain ⟨x7_0, x9_0, x11_0, x15_0, x13_0⟩ := hS9.2.2 0 (by first | decide | omega)
    have x13_0 : σ 11 = 1 → ai_hv t0 14 0 = some (.inl (σ 13)) := x13_0
    have w3_0 := (hC.2.2.1 0 (by first | decide | omega)).1
    have hs0 := (hw.2.1 0 (by first | decide | omega)).1
    have hp0 := hb1 (w 3 0) (by first | decide | omega)
    obtain ⟨x7_1, x9_1, x11_1, x15_1, x13_1⟩ := hS9.2.2 1 (by first | decide | omega)
    have x13_1 : σ 12 = 1 → ai_hv t0 14 1 = some (.inl (σ 14)) := x13_1
    have w3_1 := (hC.2.2.1 1 (by first | decide | omega)).1
    have hs1 := (hw.2.1 1 (by first | decide | omega)).1
    have hp1 := hb1 (w 3 1) (by first | decide | omega)
    refine en_u_ex (d := d + 1) rfl ?_
    show en_ex _ _ _ _ (0, [(0, gx_r 8), (1, gx_r 191), (2, .inl 1), (3, .inl v)], [], t0, n, 0) _
    refine ex_go (S := (1, [(0, gx_r 8), (1, gx_r 191), (2, .inl 1), (3, .inl v)], [.inl 1], t0, n, 0)) rfl (fun _ => rfl) rfl ?_
    refine ex_go (S := (2, [(0, gx_r 8), (1, gx_r 191), (2, .inl 1), (3, .inl v)], [.inl 1, .inl 1], t0, n, 0)) rfl (fun _ => rfl) rfl ?_
    refine ex_go (S := (3, [(0, gx_r 8), (1, gx_r 191), (2, .inl 1), (3, .inl v)], [.inl 0], t0, n, 0)) rfl (fun _ => rfl) rfl ?_
    refine ex_go (S := (5, [(4, .inl 0), (0, gx_r 8), (1, gx_r 191), (2, .inl 1), (3, .inl v)], [], t0, n, 0)) rfl (fun _ => rfl) rfl ?_
    refine ex_go (S := (6, [(4, .inl 0), (0, gx_r 8), (1, gx_r 191), (2, .inl 1), (3, .inl v)], [gx_r 191], t0, n, 0)) rfl (fun _ => rfl) rfl ?_
    refine gxo_ref (a := 191) (c := 206) rfl g0 rfl rfl rfl rfl rfl ?_
    refine ex_go (S := (11, [(4, .inl 0), (0, gx_r 8), (1, gx_r 191), (2, .inl 1), (3, .inl v)], [.inl 0, gx_r 206], t0, n, 0)) rfl (fun _ => rfl) rfl ?_
    obtain ⟨_, r121, b121, rfl, hb121, hi121⟩ := pz_holds206 d n (x := 0) (K := w 0 4) g0 (by decide) hC.1.2.2.2.2.2 (by first | decide | omega)
    refine gx_callo (a := 206) rfl rfl g0 rfl rfl rfl r121 rfl ?_
    show en_ex _ _ _ _ (14, [(4, .inl 0), (0, gx_r 8), (1, gx_r 191), (2, .inl 1), (3, .inl v)], [.inl b121], t0, n, 0) _
    refine gx_1f (c := .eq) rfl (by first | decide | omega) (show ¬ (b121 = 0) from by omega) rfl ?_
    refine ex_go (S := (18, [(4, .inl 0), (0, gx_r 8), (1, gx_r 191), (2, .inl 1), (3, .inl v)], [gx_r 8], t0, n, 0)) rfl (fun _ => rfl) rfl ?_
    refine gxo_ref (a := 8) (c := 12) rfl g0 rfl rfl rfl rfl rfl ?_
    refine ex_go (S := (22, [(4, .inl 0), (0, gx_r 8), (1, gx_r 191), (2, .inl 1), (3, .inl v)], [.inl 1, gx_r 12], t0, n, 0)) rfl (fun _ => rfl) rfl ?_
    have k22 : ai_hv t0 12 1 = some (.inl (σ 12)) := x11_1
    refine gx_ag (v := .inl (σ 12)) (cb := fun c => Nat.beq c 2 || Nat.beq c 1) rfl (fun _ => rfl) g0 rfl rfl k22 (by first | decide | omega) rfl ?_
    by_cases hc23 : σ 12 = 0
    · refine gx_1t (c := .eq) rfl (by first | decide | omega) hc23 rfl ?_
      refine ex_go (S := (60, [(4, .inl 0), (0, gx_r 8), (1, gx_r 191), (2, .inl 1), (3, .inl v)], [.inl 4294967295], t0, n, 0)) rfl (fun _ => rfl) rfl ?_
      refine ex_ret (r := (some (.inl 4294967295), t0, n, 0)) rfl (fun _ => rfl) ?_
      exact ⟨_, rfl, _, t0, rfl, g0, (fun _ _ _ => rfl), (fun z => by rw [hml] at z; omega), fun _ => ⟨rfl, rfl⟩⟩
    · refine gx_1f (c := .eq) rfl (by first | decide | omega) hc23 rfl ?_
      refine ex_go (S := (27, [(4, .inl 0), (0, gx_r 8), (1, gx_r 191), (2, .inl 1), (3, .inl v)], [gx_r 8], t0, n, 0)) rfl (fun _ => rfl) rfl ?_
      refine gxo_ref (a := 8) (c := 10) rfl g0 rfl rfl rfl rfl rfl ?_
      refine ex_go (S := (31, [(4, .inl 0), (0, gx_r 8), (1, gx_r 191), (2, .inl 1), (3, .inl v)], [.inl 1, gx_r 10], t0, n, 0)) rfl (fun _ => rfl) rfl ?_
      have k24 : ai_hv t0 10 1 = some (.inl (σ 8)) := x7_1
      refine gx_ag (v := .inl (σ 8)) (cb := fun c => Nat.beq c 0) rfl (fun _ => rfl) g0 rfl rfl k24 (by first | decide | omega) rfl ?_
      by_cases hc25 : σ 8 = 0
      · refine gx_1t (c := .eq) rfl (by first | decide | omega) hc25 rfl ?_
        refine ex_go (S := (60, [(4, .inl 0), (0, gx_r 8), (1, gx_r 191), (2, .inl 1), (3, .inl v)], [.inl 4294967295], t0, n, 0)) rfl (fun _ => rfl) rfl ?_
        refine ex_ret (r := (some (.inl 4294967295), t0, n, 0)) rfl (fun _ => rfl) ?_
        exact ⟨_, rfl, _, t0, rfl, g0, (fun _ _ _ => rfl), (fun z => by rw [hml] at z; omega), fun _ => ⟨rfl, rfl⟩⟩
      · refine gx_1f (c := .eq) rfl (by first | decide | omega) hc25 rfl ?_
        refine ex_go (S := (36, [(4, .inl 0), (0, gx_r 8), (1, gx_r 191), (2, .inl 1), (3, .inl v)], [gx_r 8], t0, n, 0)) rfl (fun _ => rfl) rfl ?_
        refine gxo_ref (a := 8) (c := 14) rfl g0 rfl rfl rfl rfl rfl ?_
        refine ex_go (S := (40, [(4, .inl 0), (0, gx_r 8), (1, gx_r 191), (2, .inl 1), (3, .inl v)], [.inl 1, gx_r 14], t0, n, 0)) rfl (fun _ => rfl) rfl ?_
        have k26 : ai_hv t0 14 1 = some (.inl (σ 14)) := x13_1 (by first | decide | omega)
        refine gx_ag (v := .inl (σ 14)) (cb := fun c => Nat.beq c 0) rfl (fun _ => rfl) g0 rfl rfl k26 (by first | decide | omega) rfl ?_
        refine ex_go (S := (42, [(4, .inl 0), (0, gx_r 8), (1, gx_r 191), (2, .inl 1), (3, .inl v)], [gx_r 8, .inl (σ 14)], t0, n, 0)) rfl (fun _ => rfl) rfl ?_
        refine gxo_ref (a := 8) (c := 9) rfl g0 rfl rfl rfl rfl rfl ?_
        refine ex_go (S := (46, [(4, .inl 0), (0, gx_r 8), (1, gx_r 191), (2, .inl 1), (3, .inl v)], [gx_r 191, gx_r 9, .inl (σ 14)], t0, n, 0)) rfl (fun _ => rfl) rfl ?_
        refine gxo_ref (a := 191) (c := 206) rfl g0 rfl rfl rfl rfl rfl ?_
        refine gxo_ref (a := 206) (c := 208) rfl g0 rfl rfl rfl rfl rfl ?_
        refine ex_go (S := (54, [(4, .inl 0), (0, gx_r 8), (1, gx_r 191), (2, .inl 1), (3, .inl v)], [.inl 0, gx_r 208, gx_r 9, .inl (σ 14)], t0, n, 0)) rfl (fun _ => rfl) rfl ?_
        have k27 : ai_hv t0 208 0 = some (.inl (w 3 0)) := w3_0
        refine gx_ag (v := .inl (w 3 0)) (cb := fun c => Nat.beq c 0) rfl (fun _ => rfl) g0 rfl rfl k27 (by first | decide | omega) rfl ?_
        have k28 : ai_hv t0 9 (w 3 0) = some (.inl (σ (1 + w 3 0))) := hS.2.1 _ (by first | decide | omega)
        refine gx_ag (v := .inl (σ (1 + w 3 0))) (cb := fun c => Nat.beq c 0) rfl (fun _ => rfl) g0 rfl rfl k28 (by first | decide | omega) rfl ?_
        by_cases hc29 : σ 14 = σ (1 + w 3 0)
        · refine gx_2t (c := .eq) rfl (by first | decide | omega) (by first | decide | omega) hc29 rfl ?_
          refine ex_go (S := (62, [(4, .inl 0), (0, gx_r 8), (1, gx_r 191), (2, .inl 1), (3, .inl v)], [.inl v], t0, n, 0)) rfl (fun _ => rfl) rfl ?_
          refine ex_go (S := (63, [(4, .inl 0), (0, gx_r 8), (1, gx_r 191), (2, .inl 1), (3, .inl v)], [gx_r 8, .inl v], t0, n, 0)) rfl (fun _ => rfl) rfl ?_
          refine gxo_ref (a := 8) (c := 10) rfl g0 rfl rfl rfl rfl rfl ?_
          refine ex_go (S := (67, [(4, .inl 0), (0, gx_r 8), (1, gx_r 191), (2, .inl 1), (3, .inl v)], [.inl 1, gx_r 10, .inl v], t0, n, 0)) rfl (fun _ => rfl) rfl ?_
          refine gx_ag (v := .inl (σ 8)) (cb := fun c => Nat.beq c 0) rfl (fun _ => rfl) g0 rfl rfl k24 (by first | decide | omega) rfl ?_
          refine gx_inn rfl rfl rfl (zk_min (by first | decide | omega) (by first | decide | omega)) rfl rfl ?_
          refine ex_go (S := (73, [(5, .inl (min v (σ 8))), (4, .inl 0), (0, gx_r 8), (1, gx_r 191), (2, .inl 1), (3, .inl v)], [], t0, n, 0)) rfl (fun _ => rfl) rfl ?_
          refine ex_go (S := (74, [(5, .inl (min v (σ 8))), (4, .inl 0), (0, gx_r 8), (1, gx_r 191), (2, .inl 1), (3, .inl v)], [gx_r 8], t0, n, 0)) rfl (fun _ => rfl) rfl ?_
          refine gxo_ref (a := 8) (c := 10) rfl g0 rfl rfl rfl rfl rfl ?_
          refine ex_go (S := (78, [(5, .inl (min v (σ 8))), (4, .inl 0), (0, gx_r 8), (1, gx_r 191), (2, .inl 1), (3, .inl v)], [.inl 1, gx_r 10], t0, n, 0)) rfl (fun _ => rfl) rfl ?_
          refine ex_go (S := (79, [(5, .inl (min v (σ 8))), (4, .inl 0), (0, gx_r 8), (1, gx_r 191), (2, .inl 1), (3, .inl v)], [.inl 1, gx_r 10, .inl 1, gx_r 10], t0, n, 0)) rfl (fun _ => rfl) rfl ?_
          refine gx_ag (v := .inl (σ 8)) (cb := fun c => Nat.beq c 0) rfl (fun _ => rfl) g0 rfl rfl k24 (by first | decide | omega) rfl ?_
          refine ex_go (S := (82, [(5, .inl (min v (σ 8))), (4, .inl 0), (0, gx_r 8), (1, gx_r 191), (2, .inl 1), (3, .inl v)], [.inl (min v (σ 8)), .inl (σ 8), .inl 1, gx_r 10], t0, n, 0)) rfl (fun _ => rfl) rfl ?_
          refine gx_isub rfl (by first | decide | omega) (by first | decide | omega) rfl ?_
          refine gx_ap rfl (fun _ => rfl) g0 rfl rfl rfl (show 1 < 2 from by omega) rfl (gx_full (by first | decide | omega)) rfl (fun t130 g130 k130 e130 => ?_)
          have k31 : ai_hv t130 12 1 = some (.inl (σ 12)) := (e130 12 1 (by first | decide | omega)).trans k22
          have k32 : ai_hv t130 14 1 = some (.inl (σ 14)) := (e130 14 1 (by first | decide | omega)).trans k26
          have k33 : ai_hv t130 208 0 = some (.inl (w 3 0)) := (e130 208 0 (by first | decide | omega)).trans k27
          have k34 : ai_hv t130 9 (w 3 0) = some (.inl (σ (1 + w 3 0))) := (e130 9 (w 3 0) (by first | decide | omega)).trans k28
          refine ex_go (S := (85, [(5, .inl (min v (σ 8))), (4, .inl 0), (0, gx_r 8), (1, gx_r 191), (2, .inl 1), (3, .inl v)], [gx_r 8], t130, n, 0)) rfl (fun _ => rfl) rfl ?_
          refine gxo_ref (a := 8) (c := 10) rfl g130 rfl rfl rfl rfl rfl ?_
          refine ex_go (S := (90, [(5, .inl (min v (σ 8))), (4, .inl 0), (0, gx_r 8), (1, gx_r 191), (2, .inl 1), (3, .inl v)], [.inl 0, gx_r 10], t130, n, 0)) rfl (fun _ => rfl) rfl ?_
          refine ex_go (S := (91, [(5, .inl (min v (σ 8))), (4, .inl 0), (0, gx_r 8), (1, gx_r 191), (2, .inl 1), (3, .inl v)], [.inl 0, gx_r 10, .inl 0, gx_r 10], t130, n, 0)) rfl (fun _ => rfl) rfl ?_
          have k35 : ai_hv t130 10 0 = some (.inl (σ 7)) := (e130 10 0 (by first | decide | omega)).trans (x7_0)
          refine gx_ag (v := .inl (σ 7)) (cb := fun c => Nat.beq c 0) rfl (fun _ => rfl) g130 rfl rfl k35 (by first | decide | omega) rfl ?_
          refine ex_go (S := (94, [(5, .inl (min v (σ 8))), (4, .inl 0), (0, gx_r 8), (1, gx_r 191), (2, .inl 1), (3, .inl v)], [.inl (min v (σ 8)), .inl (σ 7), .inl 0, gx_r 10], t130, n, 0)) rfl (fun _ => rfl) rfl ?_
          refine ex_iadd rfl (by first | decide | omega) rfl ?_
          refine gx_ap rfl (fun _ => rfl) g130 rfl rfl rfl (show 0 < 2 from by omega) rfl (gx_full (by first | decide | omega)) rfl (fun t136 g136 k136 e136 => ?_)
          have k37 : ai_hv t136 12 1 = some (.inl (σ 12)) := (e136 12 1 (by first | decide | omega)).trans k31
          have k38 : ai_hv t136 14 1 = some (.inl (σ 14)) := (e136 14 1 (by first | decide | omega)).trans k32
          have k39 : ai_hv t136 208 0 = some (.inl (w 3 0)) := (e136 208 0 (by first | decide | omega)).trans k33
          have k40 : ai_hv t136 9 (w 3 0) = some (.inl (σ (1 + w 3 0))) := (e136 9 (w 3 0) (by first | decide | omega)).trans k34
          have k41 : ai_hv t136 10 1 = some (.inl ((σ 8) - (min v (σ 8)))) := (e136 10 1 (by first | decide | omega)).trans k130
          refine ex_go (S := (97, [(5, .inl (min v (σ 8))), (4, .inl 0), (0, gx_r 8), (1, gx_r 191), (2, .inl 1), (3, .inl v)], [gx_r 8], t136, n, 0)) rfl (fun _ => rfl) rfl ?_
          refine gxo_ref (a := 8) (c := 11) rfl g136 rfl rfl rfl rfl rfl ?_
          refine ex_go (S := (101, [(5, .inl (min v (σ 8))), (4, .inl 0), (0, gx_r 8), (1, gx_r 191), (2, .inl 1), (3, .inl v)], [.inl 1, gx_r 11], t136, n, 0)) rfl (fun _ => rfl) rfl ?_
          refine ex_go (S := (102, [(5, .inl (min v (σ 8))), (4, .inl 0), (0, gx_r 8), (1, gx_r 191), (2, .inl 1), (3, .inl v)], [.inl 1, gx_r 11, .inl 1, gx_r 11], t136, n, 0)) rfl (fun _ => rfl) rfl ?_
          have k42 : ai_hv t136 11 1 = some (.inl (σ 10)) := ((e136 11 1 (by first | decide | omega)).trans (e130 11 1 (by first | decide | omega))).trans (x9_1)
          refine gx_ag (v := .inl (σ 10)) (cb := fun c => Nat.beq c 0) rfl (fun _ => rfl) g136 rfl rfl k42 (by first | decide | omega) rfl ?_
          refine ex_go (S := (105, [(5, .inl (min v (σ 8))), (4, .inl 0), (0, gx_r 8), (1, gx_r 191), (2, .inl 1), (3, .inl v)], [.inl (min v (σ 8)), .inl (σ 10), .inl 1, gx_r 11], t136, n, 0)) rfl (fun _ => rfl) rfl ?_
          have hw43 : en_wrap ((σ 10) + (min v (σ 8))) < 4294967296 := wrap_lt
          refine gs_iaddx rfl rfl ?_
          refine gx_ap rfl (fun _ => rfl) g136 rfl rfl rfl (show 1 < 2 from by omega) rfl (gx_full (by first | decide | omega)) rfl (fun t144 g144 k144 e144 => ?_)
          have k45 : ai_hv t144 12 1 = some (.inl (σ 12)) := (e144 12 1 (by first | decide | omega)).trans k37
          have k46 : ai_hv t144 14 1 = some (.inl (σ 14)) := (e144 14 1 (by first | decide | omega)).trans k38
          have k47 : ai_hv t144 208 0 = some (.inl (w 3 0)) := (e144 208 0 (by first | decide | omega)).trans k39
          have k48 : ai_hv t144 9 (w 3 0) = some (.inl (σ (1 + w 3 0))) := (e144 9 (w 3 0) (by first | decide | omega)).trans k40
          have k49 : ai_hv t144 10 1 = some (.inl ((σ 8) - (min v (σ 8)))) := (e144 10 1 (by first | decide | omega)).trans k41
          have k50 : ai_hv t144 10 0 = some (.inl ((σ 7) + (min v (σ 8)))) := (e144 10 0 (by first | decide | omega)).trans k136
          refine ex_go (S := (108, [(5, .inl (min v (σ 8))), (4, .inl 0), (0, gx_r 8), (1, gx_r 191), (2, .inl 1), (3, .inl v)], [gx_r 8], t144, n, 0)) rfl (fun _ => rfl) rfl ?_
          refine gxo_ref (a := 8) (c := 11) rfl g144 rfl rfl rfl rfl rfl ?_
          refine ex_go (S := (113, [(5, .inl (min v (σ 8))), (4, .inl 0), (0, gx_r 8), (1, gx_r 191), (2, .inl 1), (3, .inl v)], [.inl 0, gx_r 11], t144, n, 0)) rfl (fun _ => rfl) rfl ?_
          refine ex_go (S := (114, [(5, .inl (min v (σ 8))), (4, .inl 0), (0, gx_r 8), (1, gx_r 191), (2, .inl 1), (3, .inl v)], [.inl 0, gx_r 11, .inl 0, gx_r 11], t144, n, 0)) rfl (fun _ => rfl) rfl ?_
          have k51 : ai_hv t144 11 0 = some (.inl (σ 9)) := ((e144 11 0 (by first | decide | omega)).trans ((e136 11 0 (by first | decide | omega)).trans (e130 11 0 (by first | decide | omega)))).trans (x9_0)
          refine gx_ag (v := .inl (σ 9)) (cb := fun c => Nat.beq c 0) rfl (fun _ => rfl) g144 rfl rfl k51 (by first | decide | omega) rfl ?_
          refine ex_go (S := (117, [(5, .inl (min v (σ 8))), (4, .inl 0), (0, gx_r 8), (1, gx_r 191), (2, .inl 1), (3, .inl v)], [.inl (min v (σ 8)), .inl (σ 9), .inl 0, gx_r 11], t144, n, 0)) rfl (fun _ => rfl) rfl ?_
          have hw52 : isb (σ 9) (min v (σ 8)) < 4294967296 := isb_lt
          refine gx_isbx rfl rfl ?_
          refine gx_ap rfl (fun _ => rfl) g144 rfl rfl rfl (show 0 < 2 from by omega) rfl (gx_full (by first | decide | omega)) rfl (fun t153 g153 k153 e153 => ?_)
          have k54 : ai_hv t153 12 1 = some (.inl (σ 12)) := (e153 12 1 (by first | decide | omega)).trans k45
          have k55 : ai_hv t153 14 1 = some (.inl (σ 14)) := (e153 14 1 (by first | decide | omega)).trans k46
          have k56 : ai_hv t153 208 0 = some (.inl (w 3 0)) := (e153 208 0 (by first | decide | omega)).trans k47
          have k57 : ai_hv t153 9 (w 3 0) = some (.inl (σ (1 + w 3 0))) := (e153 9 (w 3 0) (by first | decide | omega)).trans k48
          have k58 : ai_hv t153 10 1 = some (.inl ((σ 8) - (min v (σ 8)))) := (e153 10 1 (by first | decide | omega)).trans k49
          have k59 : ai_hv t153 10 0 = some (.inl ((σ 7) + (min v (σ 8)))) := (e153 10 0 (by first | decide | omega)).trans k50
          have k60 : ai_hv t153 11 1 = some (.inl (en_wrap ((σ 10) + (min v (σ 8))))) := (e153 11 1 (by first | decide | omega)).trans k144
          refine ex_go (S := (121, [(5, .inl (min v (σ 8))), (4, .inl 0), (0, gx_r 8), (1, gx_r 191), (2, .inl 1), (3, .inl v)], [.inl (min v (σ 8))], t153, n, 0)) rfl (fun _ => rfl) rfl ?_
          refine ex_ret (r := (some (.inl (min v (σ 8))), t153, n, 0)) rfl (fun _ => rfl) ?_
          have hl9 : lnv σ 1 v = min v (σ 8) := by omega
          refine ⟨_, rfl, _, t153, rfl, g153, (fun c i h => (e153 c i (by first | decide | omega)).trans ((e144 c i (by first | decide | omega)).trans ((e136 c i (by first | decide | omega)).trans (e130 c i (by first | decide | omega))))), (fun _ => ⟨hl9.symm, ?_⟩), fun z => absurd (by rw [hml]; omega) z⟩
          refine ⟨?_, fun i hi => ?_, fun c9 hc9 => ?_⟩
          · rw [sgL_o (by first | decide | omega) (by first | decide | omega) (by first | decide | omega) (by first | decide | omega)]; exact ((e153 8 0 (by first | decide | omega)).trans ((e144 8 0 (by first | decide | omega)).trans ((e136 8 0 (by first | decide | omega)).trans (e130 8 0 (by first | decide | omega))))).trans (hS.1)
          · rw [sgL_o (by first | decide | omega) (by first | decide | omega) (by first | decide | omega) (by first | decide | omega)]; exact ((e153 9 i (by first | decide | omega)).trans ((e144 9 i (by first | decide | omega)).trans ((e136 9 i (by first | decide | omega)).trans (e130 9 i (by first | decide | omega))))).trans (hS.2.1 i hi)
          · rcases (show c9 = 0 ∨ c9 = 1 by omega) with rfl | rfl
            · obtain ⟨y7, y9, y11, y15, y13⟩ := hS.2.2 0 hc9
              refine ⟨?_, ?_, ?_, ?_, ?_⟩
              · rw [show 7 + 0 = 8 - 1 from rfl, sgL_8 (by first | decide | omega), hl9]; exact k59
              · rw [show 9 + 0 = 10 - 1 from rfl, sgL_10 (by first | decide | omega), hl9]; exact k153
              · rw [sgL_o (by first | decide | omega) (by first | decide | omega) (by first | decide | omega) (by first | decide | omega)]; exact ((e153 12 0 (by first | decide | omega)).trans ((e144 12 0 (by first | decide | omega)).trans ((e136 12 0 (by first | decide | omega)).trans (e130 12 0 (by first | decide | omega))))).trans (y11)
              · rw [sgL_o (by first | decide | omega) (by first | decide | omega) (by first | decide | omega) (by first | decide | omega)]; exact ((e153 13 0 (by first | decide | omega)).trans ((e144 13 0 (by first | decide | omega)).trans ((e136 13 0 (by first | decide | omega)).trans (e130 13 0 (by first | decide | omega))))).trans (y15)
              · intro z
                rw [sgL_o (by first | decide | omega) (by first | decide | omega) (by first | decide | omega) (by first | decide | omega)] at z
                rw [sgL_o (by first | decide | omega) (by first | decide | omega) (by first | decide | omega) (by first | decide | omega)]; exact ((e153 14 0 (by first | decide | omega)).trans ((e144 14 0 (by first | decide | omega)).trans ((e136 14 0 (by first | decide | omega)).trans (e130 14 0 (by first | decide | omega))))).trans (y13 z)
            · obtain ⟨y7, y9, y11, y15, y13⟩ := hS.2.2 1 hc9
              refine ⟨?_, ?_, ?_, ?_, ?_⟩
              · rw [sgL_7, hl9]; exact k58
              · rw [sgL_9 (by first | decide | omega), hl9]; exact k60
              · rw [sgL_o (by first | decide | omega) (by first | decide | omega) (by first | decide | omega) (by first | decide | omega)]; exact ((e153 12 1 (by first | decide | omega)).trans ((e144 12 1 (by first | decide | omega)).trans ((e136 12 1 (by first | decide | omega)).trans (e130 12 1 (by first | decide | omega))))).trans (y11)
              · rw [sgL_o (by first | decide | omega) (by first | decide | omega) (by first | decide | omega) (by first | decide | omega)]; exact ((e153 13 1 (by first | decide | omega)).trans ((e144 13 1 (by first | decide | omega)).trans ((e136 13 1 (by first | decide | omega)).trans (e130 13 1 (by first | decide | omega))))).trans (y15)
              · intro z
                rw [sgL_o (by first | decide | omega) (by first | decide | omega) (by first | decide | omega) (by first | decide | omega)] at z
                rw [sgL_o (by first | decide | omega) (by first | decide | omega) (by first | decide | omega) (by first | decide | omega)]; exact ((e153 14 1 (by first | decide | omega)).trans ((e144 14 1 (by first | decide | omega)).trans ((e136 14 1 (by first | decide | omega)).trans (e130 14 1 (by first | decide | omega))))).trans (y13 z)
        · refine gx_2f (c := .eq) rfl (by first | decide | omega) (by first | decide | omega) hc29 rfl ?_
          refine ex_go (S := (60, [(4, .inl 0), (0, gx_r 8), (1, gx_r 191), (2, .inl 1), (3, .inl v)], [.inl 4294967295], t0, n, 0)) rfl (fun _ => rfl) rfl ?_
          refine ex_ret (r := (some (.inl 4294967295), t0, n, 0)) rfl (fun _ => rfl) ?_
          exact ⟨_, rfl, _, t0, rfl, g0, (fun _ _ _ => rfl), (fun z => by rw [hml] at z; omega), fun _ => ⟨rfl, rfl⟩⟩
  · have hS9 := hS
    have hb9 := hb
    obtain ⟨hb1, ⟨hb7, hb8⟩, ⟨hb11, hb12⟩, ⟨hb13, hb14⟩, ⟨hb15, hb16⟩, hb0, hbo9, hb10⟩ := hb9
    have hT := hw.1.2.2.1
    have hK := hw.1.2.2.2.2.1
    obtain ⟨x7_1, x9_1, x11_1, x15_1, x13_1⟩ := hS9.2.2 1 (by first | decide | omega)
    have x13_1 : σ 12 = 1 → ai_hv t0 14 1 = some (.inl (σ 14)) := x13_1
    have w3_1 := (hC.2.2.1 1 (by first | decide | omega)).1
    have hs1 := (hw.2.1 1 (by first | decide | omega)).1
    have hp1 := hb1 (w 3 1) (by first | decide | omega)
    refine en_u_ex (d := d + 1) rfl ?_
    show en_ex _ _ _ _ (0, [(0, gx_r 8), (1, gx_r 191), (2, .inl 1), (3, .inl v)], [], t0, n, 0) _
    refine ex_go (S := (1, [(0, gx_r 8), (1, gx_r 191), (2, .inl 1), (3, .inl v)], [.inl 1], t0, n, 0)) rfl (fun _ => rfl) rfl ?_
    refine ex_go (S := (2, [(0, gx_r 8), (1, gx_r 191), (2, .inl 1), (3, .inl v)], [.inl 1, .inl 1], t0, n, 0)) rfl (fun _ => rfl) rfl ?_
    refine ex_go (S := (3, [(0, gx_r 8), (1, gx_r 191), (2, .inl 1), (3, .inl v)], [.inl 0], t0, n, 0)) rfl (fun _ => rfl) rfl ?_
    refine ex_go (S := (5, [(4, .inl 0), (0, gx_r 8), (1, gx_r 191), (2, .inl 1), (3, .inl v)], [], t0, n, 0)) rfl (fun _ => rfl) rfl ?_
    refine ex_go (S := (6, [(4, .inl 0), (0, gx_r 8), (1, gx_r 191), (2, .inl 1), (3, .inl v)], [gx_r 191], t0, n, 0)) rfl (fun _ => rfl) rfl ?_
    refine gxo_ref (a := 191) (c := 206) rfl g0 rfl rfl rfl rfl rfl ?_
    refine ex_go (S := (11, [(4, .inl 0), (0, gx_r 8), (1, gx_r 191), (2, .inl 1), (3, .inl v)], [.inl 0, gx_r 206], t0, n, 0)) rfl (fun _ => rfl) rfl ?_
    obtain ⟨_, r121, b121, rfl, hb121, hi121⟩ := pz_holds206 d n (x := 0) (K := w 0 4) g0 (by decide) hC.1.2.2.2.2.2 (by first | decide | omega)
    refine gx_callo (a := 206) rfl rfl g0 rfl rfl rfl r121 rfl ?_
    show en_ex _ _ _ _ (14, [(4, .inl 0), (0, gx_r 8), (1, gx_r 191), (2, .inl 1), (3, .inl v)], [.inl b121], t0, n, 0) _
    refine gx_1t (c := .eq) rfl (by first | decide | omega) (show b121 = 0 from by omega) rfl ?_
    refine ex_go (S := (60, [(4, .inl 0), (0, gx_r 8), (1, gx_r 191), (2, .inl 1), (3, .inl v)], [.inl 4294967295], t0, n, 0)) rfl (fun _ => rfl) rfl ?_
    refine ex_ret (r := (some (.inl 4294967295), t0, n, 0)) rfl (fun _ => rfl) ?_
    exact ⟨_, rfl, _, t0, rfl, g0, (fun _ _ _ => rfl), (fun z => by rw [hml] at z; omega), fun _ => ⟨rfl, rfl⟩⟩
theorem sc_bi8_191_1 (d n : Nat) {t0 : en_H} {w : Nat → Nat → Nat} {L : List Nat} {σ : Nat → Nat} (g0 : ai_HG ah_G t0) (hC : CW t0 191 w L) (hw : WS w) (hb : sbd σ) (hS : SC t0 8 (w 0 2) (w 0 4) σ) (hc : 1 < w 0 4) : ∃ r, en_u (d + 1) 202 [gx_r 8, gx_r 191, .inl 1] t0 n = some r ∧ ∃ y t', r = (some (.inl y), t', n, 0) ∧ ai_HG ah_G t' ∧ (∀ c i, ¬ c = 12 → ai_hv t' c i = ai_hv t0 c i) ∧ y ≤ 1 ∧ (y = 1 → mayM w σ 1 ∧ SC t' 8 (w 0 2) (w 0 4) (sgM' σ 1)) ∧ (y = 0 → ¬ mayM w σ 1 ∧ t' = t0) := by
  have hml : mayM w σ 1 ↔ (σ 12 = 1 ∧ σ 14 = σ (1 + w 3 1)) := Iff.rfl
  have hS9 := hS
  have hb9 := hb
  obtain ⟨hb1, ⟨hb7, hb8⟩, ⟨hb11, hb12⟩, ⟨hb13, hb14⟩, ⟨hb15, hb16⟩, hb0, hbo9, hb10⟩ := hb9
  have hT := hw.1.2.2.1
  have hK := hw.1.2.2.2.2.1
  obtain ⟨x7_1, x9_1, x11_1, x15_1, x13_1⟩ := hS9.2.2 1 (by first | decide | omega)
  have x13_1 : σ 12 = 1 → ai_hv t0 14 1 = some (.inl (σ 14)) := x13_1
  have w3_1 := (hC.2.2.1 1 (by first | decide | omega)).1
  have hs1 := (hw.2.1 1 (by first | decide | omega)).1
  have hp1 := hb1 (w 3 1) (by first | decide | omega)
  refine en_u_ex rfl ?_
  show en_ex _ _ _ _ (0, [(0, gx_r 8), (1, gx_r 191), (2, .inl 1)], [], t0, n, 0) _
  refine ex_go (S := (1, [(0, gx_r 8), (1, gx_r 191), (2, .inl 1)], [gx_r 8], t0, n, 0)) rfl (fun _ => rfl) rfl ?_
  refine gxo_ref (a := 8) (c := 12) rfl g0 rfl rfl rfl rfl rfl ?_
  refine ex_go (S := (5, [(0, gx_r 8), (1, gx_r 191), (2, .inl 1)], [.inl 1, gx_r 12], t0, n, 0)) rfl (fun _ => rfl) rfl ?_
  have k21 : ai_hv t0 12 1 = some (.inl (σ 12)) := x11_1
  refine gx_ag (v := .inl (σ 12)) (cb := fun c => Nat.beq c 2 || Nat.beq c 1) rfl (fun _ => rfl) g0 rfl rfl k21 (by first | decide | omega) rfl ?_
  by_cases hc22 : σ 12 = 0
  · refine gx_1t (c := .eq) rfl (by first | decide | omega) hc22 rfl ?_
    refine ex_go (S := (33, [(0, gx_r 8), (1, gx_r 191), (2, .inl 1)], [.inl 0], t0, n, 0)) rfl (fun _ => rfl) rfl ?_
    refine ex_ret (r := (some (.inl 0), t0, n, 0)) rfl (fun _ => rfl) ?_
    exact ⟨_, rfl, 0, t0, rfl, g0, (fun _ _ _ => rfl), by decide, (fun z => absurd z (by decide)), fun _ => ⟨fun z => by rw [hml] at z; omega, rfl⟩⟩
  · refine gx_1f (c := .eq) rfl (by first | decide | omega) hc22 rfl ?_
    refine ex_go (S := (10, [(0, gx_r 8), (1, gx_r 191), (2, .inl 1)], [gx_r 8], t0, n, 0)) rfl (fun _ => rfl) rfl ?_
    refine gxo_ref (a := 8) (c := 14) rfl g0 rfl rfl rfl rfl rfl ?_
    refine ex_go (S := (14, [(0, gx_r 8), (1, gx_r 191), (2, .inl 1)], [.inl 1, gx_r 14], t0, n, 0)) rfl (fun _ => rfl) rfl ?_
    have k23 : ai_hv t0 14 1 = some (.inl (σ 14)) := x13_1 (by first | decide | omega)
    refine gx_ag (v := .inl (σ 14)) (cb := fun c => Nat.beq c 0) rfl (fun _ => rfl) g0 rfl rfl k23 (by first | decide | omega) rfl ?_
    refine ex_go (S := (16, [(0, gx_r 8), (1, gx_r 191), (2, .inl 1)], [gx_r 8, .inl (σ 14)], t0, n, 0)) rfl (fun _ => rfl) rfl ?_
    refine gxo_ref (a := 8) (c := 9) rfl g0 rfl rfl rfl rfl rfl ?_
    refine ex_go (S := (20, [(0, gx_r 8), (1, gx_r 191), (2, .inl 1)], [gx_r 191, gx_r 9, .inl (σ 14)], t0, n, 0)) rfl (fun _ => rfl) rfl ?_
    refine gxo_ref (a := 191) (c := 206) rfl g0 rfl rfl rfl rfl rfl ?_
    refine gxo_ref (a := 206) (c := 208) rfl g0 rfl rfl rfl rfl rfl ?_
    refine ex_go (S := (27, [(0, gx_r 8), (1, gx_r 191), (2, .inl 1)], [.inl 1, gx_r 208, gx_r 9, .inl (σ 14)], t0, n, 0)) rfl (fun _ => rfl) rfl ?_
    have k24 : ai_hv t0 208 1 = some (.inl (w 3 1)) := w3_1
    refine gx_ag (v := .inl (w 3 1)) (cb := fun c => Nat.beq c 0) rfl (fun _ => rfl) g0 rfl rfl k24 (by first | decide | omega) rfl ?_
    have k25 : ai_hv t0 9 (w 3 1) = some (.inl (σ (1 + w 3 1))) := hS.2.1 _ (by first | decide | omega)
    refine gx_ag (v := .inl (σ (1 + w 3 1))) (cb := fun c => Nat.beq c 0) rfl (fun _ => rfl) g0 rfl rfl k25 (by first | decide | omega) rfl ?_
    by_cases hc26 : σ 14 = σ (1 + w 3 1)
    · refine gx_2t (c := .eq) rfl (by first | decide | omega) (by first | decide | omega) hc26 rfl ?_
      refine ex_go (S := (35, [(0, gx_r 8), (1, gx_r 191), (2, .inl 1)], [gx_r 8], t0, n, 0)) rfl (fun _ => rfl) rfl ?_
      refine gxo_ref (a := 8) (c := 12) rfl g0 rfl rfl rfl rfl rfl ?_
      refine ex_go (S := (39, [(0, gx_r 8), (1, gx_r 191), (2, .inl 1)], [.inl 1, gx_r 12], t0, n, 0)) rfl (fun _ => rfl) rfl ?_
      refine ex_go (S := (40, [(0, gx_r 8), (1, gx_r 191), (2, .inl 1)], [.inl 0, .inl 1, gx_r 12], t0, n, 0)) rfl (fun _ => rfl) rfl ?_
      refine gx_apv (d := 2) rfl (fun _ => rfl) g0 rfl rfl rfl (show 1 < 2 from by omega) rfl (ai_in_h (by first | decide | omega) (by first | decide | omega) (by first | decide | omega)) rfl (fun t127 g127 k127 e127 => ?_)
      have k28 : ai_hv t127 14 1 = some (.inl (σ 14)) := (e127 14 1 (by first | decide | omega)).trans k23
      have k29 : ai_hv t127 208 1 = some (.inl (w 3 1)) := (e127 208 1 (by first | decide | omega)).trans k24
      have k30 : ai_hv t127 9 (w 3 1) = some (.inl (σ (1 + w 3 1))) := (e127 9 (w 3 1) (by first | decide | omega)).trans k25
      refine ex_go (S := (42, [(0, gx_r 8), (1, gx_r 191), (2, .inl 1)], [.inl 1], t127, n, 0)) rfl (fun _ => rfl) rfl ?_
      refine ex_ret (r := (some (.inl 1), t127, n, 0)) rfl (fun _ => rfl) ?_
      refine ⟨_, rfl, 1, t127, rfl, g127, (fun c i h => e127 c i (by first | decide | omega)), by decide, (fun _ => ⟨by rw [hml]; omega, ?_⟩), fun z => absurd z (by decide)⟩
      refine ⟨?_, fun i hi => ?_, fun c9 hc9 => ?_⟩
      · rw [sgM_o (by first | decide | omega)]; exact (e127 8 0 (by first | decide | omega)).trans (hS.1)
      · rw [sgM_o (by first | decide | omega)]; exact (e127 9 i (by first | decide | omega)).trans (hS.2.1 i hi)
      · rcases (show c9 = 0 ∨ c9 = 1 by omega) with rfl | rfl
        · obtain ⟨y7, y9, y11, y15, y13⟩ := hS.2.2 0 hc9
          refine ⟨?_, ?_, ?_, ?_, ?_⟩
          · rw [sgM_o (by first | decide | omega)]; exact (e127 10 0 (by first | decide | omega)).trans (y7)
          · rw [sgM_o (by first | decide | omega)]; exact (e127 11 0 (by first | decide | omega)).trans (y9)
          · rw [sgM_o (by first | decide | omega)]; exact (e127 12 0 (by first | decide | omega)).trans (y11)
          · rw [sgM_o (by first | decide | omega)]; exact (e127 13 0 (by first | decide | omega)).trans (y15)
          · intro z
            rw [sgM_o (by first | decide | omega)] at z
            rw [sgM_o (by first | decide | omega)]; exact (e127 14 0 (by first | decide | omega)).trans (y13 z)
        · obtain ⟨y7, y9, y11, y15, y13⟩ := hS.2.2 1 hc9
          refine ⟨?_, ?_, ?_, ?_, ?_⟩
          · rw [sgM_o (by first | decide | omega)]; exact (e127 10 1 (by first | decide | omega)).trans (y7)
          · rw [sgM_o (by first | decide | omega)]; exact (e127 11 1 (by first | decide | omega)).trans (y9)
          · rw [sgM_11]; exact k127
          · rw [sgM_o (by first | decide | omega)]; exact (e127 13 1 (by first | decide | omega)).trans (y15)
          · intro z; rw [sgM_11] at z; exact absurd z (by decide)
    · refine gx_2f (c := .eq) rfl (by first | decide | omega) (by first | decide | omega) hc26 rfl ?_
      refine ex_go (S := (33, [(0, gx_r 8), (1, gx_r 191), (2, .inl 1)], [.inl 0], t0, n, 0)) rfl (fun _ => rfl) rfl ?_
      refine ex_ret (r := (some (.inl 0), t0, n, 0)) rfl (fun _ => rfl) ?_
      exact ⟨_, rfl, 0, t0, rfl, g0, (fun _ _ _ => rfl), by decide, (fun z => absurd z (by decide)), fun _ => ⟨fun z => by rw [hml] at z; omega, rfl⟩⟩
theorem sc_hs8_191 (d n : Nat) {t0 : en_H} {w : Nat → Nat → Nat} {L : List Nat} {σ : Nat → Nat} {c : Nat} {to : Nat} (g0 : ai_HG ah_G t0) (hC : CW t0 191 w L) (hw : WS w) (hb : sbd σ) (hS : SC t0 8 (w 0 2) (w 0 4) σ) (hX : CX t0 191 w) (hB : σ 0 ≤ 900000) (hc : c < w 0 4) (ht : to < 64) : ∃ r, en_u (d + 4) 200 [gx_r 8, gx_r 191, .inl c, .inl to] t0 n = some r ∧ ∃ v t', r = (some (.inl v), t', n, 0) ∧ ai_HG ah_G t' ∧ (∀ c i, ¬ (c = 12 ∨ c = 13 ∨ c = 14) → ai_hv t' c i = ai_hv t0 c i) ∧ v ≤ 1 ∧ (v = 1 → mayH w σ c to ∧ SC t' 8 (w 0 2) (w 0 4) (sgH σ c to)) ∧ (v = 0 → ¬ mayH w σ c to ∧ t' = t0) := by
  have hK := hw.1.2.2.2.2.1
  rcases (show c = 0 ∨ c = 1 by omega) with rfl | rfl
  · exact sc_hs8_191_0 d n g0 hC hw hb hS hX hB hc ht
  · exact sc_hs8_191_1 d n g0 hC hw hb hS hX hB hc ht
theorem sc_lb8_191 (d n : Nat) {t0 : en_H} {w : Nat → Nat → Nat} {L : List Nat} {σ : Nat → Nat} {c : Nat} {v : Nat} (g0 : ai_HG ah_G t0) (hC : CW t0 191 w L) (hw : WS w) (hb : sbd σ) (hS : SC t0 8 (w 0 2) (w 0 4) σ) (hsum : σ 7 + σ 8 ≤ 19998) (hc : c < w 0 4) (hv : v ≤ 999) : ∃ r, en_u (d + 2) 201 [gx_r 8, gx_r 191, .inl c, .inl v] t0 n = some r ∧ ∃ y t', r = (some (.inl y), t', n, 0) ∧ ai_HG ah_G t' ∧ (∀ c i, ¬ (c = 10 ∨ c = 11) → ai_hv t' c i = ai_hv t0 c i) ∧ (mayL w σ c → y = lnv σ c v ∧ SC t' 8 (w 0 2) (w 0 4) (sgL σ c v)) ∧ (¬ mayL w σ c → y = 4294967295 ∧ t' = t0) := by
  have hK := hw.1.2.2.2.2.1
  rcases (show c = 0 ∨ c = 1 by omega) with rfl | rfl
  · exact sc_lb8_191_0 d n g0 hC hw hb hS hsum hc hv
  · exact sc_lb8_191_1 d n g0 hC hw hb hS hsum hc hv
theorem sc_bi8_191 (d n : Nat) {t0 : en_H} {w : Nat → Nat → Nat} {L : List Nat} {σ : Nat → Nat} {c : Nat} (g0 : ai_HG ah_G t0) (hC : CW t0 191 w L) (hw : WS w) (hb : sbd σ) (hS : SC t0 8 (w 0 2) (w 0 4) σ) (hc : c < w 0 4) : ∃ r, en_u (d + 1) 202 [gx_r 8, gx_r 191, .inl c] t0 n = some r ∧ ∃ y t', r = (some (.inl y), t', n, 0) ∧ ai_HG ah_G t' ∧ (∀ c i, ¬ c = 12 → ai_hv t' c i = ai_hv t0 c i) ∧ y ≤ 1 ∧ (y = 1 → mayM w σ c ∧ SC t' 8 (w 0 2) (w 0 4) (sgM' σ c)) ∧ (y = 0 → ¬ mayM w σ c ∧ t' = t0) := by
  have hK := hw.1.2.2.2.2.1
  rcases (show c = 0 ∨ c = 1 by omega) with rfl | rfl
  · exact sc_bi8_191_0 d n g0 hC hw hb hS hc
  · exact sc_bi8_191_1 d n g0 hC hw hb hS hc
theorem sc_sled8_257_0 (d n : Nat) {t0 : en_H} {w : Nat → Nat → Nat} {L : List Nat} {σ : Nat → Nat} (g0 : ai_HG ah_G t0) (hC : CW t0 257 w L) (hw : WS w) (hb : sbd σ) (hS : SC t0 8 (w 0 2) (w 0 4) σ) (hc : 0 < w 0 4) : ∃ r, en_u (d + 1) 172 [gx_r 8, gx_r 257, .inl 0] t0 n = some r ∧ r = (some (.inl (slp w σ 0)), t0, n, 0) := by
  have hS9 := hS
  have hb9 := hb
  obtain ⟨hb1, ⟨hb7, hb8⟩, ⟨hb11, hb12⟩, ⟨hb13, hb14⟩, ⟨hb15, hb16⟩, hb0, hbo9, hb10⟩ := hb9
  have hT := hw.1.2.2.1
  have hK := hw.1.2.2.2.2.1
  obtain ⟨x7_0, x9_0, x11_0, x15_0, x13_0⟩ := hS9.2.2 0 (by first | decide | omega)
  have x13_0 : σ 11 = 1 → ai_hv t0 14 0 = some (.inl (σ 13)) := x13_0
  have w3_0 := (hC.2.2.1 0 (by first | decide | omega)).1
  have hs0 := (hw.2.1 0 (by first | decide | omega)).1
  have hp0 := hb1 (w 3 0) (by first | decide | omega)
  have hsl : slp w σ 0 = if σ 11 = 1 then σ 13 else σ (1 + w 3 0) := rfl
  refine en_u_ex rfl ?_
  show en_ex _ _ _ _ (0, [(0, gx_r 8), (1, gx_r 257), (2, .inl 0)], [], t0, n, 0) _
  refine ex_go (S := (1, [(0, gx_r 8), (1, gx_r 257), (2, .inl 0)], [gx_r 8], t0, n, 0)) rfl (fun _ => rfl) rfl ?_
  refine gxo_ref (a := 8) (c := 12) rfl g0 rfl rfl rfl rfl rfl ?_
  refine ex_go (S := (5, [(0, gx_r 8), (1, gx_r 257), (2, .inl 0)], [.inl 0, gx_r 12], t0, n, 0)) rfl (fun _ => rfl) rfl ?_
  have k21 : ai_hv t0 12 0 = some (.inl (σ 11)) := x11_0
  refine gx_ag (v := .inl (σ 11)) (cb := fun c => Nat.beq c 2 || Nat.beq c 1) rfl (fun _ => rfl) g0 rfl rfl k21 (by first | decide | omega) rfl ?_
  by_cases hc22 : σ 11 = 0
  · refine gx_1t (c := .eq) rfl (by first | decide | omega) hc22 rfl ?_
    refine ex_go (S := (19, [(0, gx_r 8), (1, gx_r 257), (2, .inl 0)], [gx_r 8], t0, n, 0)) rfl (fun _ => rfl) rfl ?_
    refine gxo_ref (a := 8) (c := 9) rfl g0 rfl rfl rfl rfl rfl ?_
    refine ex_go (S := (23, [(0, gx_r 8), (1, gx_r 257), (2, .inl 0)], [gx_r 257, gx_r 9], t0, n, 0)) rfl (fun _ => rfl) rfl ?_
    refine gxo_ref (a := 257) (c := 272) rfl g0 rfl rfl rfl rfl rfl ?_
    refine gxo_ref (a := 272) (c := 274) rfl g0 rfl rfl rfl rfl rfl ?_
    refine ex_go (S := (30, [(0, gx_r 8), (1, gx_r 257), (2, .inl 0)], [.inl 0, gx_r 274, gx_r 9], t0, n, 0)) rfl (fun _ => rfl) rfl ?_
    have k23 : ai_hv t0 274 0 = some (.inl (w 3 0)) := w3_0
    refine gx_ag (v := .inl (w 3 0)) (cb := fun c => Nat.beq c 0) rfl (fun _ => rfl) g0 rfl rfl k23 (by first | decide | omega) rfl ?_
    have k24 : ai_hv t0 9 (w 3 0) = some (.inl (σ (1 + w 3 0))) := hS.2.1 _ (by first | decide | omega)
    refine gx_ag (v := .inl (σ (1 + w 3 0))) (cb := fun c => Nat.beq c 0) rfl (fun _ => rfl) g0 rfl rfl k24 (by first | decide | omega) rfl ?_
    refine ex_ret (r := (some (.inl (σ (1 + w 3 0))), t0, n, 0)) rfl (fun _ => rfl) ?_
    have e9 : slp w σ 0 = σ (1 + w 3 0) := by rw [hsl, if_neg (by first | decide | omega)]
    exact ⟨_, rfl, by rw [e9]⟩
  · refine gx_1f (c := .eq) rfl (by first | decide | omega) hc22 rfl ?_
    refine ex_go (S := (10, [(0, gx_r 8), (1, gx_r 257), (2, .inl 0)], [gx_r 8], t0, n, 0)) rfl (fun _ => rfl) rfl ?_
    refine gxo_ref (a := 8) (c := 14) rfl g0 rfl rfl rfl rfl rfl ?_
    refine ex_go (S := (14, [(0, gx_r 8), (1, gx_r 257), (2, .inl 0)], [.inl 0, gx_r 14], t0, n, 0)) rfl (fun _ => rfl) rfl ?_
    have k25 : ai_hv t0 14 0 = some (.inl (σ 13)) := x13_0 (by first | decide | omega)
    refine gx_ag (v := .inl (σ 13)) (cb := fun c => Nat.beq c 0) rfl (fun _ => rfl) g0 rfl rfl k25 (by first | decide | omega) rfl ?_
    refine ex_go (S := (32, [(0, gx_r 8), (1, gx_r 257), (2, .inl 0)], [.inl (σ 13)], t0, n, 0)) rfl (fun _ => rfl) rfl ?_
    refine ex_ret (r := (some (.inl (σ 13)), t0, n, 0)) rfl (fun _ => rfl) ?_
    have e9 : slp w σ 0 = σ 13 := by rw [hsl, if_pos (by first | decide | omega)]
    exact ⟨_, rfl, by rw [e9]⟩
theorem sc_hs8_257_0 (d n : Nat) {t0 : en_H} {w : Nat → Nat → Nat} {L : List Nat} {σ : Nat → Nat} {to : Nat} (g0 : ai_HG ah_G t0) (hC : CW t0 257 w L) (hw : WS w) (hb : sbd σ) (hS : SC t0 8 (w 0 2) (w 0 4) σ) (hX : CX t0 257 w) (hB : σ 0 ≤ 900000) (hc : 0 < w 0 4) (ht : to < 64) : ∃ r, en_u (d + 4) 200 [gx_r 8, gx_r 257, .inl 0, .inl to] t0 n = some r ∧ ∃ v t', r = (some (.inl v), t', n, 0) ∧ ai_HG ah_G t' ∧ (∀ c i, ¬ (c = 12 ∨ c = 13 ∨ c = 14) → ai_hv t' c i = ai_hv t0 c i) ∧ v ≤ 1 ∧ (v = 1 → mayH w σ 0 to ∧ SC t' 8 (w 0 2) (w 0 4) (sgH σ 0 to)) ∧ (v = 0 → ¬ mayH w σ 0 to ∧ t' = t0) := by
  have hsp := slp_lt hw hb hc
  have hS9 := hS
  have hb9 := hb
  obtain ⟨hb1, ⟨hb7, hb8⟩, ⟨hb11, hb12⟩, ⟨hb13, hb14⟩, ⟨hb15, hb16⟩, hb0, hbo9, hb10⟩ := hb9
  have hT := hw.1.2.2.1
  have hK := hw.1.2.2.2.2.1
  obtain ⟨x7_0, x9_0, x11_0, x15_0, x13_0⟩ := hS9.2.2 0 (by first | decide | omega)
  have x13_0 : σ 11 = 1 → ai_hv t0 14 0 = some (.inl (σ 13)) := x13_0
  have w3_0 := (hC.2.2.1 0 (by first | decide | omega)).1
  have hs0 := (hw.2.1 0 (by first | decide | omega)).1
  have hp0 := hb1 (w 3 0) (by first | decide | omega)
  refine en_u_ex (d := d + 3) rfl ?_
  show en_ex _ _ _ _ (0, [(0, gx_r 8), (1, gx_r 257), (2, .inl 0), (3, .inl to)], [], t0, n, 0) _
  refine ex_go (S := (1, [(0, gx_r 8), (1, gx_r 257), (2, .inl 0), (3, .inl to)], [gx_r 8], t0, n, 0)) rfl (fun _ => rfl) rfl ?_
  refine ex_go (S := (2, [(0, gx_r 8), (1, gx_r 257), (2, .inl 0), (3, .inl to)], [gx_r 257, gx_r 8], t0, n, 0)) rfl (fun _ => rfl) rfl ?_
  refine ex_go (S := (3, [(0, gx_r 8), (1, gx_r 257), (2, .inl 0), (3, .inl to)], [.inl 0, gx_r 257, gx_r 8], t0, n, 0)) rfl (fun _ => rfl) rfl ?_
  obtain ⟨_, r21, rfl⟩ := sc_sled8_257_0 (d + 2) n g0 hC hw hb hS hc
  refine gx_callo (a := 8) rfl rfl g0 rfl rfl rfl r21 rfl ?_
  show en_ex _ _ _ _ (6, [(0, gx_r 8), (1, gx_r 257), (2, .inl 0), (3, .inl to)], [.inl (slp w σ 0)], t0, n, 0) _
  refine ex_go (S := (8, [(4, .inl (slp w σ 0)), (0, gx_r 8), (1, gx_r 257), (2, .inl 0), (3, .inl to)], [], t0, n, 0)) rfl (fun _ => rfl) rfl ?_
  refine ex_go (S := (9, [(4, .inl (slp w σ 0)), (0, gx_r 8), (1, gx_r 257), (2, .inl 0), (3, .inl to)], [gx_r 8], t0, n, 0)) rfl (fun _ => rfl) rfl ?_
  refine gxo_ref (a := 8) (c := 13) rfl g0 rfl rfl rfl rfl rfl ?_
  refine ex_go (S := (13, [(4, .inl (slp w σ 0)), (0, gx_r 8), (1, gx_r 257), (2, .inl 0), (3, .inl to)], [.inl 0, gx_r 13], t0, n, 0)) rfl (fun _ => rfl) rfl ?_
  have k22 : ai_hv t0 13 0 = some (.inl (σ 15)) := x15_0
  refine gx_ag (v := .inl (σ 15)) (cb := fun c => Nat.beq c 2 || Nat.beq c 1) rfl (fun _ => rfl) g0 rfl rfl k22 (by first | decide | omega) rfl ?_
  by_cases hc23 : σ 15 ≠ 0
  · refine gx_1t (c := .ne) rfl (by first | decide | omega) hc23 rfl ?_
    refine ex_go (S := (44, [(4, .inl (slp w σ 0)), (0, gx_r 8), (1, gx_r 257), (2, .inl 0), (3, .inl to)], [.inl 0], t0, n, 0)) rfl (fun _ => rfl) rfl ?_
    refine ex_ret (r := (some (.inl 0), t0, n, 0)) rfl (fun _ => rfl) ?_
    exact ⟨_, rfl, 0, t0, rfl, g0, (fun _ _ _ => rfl), by decide, (fun z => absurd z (by decide)), fun _ => ⟨fun z => by
      obtain ⟨z1, z2, -⟩ := z
      have z1 : ¬ σ 15 = 1 := z1
      omega, rfl⟩⟩
  · refine gx_1f (c := .ne) rfl (by first | decide | omega) hc23 rfl ?_
    refine ex_go (S := (18, [(4, .inl (slp w σ 0)), (0, gx_r 8), (1, gx_r 257), (2, .inl 0), (3, .inl to)], [.inl to], t0, n, 0)) rfl (fun _ => rfl) rfl ?_
    refine ex_go (S := (20, [(4, .inl (slp w σ 0)), (0, gx_r 8), (1, gx_r 257), (2, .inl 0), (3, .inl to)], [.inl (slp w σ 0), .inl to], t0, n, 0)) rfl (fun _ => rfl) rfl ?_
    by_cases hc24 : to = slp w σ 0
    · refine gx_2t (c := .eq) rfl (by first | decide | omega) (by first | decide | omega) hc24 rfl ?_
      refine ex_go (S := (44, [(4, .inl (slp w σ 0)), (0, gx_r 8), (1, gx_r 257), (2, .inl 0), (3, .inl to)], [.inl 0], t0, n, 0)) rfl (fun _ => rfl) rfl ?_
      refine ex_ret (r := (some (.inl 0), t0, n, 0)) rfl (fun _ => rfl) ?_
      exact ⟨_, rfl, 0, t0, rfl, g0, (fun _ _ _ => rfl), by decide, (fun z => absurd z (by decide)), fun _ => ⟨fun z => by
        obtain ⟨z1, z2, -⟩ := z
        have z1 : ¬ σ 15 = 1 := z1
        omega, rfl⟩⟩
    · refine gx_2f (c := .eq) rfl (by first | decide | omega) (by first | decide | omega) hc24 rfl ?_
      refine ex_go (S := (24, [(4, .inl (slp w σ 0)), (0, gx_r 8), (1, gx_r 257), (2, .inl 0), (3, .inl to)], [gx_r 257], t0, n, 0)) rfl (fun _ => rfl) rfl ?_
      refine ex_go (S := (26, [(4, .inl (slp w σ 0)), (0, gx_r 8), (1, gx_r 257), (2, .inl 0), (3, .inl to)], [.inl (slp w σ 0), gx_r 257], t0, n, 0)) rfl (fun _ => rfl) rfl ?_
      obtain ⟨_, r25, rfl⟩ := pz_bit (d + 2) n (t0 := t0) (x := slp w σ 0) (by first | decide | omega)
      refine ex_stat rfl rfl rfl rfl rfl r25 (Nat.le_refl _) rfl ?_
      show en_ex _ _ _ _ (29, [(4, .inl (slp w σ 0)), (0, gx_r 8), (1, gx_r 257), (2, .inl 0), (3, .inl to)], [.inr (.inl (2 ^ (slp w σ 0))), gx_r 257], t0, n, 0) _
      refine ex_go (S := (30, [(4, .inl (slp w σ 0)), (0, gx_r 8), (1, gx_r 257), (2, .inl 0), (3, .inl to)], [gx_r 8, .inr (.inl (2 ^ (slp w σ 0))), gx_r 257], t0, n, 0)) rfl (fun _ => rfl) rfl ?_
      refine gxo_get (a := 8) rfl g0 rfl rfl hS.1 rfl ?_
      obtain ⟨_, r1, y, rfl, hy⟩ := sc_hauled257 d n (H := fun q => decide (q = slp w σ 0)) (s := σ 0) (x := 2 ^ slp w σ 0) g0 hC hX hw (by first | decide | omega) (bts_mk (sz_two hsp) (fun j hj => by rw [Nat.testBit_two_pow, decide_eq_decide]; exact eq_comm))
      refine gx_callo (a := 257) rfl rfl g0 rfl rfl rfl r1 rfl ?_
      show en_ex _ _ _ _ (36, [(4, .inl (slp w σ 0)), (0, gx_r 8), (1, gx_r 257), (2, .inl 0), (3, .inl to)], [.inr (.inl y)], t0, n, 0) _
      refine ex_go (S := (37, [(4, .inl (slp w σ 0)), (0, gx_r 8), (1, gx_r 257), (2, .inl 0), (3, .inl to)], [.inl to, .inr (.inl y)], t0, n, 0)) rfl (fun _ => rfl) rfl ?_
      obtain ⟨_, r26, rfl⟩ := pz_has (d + 1) n (t0 := t0) (x := y) (k := to) hy.1 ht
      have hbt := bts_at hy ht
      have hbv := bv_le (b := y.testBit to)
      refine ex_stat rfl rfl rfl rfl rfl r26 (Nat.le_refl _) rfl ?_
      show en_ex _ _ _ _ (40, [(4, .inl (slp w σ 0)), (0, gx_r 8), (1, gx_r 257), (2, .inl 0), (3, .inl to)], [.inl (bv (y.testBit to))], t0, n, 0) _
      by_cases hc27 : bv (y.testBit to) ≠ 0
      · refine gx_1t (c := .ne) rfl (by first | decide | omega) hc27 rfl ?_
        refine ex_go (S := (46, [(4, .inl (slp w σ 0)), (0, gx_r 8), (1, gx_r 257), (2, .inl 0), (3, .inl to)], [gx_r 8], t0, n, 0)) rfl (fun _ => rfl) rfl ?_
        refine gxo_ref (a := 8) (c := 12) rfl g0 rfl rfl rfl rfl rfl ?_
        refine ex_go (S := (50, [(4, .inl (slp w σ 0)), (0, gx_r 8), (1, gx_r 257), (2, .inl 0), (3, .inl to)], [.inl 0, gx_r 12], t0, n, 0)) rfl (fun _ => rfl) rfl ?_
        refine ex_go (S := (51, [(4, .inl (slp w σ 0)), (0, gx_r 8), (1, gx_r 257), (2, .inl 0), (3, .inl to)], [.inl 1, .inl 0, gx_r 12], t0, n, 0)) rfl (fun _ => rfl) rfl ?_
        refine gx_apv (d := 2) rfl (fun _ => rfl) g0 rfl rfl rfl (show 0 < 2 from by omega) rfl (ai_in_h (by first | decide | omega) (by first | decide | omega) (by first | decide | omega)) rfl (fun t128 g128 k128 e128 => ?_)
        have k29 : ai_hv t128 8 0 = some (.inl (σ 0)) := (e128 8 0 (by first | decide | omega)).trans hS.1
        have k30 : ai_hv t128 13 0 = some (.inl (σ 15)) := (e128 13 0 (by first | decide | omega)).trans k22
        refine ex_go (S := (53, [(4, .inl (slp w σ 0)), (0, gx_r 8), (1, gx_r 257), (2, .inl 0), (3, .inl to)], [gx_r 8], t128, n, 0)) rfl (fun _ => rfl) rfl ?_
        refine gxo_ref (a := 8) (c := 13) rfl g128 rfl rfl rfl rfl rfl ?_
        refine ex_go (S := (57, [(4, .inl (slp w σ 0)), (0, gx_r 8), (1, gx_r 257), (2, .inl 0), (3, .inl to)], [.inl 0, gx_r 13], t128, n, 0)) rfl (fun _ => rfl) rfl ?_
        refine ex_go (S := (58, [(4, .inl (slp w σ 0)), (0, gx_r 8), (1, gx_r 257), (2, .inl 0), (3, .inl to)], [.inl 1, .inl 0, gx_r 13], t128, n, 0)) rfl (fun _ => rfl) rfl ?_
        refine gx_apv (d := 2) rfl (fun _ => rfl) g128 rfl rfl rfl (show 0 < 2 from by omega) rfl (ai_in_h (by first | decide | omega) (by first | decide | omega) (by first | decide | omega)) rfl (fun t131 g131 k131 e131 => ?_)
        have k32 : ai_hv t131 8 0 = some (.inl (σ 0)) := (e131 8 0 (by first | decide | omega)).trans k29
        have k33 : ai_hv t131 12 0 = some (.inl 1) := (e131 12 0 (by first | decide | omega)).trans k128
        refine ex_go (S := (60, [(4, .inl (slp w σ 0)), (0, gx_r 8), (1, gx_r 257), (2, .inl 0), (3, .inl to)], [gx_r 8], t131, n, 0)) rfl (fun _ => rfl) rfl ?_
        refine gxo_ref (a := 8) (c := 14) rfl g131 rfl rfl rfl rfl rfl ?_
        refine ex_go (S := (64, [(4, .inl (slp w σ 0)), (0, gx_r 8), (1, gx_r 257), (2, .inl 0), (3, .inl to)], [.inl 0, gx_r 14], t131, n, 0)) rfl (fun _ => rfl) rfl ?_
        refine ex_go (S := (65, [(4, .inl (slp w σ 0)), (0, gx_r 8), (1, gx_r 257), (2, .inl 0), (3, .inl to)], [.inl to, .inl 0, gx_r 14], t131, n, 0)) rfl (fun _ => rfl) rfl ?_
        refine gx_ap rfl (fun _ => rfl) g131 rfl rfl rfl (show 0 < 2 from by omega) rfl (ai_in_h (by first | decide | omega) (by first | decide | omega) (by first | decide | omega)) rfl (fun t134 g134 k134 e134 => ?_)
        have k35 : ai_hv t134 8 0 = some (.inl (σ 0)) := (e134 8 0 (by first | decide | omega)).trans k32
        have k36 : ai_hv t134 12 0 = some (.inl 1) := (e134 12 0 (by first | decide | omega)).trans k33
        have k37 : ai_hv t134 13 0 = some (.inl 1) := (e134 13 0 (by first | decide | omega)).trans k131
        refine ex_go (S := (67, [(4, .inl (slp w σ 0)), (0, gx_r 8), (1, gx_r 257), (2, .inl 0), (3, .inl to)], [.inl 1], t134, n, 0)) rfl (fun _ => rfl) rfl ?_
        refine ex_ret (r := (some (.inl 1), t134, n, 0)) rfl (fun _ => rfl) ?_
        refine ⟨_, rfl, 1, t134, rfl, g134, (fun c i h => (e134 c i (by first | decide | omega)).trans ((e131 c i (by first | decide | omega)).trans (e128 c i (by first | decide | omega)))), by decide, (fun _ => ⟨⟨?_, ?_, ?_⟩, ?_⟩), fun z => absurd z (by decide)⟩
        · show ¬ σ 15 = 1
          omega
        · omega
        · rw [← hbt]; exact bv_1 (by first | decide | omega)
        · refine ⟨?_, fun i hi => ?_, fun c9 hc9 => ?_⟩
          · rw [sgH_o (by first | decide | omega) (by first | decide | omega) (by first | decide | omega)]; exact ((e134 8 0 (by first | decide | omega)).trans ((e131 8 0 (by first | decide | omega)).trans (e128 8 0 (by first | decide | omega)))).trans (hS.1)
          · rw [sgH_o (by first | decide | omega) (by first | decide | omega) (by first | decide | omega)]; exact ((e134 9 i (by first | decide | omega)).trans ((e131 9 i (by first | decide | omega)).trans (e128 9 i (by first | decide | omega)))).trans (hS.2.1 i hi)
          · rcases (show c9 = 0 ∨ c9 = 1 by omega) with rfl | rfl
            · obtain ⟨y7, y9, y11, y15, y13⟩ := hS.2.2 0 hc9
              refine ⟨?_, ?_, ?_, ?_, ?_⟩
              · rw [sgH_o (by first | decide | omega) (by first | decide | omega) (by first | decide | omega)]; exact ((e134 10 0 (by first | decide | omega)).trans ((e131 10 0 (by first | decide | omega)).trans (e128 10 0 (by first | decide | omega)))).trans (y7)
              · rw [sgH_o (by first | decide | omega) (by first | decide | omega) (by first | decide | omega)]; exact ((e134 11 0 (by first | decide | omega)).trans ((e131 11 0 (by first | decide | omega)).trans (e128 11 0 (by first | decide | omega)))).trans (y9)
              · rw [sgH_11]; exact k36
              · rw [sgH_15]; exact k37
              · intro _; rw [sgH_13]; exact k134
            · obtain ⟨y7, y9, y11, y15, y13⟩ := hS.2.2 1 hc9
              refine ⟨?_, ?_, ?_, ?_, ?_⟩
              · rw [sgH_o (by first | decide | omega) (by first | decide | omega) (by first | decide | omega)]; exact ((e134 10 1 (by first | decide | omega)).trans ((e131 10 1 (by first | decide | omega)).trans (e128 10 1 (by first | decide | omega)))).trans (y7)
              · rw [sgH_o (by first | decide | omega) (by first | decide | omega) (by first | decide | omega)]; exact ((e134 11 1 (by first | decide | omega)).trans ((e131 11 1 (by first | decide | omega)).trans (e128 11 1 (by first | decide | omega)))).trans (y9)
              · rw [sgH_o (by first | decide | omega) (by first | decide | omega) (by first | decide | omega)]; exact ((e134 12 1 (by first | decide | omega)).trans ((e131 12 1 (by first | decide | omega)).trans (e128 12 1 (by first | decide | omega)))).trans (y11)
              · rw [sgH_o (by first | decide | omega) (by first | decide | omega) (by first | decide | omega)]; exact ((e134 13 1 (by first | decide | omega)).trans ((e131 13 1 (by first | decide | omega)).trans (e128 13 1 (by first | decide | omega)))).trans (y15)
              · intro z
                rw [sgH_o (by first | decide | omega) (by first | decide | omega) (by first | decide | omega)] at z
                rw [sgH_o (by first | decide | omega) (by first | decide | omega) (by first | decide | omega)]; exact ((e134 14 1 (by first | decide | omega)).trans ((e131 14 1 (by first | decide | omega)).trans (e128 14 1 (by first | decide | omega)))).trans (y13 z)
      · refine gx_1f (c := .ne) rfl (by first | decide | omega) hc27 rfl ?_
        refine ex_go (S := (44, [(4, .inl (slp w σ 0)), (0, gx_r 8), (1, gx_r 257), (2, .inl 0), (3, .inl to)], [.inl 0], t0, n, 0)) rfl (fun _ => rfl) rfl ?_
        refine ex_ret (r := (some (.inl 0), t0, n, 0)) rfl (fun _ => rfl) ?_
        exact ⟨_, rfl, 0, t0, rfl, g0, (fun _ _ _ => rfl), by decide, (fun z => absurd z (by decide)), fun _ => ⟨(fun z => by
          have h9 := bv_0 (b := y.testBit to) (by first | decide | omega)
          rw [hbt] at h9
          rw [z.2.2] at h9
          cases h9), rfl⟩⟩
theorem sc_lb8_257_0 (d n : Nat) {t0 : en_H} {w : Nat → Nat → Nat} {L : List Nat} {σ : Nat → Nat} {v : Nat} (g0 : ai_HG ah_G t0) (hC : CW t0 257 w L) (hw : WS w) (hb : sbd σ) (hS : SC t0 8 (w 0 2) (w 0 4) σ) (hsum : σ 7 + σ 8 ≤ 19998) (hc : 0 < w 0 4) (hv : v ≤ 999) : ∃ r, en_u (d + 2) 201 [gx_r 8, gx_r 257, .inl 0, .inl v] t0 n = some r ∧ ∃ y t', r = (some (.inl y), t', n, 0) ∧ ai_HG ah_G t' ∧ (∀ c i, ¬ (c = 10 ∨ c = 11) → ai_hv t' c i = ai_hv t0 c i) ∧ (mayL w σ 0 → y = lnv σ 0 v ∧ SC t' 8 (w 0 2) (w 0 4) (sgL σ 0 v)) ∧ (¬ mayL w σ 0 → y = 4294967295 ∧ t' = t0) := by
  have hml : mayL w σ 0 ↔ (w 0 4 = 2 ∧ σ 11 = 1 ∧ 0 < σ 7 ∧ σ 13 = σ (1 + w 3 1)) := Iff.rfl
  have hlv : lnv σ 0 v = min v (σ 7) := rfl
  by_cases h2 : w 0 4 = 2
  · have hS9 := hS
    have hb9 := hb
    obtain ⟨hb1, ⟨hb7, hb8⟩, ⟨hb11, hb12⟩, ⟨hb13, hb14⟩, ⟨hb15, hb16⟩, hb0, hbo9, hb10⟩ := hb9
    have hT := hw.1.2.2.1
    have hK := hw.1.2.2.2.2.1
    obtain ⟨x7_0, x9_0, x11_0, x15_0, x13_0⟩ := hS9.2.2 0 (by first | decide | omega)
    have x13_0 : σ 11 = 1 → ai_hv t0 14 0 = some (.inl (σ 13)) := x13_0
    have w3_0 := (hC.2.2.1 0 (by first | decide | omega)).1
    have hs0 := (hw.2.1 0 (by first | decide | omega)).1
    have hp0 := hb1 (w 3 0) (by first | decide | omega)
    obtain ⟨x7_1, x9_1, x11_1, x15_1, x13_1⟩ := hS9.2.2 1 (by first | decide | omega)
    have x13_1 : σ 12 = 1 → ai_hv t0 14 1 = some (.inl (σ 14)) := x13_1
    have w3_1 := (hC.2.2.1 1 (by first | decide | omega)).1
    have hs1 := (hw.2.1 1 (by first | decide | omega)).1
    have hp1 := hb1 (w 3 1) (by first | decide | omega)
    refine en_u_ex (d := d + 1) rfl ?_
    show en_ex _ _ _ _ (0, [(0, gx_r 8), (1, gx_r 257), (2, .inl 0), (3, .inl v)], [], t0, n, 0) _
    refine ex_go (S := (1, [(0, gx_r 8), (1, gx_r 257), (2, .inl 0), (3, .inl v)], [.inl 1], t0, n, 0)) rfl (fun _ => rfl) rfl ?_
    refine ex_go (S := (2, [(0, gx_r 8), (1, gx_r 257), (2, .inl 0), (3, .inl v)], [.inl 0, .inl 1], t0, n, 0)) rfl (fun _ => rfl) rfl ?_
    refine ex_go (S := (3, [(0, gx_r 8), (1, gx_r 257), (2, .inl 0), (3, .inl v)], [.inl 1], t0, n, 0)) rfl (fun _ => rfl) rfl ?_
    refine ex_go (S := (5, [(4, .inl 1), (0, gx_r 8), (1, gx_r 257), (2, .inl 0), (3, .inl v)], [], t0, n, 0)) rfl (fun _ => rfl) rfl ?_
    refine ex_go (S := (6, [(4, .inl 1), (0, gx_r 8), (1, gx_r 257), (2, .inl 0), (3, .inl v)], [gx_r 257], t0, n, 0)) rfl (fun _ => rfl) rfl ?_
    refine gxo_ref (a := 257) (c := 272) rfl g0 rfl rfl rfl rfl rfl ?_
    refine ex_go (S := (11, [(4, .inl 1), (0, gx_r 8), (1, gx_r 257), (2, .inl 0), (3, .inl v)], [.inl 1, gx_r 272], t0, n, 0)) rfl (fun _ => rfl) rfl ?_
    obtain ⟨_, r121, b121, rfl, hb121, hi121⟩ := pz_holds272 d n (x := 1) (K := w 0 4) g0 (by decide) hC.1.2.2.2.2.2 (by first | decide | omega)
    refine gx_callo (a := 272) rfl rfl g0 rfl rfl rfl r121 rfl ?_
    show en_ex _ _ _ _ (14, [(4, .inl 1), (0, gx_r 8), (1, gx_r 257), (2, .inl 0), (3, .inl v)], [.inl b121], t0, n, 0) _
    refine gx_1f (c := .eq) rfl (by first | decide | omega) (show ¬ (b121 = 0) from by omega) rfl ?_
    refine ex_go (S := (18, [(4, .inl 1), (0, gx_r 8), (1, gx_r 257), (2, .inl 0), (3, .inl v)], [gx_r 8], t0, n, 0)) rfl (fun _ => rfl) rfl ?_
    refine gxo_ref (a := 8) (c := 12) rfl g0 rfl rfl rfl rfl rfl ?_
    refine ex_go (S := (22, [(4, .inl 1), (0, gx_r 8), (1, gx_r 257), (2, .inl 0), (3, .inl v)], [.inl 0, gx_r 12], t0, n, 0)) rfl (fun _ => rfl) rfl ?_
    have k22 : ai_hv t0 12 0 = some (.inl (σ 11)) := x11_0
    refine gx_ag (v := .inl (σ 11)) (cb := fun c => Nat.beq c 2 || Nat.beq c 1) rfl (fun _ => rfl) g0 rfl rfl k22 (by first | decide | omega) rfl ?_
    by_cases hc23 : σ 11 = 0
    · refine gx_1t (c := .eq) rfl (by first | decide | omega) hc23 rfl ?_
      refine ex_go (S := (60, [(4, .inl 1), (0, gx_r 8), (1, gx_r 257), (2, .inl 0), (3, .inl v)], [.inl 4294967295], t0, n, 0)) rfl (fun _ => rfl) rfl ?_
      refine ex_ret (r := (some (.inl 4294967295), t0, n, 0)) rfl (fun _ => rfl) ?_
      exact ⟨_, rfl, _, t0, rfl, g0, (fun _ _ _ => rfl), (fun z => by rw [hml] at z; omega), fun _ => ⟨rfl, rfl⟩⟩
    · refine gx_1f (c := .eq) rfl (by first | decide | omega) hc23 rfl ?_
      refine ex_go (S := (27, [(4, .inl 1), (0, gx_r 8), (1, gx_r 257), (2, .inl 0), (3, .inl v)], [gx_r 8], t0, n, 0)) rfl (fun _ => rfl) rfl ?_
      refine gxo_ref (a := 8) (c := 10) rfl g0 rfl rfl rfl rfl rfl ?_
      refine ex_go (S := (31, [(4, .inl 1), (0, gx_r 8), (1, gx_r 257), (2, .inl 0), (3, .inl v)], [.inl 0, gx_r 10], t0, n, 0)) rfl (fun _ => rfl) rfl ?_
      have k24 : ai_hv t0 10 0 = some (.inl (σ 7)) := x7_0
      refine gx_ag (v := .inl (σ 7)) (cb := fun c => Nat.beq c 0) rfl (fun _ => rfl) g0 rfl rfl k24 (by first | decide | omega) rfl ?_
      by_cases hc25 : σ 7 = 0
      · refine gx_1t (c := .eq) rfl (by first | decide | omega) hc25 rfl ?_
        refine ex_go (S := (60, [(4, .inl 1), (0, gx_r 8), (1, gx_r 257), (2, .inl 0), (3, .inl v)], [.inl 4294967295], t0, n, 0)) rfl (fun _ => rfl) rfl ?_
        refine ex_ret (r := (some (.inl 4294967295), t0, n, 0)) rfl (fun _ => rfl) ?_
        exact ⟨_, rfl, _, t0, rfl, g0, (fun _ _ _ => rfl), (fun z => by rw [hml] at z; omega), fun _ => ⟨rfl, rfl⟩⟩
      · refine gx_1f (c := .eq) rfl (by first | decide | omega) hc25 rfl ?_
        refine ex_go (S := (36, [(4, .inl 1), (0, gx_r 8), (1, gx_r 257), (2, .inl 0), (3, .inl v)], [gx_r 8], t0, n, 0)) rfl (fun _ => rfl) rfl ?_
        refine gxo_ref (a := 8) (c := 14) rfl g0 rfl rfl rfl rfl rfl ?_
        refine ex_go (S := (40, [(4, .inl 1), (0, gx_r 8), (1, gx_r 257), (2, .inl 0), (3, .inl v)], [.inl 0, gx_r 14], t0, n, 0)) rfl (fun _ => rfl) rfl ?_
        have k26 : ai_hv t0 14 0 = some (.inl (σ 13)) := x13_0 (by first | decide | omega)
        refine gx_ag (v := .inl (σ 13)) (cb := fun c => Nat.beq c 0) rfl (fun _ => rfl) g0 rfl rfl k26 (by first | decide | omega) rfl ?_
        refine ex_go (S := (42, [(4, .inl 1), (0, gx_r 8), (1, gx_r 257), (2, .inl 0), (3, .inl v)], [gx_r 8, .inl (σ 13)], t0, n, 0)) rfl (fun _ => rfl) rfl ?_
        refine gxo_ref (a := 8) (c := 9) rfl g0 rfl rfl rfl rfl rfl ?_
        refine ex_go (S := (46, [(4, .inl 1), (0, gx_r 8), (1, gx_r 257), (2, .inl 0), (3, .inl v)], [gx_r 257, gx_r 9, .inl (σ 13)], t0, n, 0)) rfl (fun _ => rfl) rfl ?_
        refine gxo_ref (a := 257) (c := 272) rfl g0 rfl rfl rfl rfl rfl ?_
        refine gxo_ref (a := 272) (c := 274) rfl g0 rfl rfl rfl rfl rfl ?_
        refine ex_go (S := (54, [(4, .inl 1), (0, gx_r 8), (1, gx_r 257), (2, .inl 0), (3, .inl v)], [.inl 1, gx_r 274, gx_r 9, .inl (σ 13)], t0, n, 0)) rfl (fun _ => rfl) rfl ?_
        have k27 : ai_hv t0 274 1 = some (.inl (w 3 1)) := w3_1
        refine gx_ag (v := .inl (w 3 1)) (cb := fun c => Nat.beq c 0) rfl (fun _ => rfl) g0 rfl rfl k27 (by first | decide | omega) rfl ?_
        have k28 : ai_hv t0 9 (w 3 1) = some (.inl (σ (1 + w 3 1))) := hS.2.1 _ (by first | decide | omega)
        refine gx_ag (v := .inl (σ (1 + w 3 1))) (cb := fun c => Nat.beq c 0) rfl (fun _ => rfl) g0 rfl rfl k28 (by first | decide | omega) rfl ?_
        by_cases hc29 : σ 13 = σ (1 + w 3 1)
        · refine gx_2t (c := .eq) rfl (by first | decide | omega) (by first | decide | omega) hc29 rfl ?_
          refine ex_go (S := (62, [(4, .inl 1), (0, gx_r 8), (1, gx_r 257), (2, .inl 0), (3, .inl v)], [.inl v], t0, n, 0)) rfl (fun _ => rfl) rfl ?_
          refine ex_go (S := (63, [(4, .inl 1), (0, gx_r 8), (1, gx_r 257), (2, .inl 0), (3, .inl v)], [gx_r 8, .inl v], t0, n, 0)) rfl (fun _ => rfl) rfl ?_
          refine gxo_ref (a := 8) (c := 10) rfl g0 rfl rfl rfl rfl rfl ?_
          refine ex_go (S := (67, [(4, .inl 1), (0, gx_r 8), (1, gx_r 257), (2, .inl 0), (3, .inl v)], [.inl 0, gx_r 10, .inl v], t0, n, 0)) rfl (fun _ => rfl) rfl ?_
          refine gx_ag (v := .inl (σ 7)) (cb := fun c => Nat.beq c 0) rfl (fun _ => rfl) g0 rfl rfl k24 (by first | decide | omega) rfl ?_
          refine gx_inn rfl rfl rfl (zk_min (by first | decide | omega) (by first | decide | omega)) rfl rfl ?_
          refine ex_go (S := (73, [(5, .inl (min v (σ 7))), (4, .inl 1), (0, gx_r 8), (1, gx_r 257), (2, .inl 0), (3, .inl v)], [], t0, n, 0)) rfl (fun _ => rfl) rfl ?_
          refine ex_go (S := (74, [(5, .inl (min v (σ 7))), (4, .inl 1), (0, gx_r 8), (1, gx_r 257), (2, .inl 0), (3, .inl v)], [gx_r 8], t0, n, 0)) rfl (fun _ => rfl) rfl ?_
          refine gxo_ref (a := 8) (c := 10) rfl g0 rfl rfl rfl rfl rfl ?_
          refine ex_go (S := (78, [(5, .inl (min v (σ 7))), (4, .inl 1), (0, gx_r 8), (1, gx_r 257), (2, .inl 0), (3, .inl v)], [.inl 0, gx_r 10], t0, n, 0)) rfl (fun _ => rfl) rfl ?_
          refine ex_go (S := (79, [(5, .inl (min v (σ 7))), (4, .inl 1), (0, gx_r 8), (1, gx_r 257), (2, .inl 0), (3, .inl v)], [.inl 0, gx_r 10, .inl 0, gx_r 10], t0, n, 0)) rfl (fun _ => rfl) rfl ?_
          refine gx_ag (v := .inl (σ 7)) (cb := fun c => Nat.beq c 0) rfl (fun _ => rfl) g0 rfl rfl k24 (by first | decide | omega) rfl ?_
          refine ex_go (S := (82, [(5, .inl (min v (σ 7))), (4, .inl 1), (0, gx_r 8), (1, gx_r 257), (2, .inl 0), (3, .inl v)], [.inl (min v (σ 7)), .inl (σ 7), .inl 0, gx_r 10], t0, n, 0)) rfl (fun _ => rfl) rfl ?_
          refine gx_isub rfl (by first | decide | omega) (by first | decide | omega) rfl ?_
          refine gx_ap rfl (fun _ => rfl) g0 rfl rfl rfl (show 0 < 2 from by omega) rfl (gx_full (by first | decide | omega)) rfl (fun t130 g130 k130 e130 => ?_)
          have k31 : ai_hv t130 12 0 = some (.inl (σ 11)) := (e130 12 0 (by first | decide | omega)).trans k22
          have k32 : ai_hv t130 14 0 = some (.inl (σ 13)) := (e130 14 0 (by first | decide | omega)).trans k26
          have k33 : ai_hv t130 274 1 = some (.inl (w 3 1)) := (e130 274 1 (by first | decide | omega)).trans k27
          have k34 : ai_hv t130 9 (w 3 1) = some (.inl (σ (1 + w 3 1))) := (e130 9 (w 3 1) (by first | decide | omega)).trans k28
          refine ex_go (S := (85, [(5, .inl (min v (σ 7))), (4, .inl 1), (0, gx_r 8), (1, gx_r 257), (2, .inl 0), (3, .inl v)], [gx_r 8], t130, n, 0)) rfl (fun _ => rfl) rfl ?_
          refine gxo_ref (a := 8) (c := 10) rfl g130 rfl rfl rfl rfl rfl ?_
          refine ex_go (S := (90, [(5, .inl (min v (σ 7))), (4, .inl 1), (0, gx_r 8), (1, gx_r 257), (2, .inl 0), (3, .inl v)], [.inl 1, gx_r 10], t130, n, 0)) rfl (fun _ => rfl) rfl ?_
          refine ex_go (S := (91, [(5, .inl (min v (σ 7))), (4, .inl 1), (0, gx_r 8), (1, gx_r 257), (2, .inl 0), (3, .inl v)], [.inl 1, gx_r 10, .inl 1, gx_r 10], t130, n, 0)) rfl (fun _ => rfl) rfl ?_
          have k35 : ai_hv t130 10 1 = some (.inl (σ 8)) := (e130 10 1 (by first | decide | omega)).trans (x7_1)
          refine gx_ag (v := .inl (σ 8)) (cb := fun c => Nat.beq c 0) rfl (fun _ => rfl) g130 rfl rfl k35 (by first | decide | omega) rfl ?_
          refine ex_go (S := (94, [(5, .inl (min v (σ 7))), (4, .inl 1), (0, gx_r 8), (1, gx_r 257), (2, .inl 0), (3, .inl v)], [.inl (min v (σ 7)), .inl (σ 8), .inl 1, gx_r 10], t130, n, 0)) rfl (fun _ => rfl) rfl ?_
          refine ex_iadd rfl (by first | decide | omega) rfl ?_
          refine gx_ap rfl (fun _ => rfl) g130 rfl rfl rfl (show 1 < 2 from by omega) rfl (gx_full (by first | decide | omega)) rfl (fun t136 g136 k136 e136 => ?_)
          have k37 : ai_hv t136 12 0 = some (.inl (σ 11)) := (e136 12 0 (by first | decide | omega)).trans k31
          have k38 : ai_hv t136 14 0 = some (.inl (σ 13)) := (e136 14 0 (by first | decide | omega)).trans k32
          have k39 : ai_hv t136 274 1 = some (.inl (w 3 1)) := (e136 274 1 (by first | decide | omega)).trans k33
          have k40 : ai_hv t136 9 (w 3 1) = some (.inl (σ (1 + w 3 1))) := (e136 9 (w 3 1) (by first | decide | omega)).trans k34
          have k41 : ai_hv t136 10 0 = some (.inl ((σ 7) - (min v (σ 7)))) := (e136 10 0 (by first | decide | omega)).trans k130
          refine ex_go (S := (97, [(5, .inl (min v (σ 7))), (4, .inl 1), (0, gx_r 8), (1, gx_r 257), (2, .inl 0), (3, .inl v)], [gx_r 8], t136, n, 0)) rfl (fun _ => rfl) rfl ?_
          refine gxo_ref (a := 8) (c := 11) rfl g136 rfl rfl rfl rfl rfl ?_
          refine ex_go (S := (101, [(5, .inl (min v (σ 7))), (4, .inl 1), (0, gx_r 8), (1, gx_r 257), (2, .inl 0), (3, .inl v)], [.inl 0, gx_r 11], t136, n, 0)) rfl (fun _ => rfl) rfl ?_
          refine ex_go (S := (102, [(5, .inl (min v (σ 7))), (4, .inl 1), (0, gx_r 8), (1, gx_r 257), (2, .inl 0), (3, .inl v)], [.inl 0, gx_r 11, .inl 0, gx_r 11], t136, n, 0)) rfl (fun _ => rfl) rfl ?_
          have k42 : ai_hv t136 11 0 = some (.inl (σ 9)) := ((e136 11 0 (by first | decide | omega)).trans (e130 11 0 (by first | decide | omega))).trans (x9_0)
          refine gx_ag (v := .inl (σ 9)) (cb := fun c => Nat.beq c 0) rfl (fun _ => rfl) g136 rfl rfl k42 (by first | decide | omega) rfl ?_
          refine ex_go (S := (105, [(5, .inl (min v (σ 7))), (4, .inl 1), (0, gx_r 8), (1, gx_r 257), (2, .inl 0), (3, .inl v)], [.inl (min v (σ 7)), .inl (σ 9), .inl 0, gx_r 11], t136, n, 0)) rfl (fun _ => rfl) rfl ?_
          have hw43 : en_wrap ((σ 9) + (min v (σ 7))) < 4294967296 := wrap_lt
          refine gs_iaddx rfl rfl ?_
          refine gx_ap rfl (fun _ => rfl) g136 rfl rfl rfl (show 0 < 2 from by omega) rfl (gx_full (by first | decide | omega)) rfl (fun t144 g144 k144 e144 => ?_)
          have k45 : ai_hv t144 12 0 = some (.inl (σ 11)) := (e144 12 0 (by first | decide | omega)).trans k37
          have k46 : ai_hv t144 14 0 = some (.inl (σ 13)) := (e144 14 0 (by first | decide | omega)).trans k38
          have k47 : ai_hv t144 274 1 = some (.inl (w 3 1)) := (e144 274 1 (by first | decide | omega)).trans k39
          have k48 : ai_hv t144 9 (w 3 1) = some (.inl (σ (1 + w 3 1))) := (e144 9 (w 3 1) (by first | decide | omega)).trans k40
          have k49 : ai_hv t144 10 0 = some (.inl ((σ 7) - (min v (σ 7)))) := (e144 10 0 (by first | decide | omega)).trans k41
          have k50 : ai_hv t144 10 1 = some (.inl ((σ 8) + (min v (σ 7)))) := (e144 10 1 (by first | decide | omega)).trans k136
          refine ex_go (S := (108, [(5, .inl (min v (σ 7))), (4, .inl 1), (0, gx_r 8), (1, gx_r 257), (2, .inl 0), (3, .inl v)], [gx_r 8], t144, n, 0)) rfl (fun _ => rfl) rfl ?_
          refine gxo_ref (a := 8) (c := 11) rfl g144 rfl rfl rfl rfl rfl ?_
          refine ex_go (S := (113, [(5, .inl (min v (σ 7))), (4, .inl 1), (0, gx_r 8), (1, gx_r 257), (2, .inl 0), (3, .inl v)], [.inl 1, gx_r 11], t144, n, 0)) rfl (fun _ => rfl) rfl ?_
          refine ex_go (S := (114, [(5, .inl (min v (σ 7))), (4, .inl 1), (0, gx_r 8), (1, gx_r 257), (2, .inl 0), (3, .inl v)], [.inl 1, gx_r 11, .inl 1, gx_r 11], t144, n, 0)) rfl (fun _ => rfl) rfl ?_
          have k51 : ai_hv t144 11 1 = some (.inl (σ 10)) := ((e144 11 1 (by first | decide | omega)).trans ((e136 11 1 (by first | decide | omega)).trans (e130 11 1 (by first | decide | omega)))).trans (x9_1)
          refine gx_ag (v := .inl (σ 10)) (cb := fun c => Nat.beq c 0) rfl (fun _ => rfl) g144 rfl rfl k51 (by first | decide | omega) rfl ?_
          refine ex_go (S := (117, [(5, .inl (min v (σ 7))), (4, .inl 1), (0, gx_r 8), (1, gx_r 257), (2, .inl 0), (3, .inl v)], [.inl (min v (σ 7)), .inl (σ 10), .inl 1, gx_r 11], t144, n, 0)) rfl (fun _ => rfl) rfl ?_
          have hw52 : isb (σ 10) (min v (σ 7)) < 4294967296 := isb_lt
          refine gx_isbx rfl rfl ?_
          refine gx_ap rfl (fun _ => rfl) g144 rfl rfl rfl (show 1 < 2 from by omega) rfl (gx_full (by first | decide | omega)) rfl (fun t153 g153 k153 e153 => ?_)
          have k54 : ai_hv t153 12 0 = some (.inl (σ 11)) := (e153 12 0 (by first | decide | omega)).trans k45
          have k55 : ai_hv t153 14 0 = some (.inl (σ 13)) := (e153 14 0 (by first | decide | omega)).trans k46
          have k56 : ai_hv t153 274 1 = some (.inl (w 3 1)) := (e153 274 1 (by first | decide | omega)).trans k47
          have k57 : ai_hv t153 9 (w 3 1) = some (.inl (σ (1 + w 3 1))) := (e153 9 (w 3 1) (by first | decide | omega)).trans k48
          have k58 : ai_hv t153 10 0 = some (.inl ((σ 7) - (min v (σ 7)))) := (e153 10 0 (by first | decide | omega)).trans k49
          have k59 : ai_hv t153 10 1 = some (.inl ((σ 8) + (min v (σ 7)))) := (e153 10 1 (by first | decide | omega)).trans k50
          have k60 : ai_hv t153 11 0 = some (.inl (en_wrap ((σ 9) + (min v (σ 7))))) := (e153 11 0 (by first | decide | omega)).trans k144
          refine ex_go (S := (121, [(5, .inl (min v (σ 7))), (4, .inl 1), (0, gx_r 8), (1, gx_r 257), (2, .inl 0), (3, .inl v)], [.inl (min v (σ 7))], t153, n, 0)) rfl (fun _ => rfl) rfl ?_
          refine ex_ret (r := (some (.inl (min v (σ 7))), t153, n, 0)) rfl (fun _ => rfl) ?_
          have hl9 : lnv σ 0 v = min v (σ 7) := by omega
          refine ⟨_, rfl, _, t153, rfl, g153, (fun c i h => (e153 c i (by first | decide | omega)).trans ((e144 c i (by first | decide | omega)).trans ((e136 c i (by first | decide | omega)).trans (e130 c i (by first | decide | omega))))), (fun _ => ⟨hl9.symm, ?_⟩), fun z => absurd (by rw [hml]; omega) z⟩
          refine ⟨?_, fun i hi => ?_, fun c9 hc9 => ?_⟩
          · rw [sgL_o (by first | decide | omega) (by first | decide | omega) (by first | decide | omega) (by first | decide | omega)]; exact ((e153 8 0 (by first | decide | omega)).trans ((e144 8 0 (by first | decide | omega)).trans ((e136 8 0 (by first | decide | omega)).trans (e130 8 0 (by first | decide | omega))))).trans (hS.1)
          · rw [sgL_o (by first | decide | omega) (by first | decide | omega) (by first | decide | omega) (by first | decide | omega)]; exact ((e153 9 i (by first | decide | omega)).trans ((e144 9 i (by first | decide | omega)).trans ((e136 9 i (by first | decide | omega)).trans (e130 9 i (by first | decide | omega))))).trans (hS.2.1 i hi)
          · rcases (show c9 = 0 ∨ c9 = 1 by omega) with rfl | rfl
            · obtain ⟨y7, y9, y11, y15, y13⟩ := hS.2.2 0 hc9
              refine ⟨?_, ?_, ?_, ?_, ?_⟩
              · rw [sgL_7, hl9]; exact k58
              · rw [sgL_9 (by first | decide | omega), hl9]; exact k60
              · rw [sgL_o (by first | decide | omega) (by first | decide | omega) (by first | decide | omega) (by first | decide | omega)]; exact ((e153 12 0 (by first | decide | omega)).trans ((e144 12 0 (by first | decide | omega)).trans ((e136 12 0 (by first | decide | omega)).trans (e130 12 0 (by first | decide | omega))))).trans (y11)
              · rw [sgL_o (by first | decide | omega) (by first | decide | omega) (by first | decide | omega) (by first | decide | omega)]; exact ((e153 13 0 (by first | decide | omega)).trans ((e144 13 0 (by first | decide | omega)).trans ((e136 13 0 (by first | decide | omega)).trans (e130 13 0 (by first | decide | omega))))).trans (y15)
              · intro z
                rw [sgL_o (by first | decide | omega) (by first | decide | omega) (by first | decide | omega) (by first | decide | omega)] at z
                rw [sgL_o (by first | decide | omega) (by first | decide | omega) (by first | decide | omega) (by first | decide | omega)]; exact ((e153 14 0 (by first | decide | omega)).trans ((e144 14 0 (by first | decide | omega)).trans ((e136 14 0 (by first | decide | omega)).trans (e130 14 0 (by first | decide | omega))))).trans (y13 z)
            · obtain ⟨y7, y9, y11, y15, y13⟩ := hS.2.2 1 hc9
              refine ⟨?_, ?_, ?_, ?_, ?_⟩
              · rw [show 7 + 1 = 8 - 0 from rfl, sgL_8 (by first | decide | omega), hl9]; exact k59
              · rw [show 9 + 1 = 10 - 0 from rfl, sgL_10 (by first | decide | omega), hl9]; exact k153
              · rw [sgL_o (by first | decide | omega) (by first | decide | omega) (by first | decide | omega) (by first | decide | omega)]; exact ((e153 12 1 (by first | decide | omega)).trans ((e144 12 1 (by first | decide | omega)).trans ((e136 12 1 (by first | decide | omega)).trans (e130 12 1 (by first | decide | omega))))).trans (y11)
              · rw [sgL_o (by first | decide | omega) (by first | decide | omega) (by first | decide | omega) (by first | decide | omega)]; exact ((e153 13 1 (by first | decide | omega)).trans ((e144 13 1 (by first | decide | omega)).trans ((e136 13 1 (by first | decide | omega)).trans (e130 13 1 (by first | decide | omega))))).trans (y15)
              · intro z
                rw [sgL_o (by first | decide | omega) (by first | decide | omega) (by first | decide | omega) (by first | decide | omega)] at z
                rw [sgL_o (by first | decide | omega) (by first | decide | omega) (by first | decide | omega) (by first | decide | omega)]; exact ((e153 14 1 (by first | decide | omega)).trans ((e144 14 1 (by first | decide | omega)).trans ((e136 14 1 (by first | decide | omega)).trans (e130 14 1 (by first | decide | omega))))).trans (y13 z)
        · refine gx_2f (c := .eq) rfl (by first | decide | omega) (by first | decide | omega) hc29 rfl ?_
          refine ex_go (S := (60, [(4, .inl 1), (0, gx_r 8), (1, gx_r 257), (2, .inl 0), (3, .inl v)], [.inl 4294967295], t0, n, 0)) rfl (fun _ => rfl) rfl ?_
          refine ex_ret (r := (some (.inl 4294967295), t0, n, 0)) rfl (fun _ => rfl) ?_
          exact ⟨_, rfl, _, t0, rfl, g0, (fun _ _ _ => rfl), (fun z => by rw [hml] at z; omega), fun _ => ⟨rfl, rfl⟩⟩
  · have hS9 := hS
    have hb9 := hb
    obtain ⟨hb1, ⟨hb7, hb8⟩, ⟨hb11, hb12⟩, ⟨hb13, hb14⟩, ⟨hb15, hb16⟩, hb0, hbo9, hb10⟩ := hb9
    have hT := hw.1.2.2.1
    have hK := hw.1.2.2.2.2.1
    obtain ⟨x7_0, x9_0, x11_0, x15_0, x13_0⟩ := hS9.2.2 0 (by first | decide | omega)
    have x13_0 : σ 11 = 1 → ai_hv t0 14 0 = some (.inl (σ 13)) := x13_0
    have w3_0 := (hC.2.2.1 0 (by first | decide | omega)).1
    have hs0 := (hw.2.1 0 (by first | decide | omega)).1
    have hp0 := hb1 (w 3 0) (by first | decide | omega)
    refine en_u_ex (d := d + 1) rfl ?_
    show en_ex _ _ _ _ (0, [(0, gx_r 8), (1, gx_r 257), (2, .inl 0), (3, .inl v)], [], t0, n, 0) _
    refine ex_go (S := (1, [(0, gx_r 8), (1, gx_r 257), (2, .inl 0), (3, .inl v)], [.inl 1], t0, n, 0)) rfl (fun _ => rfl) rfl ?_
    refine ex_go (S := (2, [(0, gx_r 8), (1, gx_r 257), (2, .inl 0), (3, .inl v)], [.inl 0, .inl 1], t0, n, 0)) rfl (fun _ => rfl) rfl ?_
    refine ex_go (S := (3, [(0, gx_r 8), (1, gx_r 257), (2, .inl 0), (3, .inl v)], [.inl 1], t0, n, 0)) rfl (fun _ => rfl) rfl ?_
    refine ex_go (S := (5, [(4, .inl 1), (0, gx_r 8), (1, gx_r 257), (2, .inl 0), (3, .inl v)], [], t0, n, 0)) rfl (fun _ => rfl) rfl ?_
    refine ex_go (S := (6, [(4, .inl 1), (0, gx_r 8), (1, gx_r 257), (2, .inl 0), (3, .inl v)], [gx_r 257], t0, n, 0)) rfl (fun _ => rfl) rfl ?_
    refine gxo_ref (a := 257) (c := 272) rfl g0 rfl rfl rfl rfl rfl ?_
    refine ex_go (S := (11, [(4, .inl 1), (0, gx_r 8), (1, gx_r 257), (2, .inl 0), (3, .inl v)], [.inl 1, gx_r 272], t0, n, 0)) rfl (fun _ => rfl) rfl ?_
    obtain ⟨_, r121, b121, rfl, hb121, hi121⟩ := pz_holds272 d n (x := 1) (K := w 0 4) g0 (by decide) hC.1.2.2.2.2.2 (by first | decide | omega)
    refine gx_callo (a := 272) rfl rfl g0 rfl rfl rfl r121 rfl ?_
    show en_ex _ _ _ _ (14, [(4, .inl 1), (0, gx_r 8), (1, gx_r 257), (2, .inl 0), (3, .inl v)], [.inl b121], t0, n, 0) _
    refine gx_1t (c := .eq) rfl (by first | decide | omega) (show b121 = 0 from by omega) rfl ?_
    refine ex_go (S := (60, [(4, .inl 1), (0, gx_r 8), (1, gx_r 257), (2, .inl 0), (3, .inl v)], [.inl 4294967295], t0, n, 0)) rfl (fun _ => rfl) rfl ?_
    refine ex_ret (r := (some (.inl 4294967295), t0, n, 0)) rfl (fun _ => rfl) ?_
    exact ⟨_, rfl, _, t0, rfl, g0, (fun _ _ _ => rfl), (fun z => by rw [hml] at z; omega), fun _ => ⟨rfl, rfl⟩⟩
theorem sc_bi8_257_0 (d n : Nat) {t0 : en_H} {w : Nat → Nat → Nat} {L : List Nat} {σ : Nat → Nat} (g0 : ai_HG ah_G t0) (hC : CW t0 257 w L) (hw : WS w) (hb : sbd σ) (hS : SC t0 8 (w 0 2) (w 0 4) σ) (hc : 0 < w 0 4) : ∃ r, en_u (d + 1) 202 [gx_r 8, gx_r 257, .inl 0] t0 n = some r ∧ ∃ y t', r = (some (.inl y), t', n, 0) ∧ ai_HG ah_G t' ∧ (∀ c i, ¬ c = 12 → ai_hv t' c i = ai_hv t0 c i) ∧ y ≤ 1 ∧ (y = 1 → mayM w σ 0 ∧ SC t' 8 (w 0 2) (w 0 4) (sgM' σ 0)) ∧ (y = 0 → ¬ mayM w σ 0 ∧ t' = t0) := by
  have hml : mayM w σ 0 ↔ (σ 11 = 1 ∧ σ 13 = σ (1 + w 3 0)) := Iff.rfl
  have hS9 := hS
  have hb9 := hb
  obtain ⟨hb1, ⟨hb7, hb8⟩, ⟨hb11, hb12⟩, ⟨hb13, hb14⟩, ⟨hb15, hb16⟩, hb0, hbo9, hb10⟩ := hb9
  have hT := hw.1.2.2.1
  have hK := hw.1.2.2.2.2.1
  obtain ⟨x7_0, x9_0, x11_0, x15_0, x13_0⟩ := hS9.2.2 0 (by first | decide | omega)
  have x13_0 : σ 11 = 1 → ai_hv t0 14 0 = some (.inl (σ 13)) := x13_0
  have w3_0 := (hC.2.2.1 0 (by first | decide | omega)).1
  have hs0 := (hw.2.1 0 (by first | decide | omega)).1
  have hp0 := hb1 (w 3 0) (by first | decide | omega)
  refine en_u_ex rfl ?_
  show en_ex _ _ _ _ (0, [(0, gx_r 8), (1, gx_r 257), (2, .inl 0)], [], t0, n, 0) _
  refine ex_go (S := (1, [(0, gx_r 8), (1, gx_r 257), (2, .inl 0)], [gx_r 8], t0, n, 0)) rfl (fun _ => rfl) rfl ?_
  refine gxo_ref (a := 8) (c := 12) rfl g0 rfl rfl rfl rfl rfl ?_
  refine ex_go (S := (5, [(0, gx_r 8), (1, gx_r 257), (2, .inl 0)], [.inl 0, gx_r 12], t0, n, 0)) rfl (fun _ => rfl) rfl ?_
  have k21 : ai_hv t0 12 0 = some (.inl (σ 11)) := x11_0
  refine gx_ag (v := .inl (σ 11)) (cb := fun c => Nat.beq c 2 || Nat.beq c 1) rfl (fun _ => rfl) g0 rfl rfl k21 (by first | decide | omega) rfl ?_
  by_cases hc22 : σ 11 = 0
  · refine gx_1t (c := .eq) rfl (by first | decide | omega) hc22 rfl ?_
    refine ex_go (S := (33, [(0, gx_r 8), (1, gx_r 257), (2, .inl 0)], [.inl 0], t0, n, 0)) rfl (fun _ => rfl) rfl ?_
    refine ex_ret (r := (some (.inl 0), t0, n, 0)) rfl (fun _ => rfl) ?_
    exact ⟨_, rfl, 0, t0, rfl, g0, (fun _ _ _ => rfl), by decide, (fun z => absurd z (by decide)), fun _ => ⟨fun z => by rw [hml] at z; omega, rfl⟩⟩
  · refine gx_1f (c := .eq) rfl (by first | decide | omega) hc22 rfl ?_
    refine ex_go (S := (10, [(0, gx_r 8), (1, gx_r 257), (2, .inl 0)], [gx_r 8], t0, n, 0)) rfl (fun _ => rfl) rfl ?_
    refine gxo_ref (a := 8) (c := 14) rfl g0 rfl rfl rfl rfl rfl ?_
    refine ex_go (S := (14, [(0, gx_r 8), (1, gx_r 257), (2, .inl 0)], [.inl 0, gx_r 14], t0, n, 0)) rfl (fun _ => rfl) rfl ?_
    have k23 : ai_hv t0 14 0 = some (.inl (σ 13)) := x13_0 (by first | decide | omega)
    refine gx_ag (v := .inl (σ 13)) (cb := fun c => Nat.beq c 0) rfl (fun _ => rfl) g0 rfl rfl k23 (by first | decide | omega) rfl ?_
    refine ex_go (S := (16, [(0, gx_r 8), (1, gx_r 257), (2, .inl 0)], [gx_r 8, .inl (σ 13)], t0, n, 0)) rfl (fun _ => rfl) rfl ?_
    refine gxo_ref (a := 8) (c := 9) rfl g0 rfl rfl rfl rfl rfl ?_
    refine ex_go (S := (20, [(0, gx_r 8), (1, gx_r 257), (2, .inl 0)], [gx_r 257, gx_r 9, .inl (σ 13)], t0, n, 0)) rfl (fun _ => rfl) rfl ?_
    refine gxo_ref (a := 257) (c := 272) rfl g0 rfl rfl rfl rfl rfl ?_
    refine gxo_ref (a := 272) (c := 274) rfl g0 rfl rfl rfl rfl rfl ?_
    refine ex_go (S := (27, [(0, gx_r 8), (1, gx_r 257), (2, .inl 0)], [.inl 0, gx_r 274, gx_r 9, .inl (σ 13)], t0, n, 0)) rfl (fun _ => rfl) rfl ?_
    have k24 : ai_hv t0 274 0 = some (.inl (w 3 0)) := w3_0
    refine gx_ag (v := .inl (w 3 0)) (cb := fun c => Nat.beq c 0) rfl (fun _ => rfl) g0 rfl rfl k24 (by first | decide | omega) rfl ?_
    have k25 : ai_hv t0 9 (w 3 0) = some (.inl (σ (1 + w 3 0))) := hS.2.1 _ (by first | decide | omega)
    refine gx_ag (v := .inl (σ (1 + w 3 0))) (cb := fun c => Nat.beq c 0) rfl (fun _ => rfl) g0 rfl rfl k25 (by first | decide | omega) rfl ?_
    by_cases hc26 : σ 13 = σ (1 + w 3 0)
    · refine gx_2t (c := .eq) rfl (by first | decide | omega) (by first | decide | omega) hc26 rfl ?_
      refine ex_go (S := (35, [(0, gx_r 8), (1, gx_r 257), (2, .inl 0)], [gx_r 8], t0, n, 0)) rfl (fun _ => rfl) rfl ?_
      refine gxo_ref (a := 8) (c := 12) rfl g0 rfl rfl rfl rfl rfl ?_
      refine ex_go (S := (39, [(0, gx_r 8), (1, gx_r 257), (2, .inl 0)], [.inl 0, gx_r 12], t0, n, 0)) rfl (fun _ => rfl) rfl ?_
      refine ex_go (S := (40, [(0, gx_r 8), (1, gx_r 257), (2, .inl 0)], [.inl 0, .inl 0, gx_r 12], t0, n, 0)) rfl (fun _ => rfl) rfl ?_
      refine gx_apv (d := 2) rfl (fun _ => rfl) g0 rfl rfl rfl (show 0 < 2 from by omega) rfl (ai_in_h (by first | decide | omega) (by first | decide | omega) (by first | decide | omega)) rfl (fun t127 g127 k127 e127 => ?_)
      have k28 : ai_hv t127 14 0 = some (.inl (σ 13)) := (e127 14 0 (by first | decide | omega)).trans k23
      have k29 : ai_hv t127 274 0 = some (.inl (w 3 0)) := (e127 274 0 (by first | decide | omega)).trans k24
      have k30 : ai_hv t127 9 (w 3 0) = some (.inl (σ (1 + w 3 0))) := (e127 9 (w 3 0) (by first | decide | omega)).trans k25
      refine ex_go (S := (42, [(0, gx_r 8), (1, gx_r 257), (2, .inl 0)], [.inl 1], t127, n, 0)) rfl (fun _ => rfl) rfl ?_
      refine ex_ret (r := (some (.inl 1), t127, n, 0)) rfl (fun _ => rfl) ?_
      refine ⟨_, rfl, 1, t127, rfl, g127, (fun c i h => e127 c i (by first | decide | omega)), by decide, (fun _ => ⟨by rw [hml]; omega, ?_⟩), fun z => absurd z (by decide)⟩
      refine ⟨?_, fun i hi => ?_, fun c9 hc9 => ?_⟩
      · rw [sgM_o (by first | decide | omega)]; exact (e127 8 0 (by first | decide | omega)).trans (hS.1)
      · rw [sgM_o (by first | decide | omega)]; exact (e127 9 i (by first | decide | omega)).trans (hS.2.1 i hi)
      · rcases (show c9 = 0 ∨ c9 = 1 by omega) with rfl | rfl
        · obtain ⟨y7, y9, y11, y15, y13⟩ := hS.2.2 0 hc9
          refine ⟨?_, ?_, ?_, ?_, ?_⟩
          · rw [sgM_o (by first | decide | omega)]; exact (e127 10 0 (by first | decide | omega)).trans (y7)
          · rw [sgM_o (by first | decide | omega)]; exact (e127 11 0 (by first | decide | omega)).trans (y9)
          · rw [sgM_11]; exact k127
          · rw [sgM_o (by first | decide | omega)]; exact (e127 13 0 (by first | decide | omega)).trans (y15)
          · intro z; rw [sgM_11] at z; exact absurd z (by decide)
        · obtain ⟨y7, y9, y11, y15, y13⟩ := hS.2.2 1 hc9
          refine ⟨?_, ?_, ?_, ?_, ?_⟩
          · rw [sgM_o (by first | decide | omega)]; exact (e127 10 1 (by first | decide | omega)).trans (y7)
          · rw [sgM_o (by first | decide | omega)]; exact (e127 11 1 (by first | decide | omega)).trans (y9)
          · rw [sgM_o (by first | decide | omega)]; exact (e127 12 1 (by first | decide | omega)).trans (y11)
          · rw [sgM_o (by first | decide | omega)]; exact (e127 13 1 (by first | decide | omega)).trans (y15)
          · intro z
            rw [sgM_o (by first | decide | omega)] at z
            rw [sgM_o (by first | decide | omega)]; exact (e127 14 1 (by first | decide | omega)).trans (y13 z)
    · refine gx_2f (c := .eq) rfl (by first | decide | omega) (by first | decide | omega) hc26 rfl ?_
      refine ex_go (S := (33, [(0, gx_r 8), (1, gx_r 257), (2, .inl 0)], [.inl 0], t0, n, 0)) rfl (fun _ => rfl) rfl ?_
      refine ex_ret (r := (some (.inl 0), t0, n, 0)) rfl (fun _ => rfl) ?_
      exact ⟨_, rfl, 0, t0, rfl, g0, (fun _ _ _ => rfl), by decide, (fun z => absurd z (by decide)), fun _ => ⟨fun z => by rw [hml] at z; omega, rfl⟩⟩
theorem sc_sled8_257_1 (d n : Nat) {t0 : en_H} {w : Nat → Nat → Nat} {L : List Nat} {σ : Nat → Nat} (g0 : ai_HG ah_G t0) (hC : CW t0 257 w L) (hw : WS w) (hb : sbd σ) (hS : SC t0 8 (w 0 2) (w 0 4) σ) (hc : 1 < w 0 4) : ∃ r, en_u (d + 1) 172 [gx_r 8, gx_r 257, .inl 1] t0 n = some r ∧ r = (some (.inl (slp w σ 1)), t0, n, 0) := by
  have hS9 := hS
  have hb9 := hb
  obtain ⟨hb1, ⟨hb7, hb8⟩, ⟨hb11, hb12⟩, ⟨hb13, hb14⟩, ⟨hb15, hb16⟩, hb0, hbo9, hb10⟩ := hb9
  have hT := hw.1.2.2.1
  have hK := hw.1.2.2.2.2.1
  obtain ⟨x7_1, x9_1, x11_1, x15_1, x13_1⟩ := hS9.2.2 1 (by first | decide | omega)
  have x13_1 : σ 12 = 1 → ai_hv t0 14 1 = some (.inl (σ 14)) := x13_1
  have w3_1 := (hC.2.2.1 1 (by first | decide | omega)).1
  have hs1 := (hw.2.1 1 (by first | decide | omega)).1
  have hp1 := hb1 (w 3 1) (by first | decide | omega)
  have hsl : slp w σ 1 = if σ 12 = 1 then σ 14 else σ (1 + w 3 1) := rfl
  refine en_u_ex rfl ?_
  show en_ex _ _ _ _ (0, [(0, gx_r 8), (1, gx_r 257), (2, .inl 1)], [], t0, n, 0) _
  refine ex_go (S := (1, [(0, gx_r 8), (1, gx_r 257), (2, .inl 1)], [gx_r 8], t0, n, 0)) rfl (fun _ => rfl) rfl ?_
  refine gxo_ref (a := 8) (c := 12) rfl g0 rfl rfl rfl rfl rfl ?_
  refine ex_go (S := (5, [(0, gx_r 8), (1, gx_r 257), (2, .inl 1)], [.inl 1, gx_r 12], t0, n, 0)) rfl (fun _ => rfl) rfl ?_
  have k21 : ai_hv t0 12 1 = some (.inl (σ 12)) := x11_1
  refine gx_ag (v := .inl (σ 12)) (cb := fun c => Nat.beq c 2 || Nat.beq c 1) rfl (fun _ => rfl) g0 rfl rfl k21 (by first | decide | omega) rfl ?_
  by_cases hc22 : σ 12 = 0
  · refine gx_1t (c := .eq) rfl (by first | decide | omega) hc22 rfl ?_
    refine ex_go (S := (19, [(0, gx_r 8), (1, gx_r 257), (2, .inl 1)], [gx_r 8], t0, n, 0)) rfl (fun _ => rfl) rfl ?_
    refine gxo_ref (a := 8) (c := 9) rfl g0 rfl rfl rfl rfl rfl ?_
    refine ex_go (S := (23, [(0, gx_r 8), (1, gx_r 257), (2, .inl 1)], [gx_r 257, gx_r 9], t0, n, 0)) rfl (fun _ => rfl) rfl ?_
    refine gxo_ref (a := 257) (c := 272) rfl g0 rfl rfl rfl rfl rfl ?_
    refine gxo_ref (a := 272) (c := 274) rfl g0 rfl rfl rfl rfl rfl ?_
    refine ex_go (S := (30, [(0, gx_r 8), (1, gx_r 257), (2, .inl 1)], [.inl 1, gx_r 274, gx_r 9], t0, n, 0)) rfl (fun _ => rfl) rfl ?_
    have k23 : ai_hv t0 274 1 = some (.inl (w 3 1)) := w3_1
    refine gx_ag (v := .inl (w 3 1)) (cb := fun c => Nat.beq c 0) rfl (fun _ => rfl) g0 rfl rfl k23 (by first | decide | omega) rfl ?_
    have k24 : ai_hv t0 9 (w 3 1) = some (.inl (σ (1 + w 3 1))) := hS.2.1 _ (by first | decide | omega)
    refine gx_ag (v := .inl (σ (1 + w 3 1))) (cb := fun c => Nat.beq c 0) rfl (fun _ => rfl) g0 rfl rfl k24 (by first | decide | omega) rfl ?_
    refine ex_ret (r := (some (.inl (σ (1 + w 3 1))), t0, n, 0)) rfl (fun _ => rfl) ?_
    have e9 : slp w σ 1 = σ (1 + w 3 1) := by rw [hsl, if_neg (by first | decide | omega)]
    exact ⟨_, rfl, by rw [e9]⟩
  · refine gx_1f (c := .eq) rfl (by first | decide | omega) hc22 rfl ?_
    refine ex_go (S := (10, [(0, gx_r 8), (1, gx_r 257), (2, .inl 1)], [gx_r 8], t0, n, 0)) rfl (fun _ => rfl) rfl ?_
    refine gxo_ref (a := 8) (c := 14) rfl g0 rfl rfl rfl rfl rfl ?_
    refine ex_go (S := (14, [(0, gx_r 8), (1, gx_r 257), (2, .inl 1)], [.inl 1, gx_r 14], t0, n, 0)) rfl (fun _ => rfl) rfl ?_
    have k25 : ai_hv t0 14 1 = some (.inl (σ 14)) := x13_1 (by first | decide | omega)
    refine gx_ag (v := .inl (σ 14)) (cb := fun c => Nat.beq c 0) rfl (fun _ => rfl) g0 rfl rfl k25 (by first | decide | omega) rfl ?_
    refine ex_go (S := (32, [(0, gx_r 8), (1, gx_r 257), (2, .inl 1)], [.inl (σ 14)], t0, n, 0)) rfl (fun _ => rfl) rfl ?_
    refine ex_ret (r := (some (.inl (σ 14)), t0, n, 0)) rfl (fun _ => rfl) ?_
    have e9 : slp w σ 1 = σ 14 := by rw [hsl, if_pos (by first | decide | omega)]
    exact ⟨_, rfl, by rw [e9]⟩
theorem sc_hs8_257_1 (d n : Nat) {t0 : en_H} {w : Nat → Nat → Nat} {L : List Nat} {σ : Nat → Nat} {to : Nat} (g0 : ai_HG ah_G t0) (hC : CW t0 257 w L) (hw : WS w) (hb : sbd σ) (hS : SC t0 8 (w 0 2) (w 0 4) σ) (hX : CX t0 257 w) (hB : σ 0 ≤ 900000) (hc : 1 < w 0 4) (ht : to < 64) : ∃ r, en_u (d + 4) 200 [gx_r 8, gx_r 257, .inl 1, .inl to] t0 n = some r ∧ ∃ v t', r = (some (.inl v), t', n, 0) ∧ ai_HG ah_G t' ∧ (∀ c i, ¬ (c = 12 ∨ c = 13 ∨ c = 14) → ai_hv t' c i = ai_hv t0 c i) ∧ v ≤ 1 ∧ (v = 1 → mayH w σ 1 to ∧ SC t' 8 (w 0 2) (w 0 4) (sgH σ 1 to)) ∧ (v = 0 → ¬ mayH w σ 1 to ∧ t' = t0) := by
  have hsp := slp_lt hw hb hc
  have hS9 := hS
  have hb9 := hb
  obtain ⟨hb1, ⟨hb7, hb8⟩, ⟨hb11, hb12⟩, ⟨hb13, hb14⟩, ⟨hb15, hb16⟩, hb0, hbo9, hb10⟩ := hb9
  have hT := hw.1.2.2.1
  have hK := hw.1.2.2.2.2.1
  obtain ⟨x7_1, x9_1, x11_1, x15_1, x13_1⟩ := hS9.2.2 1 (by first | decide | omega)
  have x13_1 : σ 12 = 1 → ai_hv t0 14 1 = some (.inl (σ 14)) := x13_1
  have w3_1 := (hC.2.2.1 1 (by first | decide | omega)).1
  have hs1 := (hw.2.1 1 (by first | decide | omega)).1
  have hp1 := hb1 (w 3 1) (by first | decide | omega)
  refine en_u_ex (d := d + 3) rfl ?_
  show en_ex _ _ _ _ (0, [(0, gx_r 8), (1, gx_r 257), (2, .inl 1), (3, .inl to)], [], t0, n, 0) _
  refine ex_go (S := (1, [(0, gx_r 8), (1, gx_r 257), (2, .inl 1), (3, .inl to)], [gx_r 8], t0, n, 0)) rfl (fun _ => rfl) rfl ?_
  refine ex_go (S := (2, [(0, gx_r 8), (1, gx_r 257), (2, .inl 1), (3, .inl to)], [gx_r 257, gx_r 8], t0, n, 0)) rfl (fun _ => rfl) rfl ?_
  refine ex_go (S := (3, [(0, gx_r 8), (1, gx_r 257), (2, .inl 1), (3, .inl to)], [.inl 1, gx_r 257, gx_r 8], t0, n, 0)) rfl (fun _ => rfl) rfl ?_
  obtain ⟨_, r21, rfl⟩ := sc_sled8_257_1 (d + 2) n g0 hC hw hb hS hc
  refine gx_callo (a := 8) rfl rfl g0 rfl rfl rfl r21 rfl ?_
  show en_ex _ _ _ _ (6, [(0, gx_r 8), (1, gx_r 257), (2, .inl 1), (3, .inl to)], [.inl (slp w σ 1)], t0, n, 0) _
  refine ex_go (S := (8, [(4, .inl (slp w σ 1)), (0, gx_r 8), (1, gx_r 257), (2, .inl 1), (3, .inl to)], [], t0, n, 0)) rfl (fun _ => rfl) rfl ?_
  refine ex_go (S := (9, [(4, .inl (slp w σ 1)), (0, gx_r 8), (1, gx_r 257), (2, .inl 1), (3, .inl to)], [gx_r 8], t0, n, 0)) rfl (fun _ => rfl) rfl ?_
  refine gxo_ref (a := 8) (c := 13) rfl g0 rfl rfl rfl rfl rfl ?_
  refine ex_go (S := (13, [(4, .inl (slp w σ 1)), (0, gx_r 8), (1, gx_r 257), (2, .inl 1), (3, .inl to)], [.inl 1, gx_r 13], t0, n, 0)) rfl (fun _ => rfl) rfl ?_
  have k22 : ai_hv t0 13 1 = some (.inl (σ 16)) := x15_1
  refine gx_ag (v := .inl (σ 16)) (cb := fun c => Nat.beq c 2 || Nat.beq c 1) rfl (fun _ => rfl) g0 rfl rfl k22 (by first | decide | omega) rfl ?_
  by_cases hc23 : σ 16 ≠ 0
  · refine gx_1t (c := .ne) rfl (by first | decide | omega) hc23 rfl ?_
    refine ex_go (S := (44, [(4, .inl (slp w σ 1)), (0, gx_r 8), (1, gx_r 257), (2, .inl 1), (3, .inl to)], [.inl 0], t0, n, 0)) rfl (fun _ => rfl) rfl ?_
    refine ex_ret (r := (some (.inl 0), t0, n, 0)) rfl (fun _ => rfl) ?_
    exact ⟨_, rfl, 0, t0, rfl, g0, (fun _ _ _ => rfl), by decide, (fun z => absurd z (by decide)), fun _ => ⟨fun z => by
      obtain ⟨z1, z2, -⟩ := z
      have z1 : ¬ σ 16 = 1 := z1
      omega, rfl⟩⟩
  · refine gx_1f (c := .ne) rfl (by first | decide | omega) hc23 rfl ?_
    refine ex_go (S := (18, [(4, .inl (slp w σ 1)), (0, gx_r 8), (1, gx_r 257), (2, .inl 1), (3, .inl to)], [.inl to], t0, n, 0)) rfl (fun _ => rfl) rfl ?_
    refine ex_go (S := (20, [(4, .inl (slp w σ 1)), (0, gx_r 8), (1, gx_r 257), (2, .inl 1), (3, .inl to)], [.inl (slp w σ 1), .inl to], t0, n, 0)) rfl (fun _ => rfl) rfl ?_
    by_cases hc24 : to = slp w σ 1
    · refine gx_2t (c := .eq) rfl (by first | decide | omega) (by first | decide | omega) hc24 rfl ?_
      refine ex_go (S := (44, [(4, .inl (slp w σ 1)), (0, gx_r 8), (1, gx_r 257), (2, .inl 1), (3, .inl to)], [.inl 0], t0, n, 0)) rfl (fun _ => rfl) rfl ?_
      refine ex_ret (r := (some (.inl 0), t0, n, 0)) rfl (fun _ => rfl) ?_
      exact ⟨_, rfl, 0, t0, rfl, g0, (fun _ _ _ => rfl), by decide, (fun z => absurd z (by decide)), fun _ => ⟨fun z => by
        obtain ⟨z1, z2, -⟩ := z
        have z1 : ¬ σ 16 = 1 := z1
        omega, rfl⟩⟩
    · refine gx_2f (c := .eq) rfl (by first | decide | omega) (by first | decide | omega) hc24 rfl ?_
      refine ex_go (S := (24, [(4, .inl (slp w σ 1)), (0, gx_r 8), (1, gx_r 257), (2, .inl 1), (3, .inl to)], [gx_r 257], t0, n, 0)) rfl (fun _ => rfl) rfl ?_
      refine ex_go (S := (26, [(4, .inl (slp w σ 1)), (0, gx_r 8), (1, gx_r 257), (2, .inl 1), (3, .inl to)], [.inl (slp w σ 1), gx_r 257], t0, n, 0)) rfl (fun _ => rfl) rfl ?_
      obtain ⟨_, r25, rfl⟩ := pz_bit (d + 2) n (t0 := t0) (x := slp w σ 1) (by first | decide | omega)
      refine ex_stat rfl rfl rfl rfl rfl r25 (Nat.le_refl _) rfl ?_
      show en_ex _ _ _ _ (29, [(4, .inl (slp w σ 1)), (0, gx_r 8), (1, gx_r 257), (2, .inl 1), (3, .inl to)], [.inr (.inl (2 ^ (slp w σ 1))), gx_r 257], t0, n, 0) _
      refine ex_go (S := (30, [(4, .inl (slp w σ 1)), (0, gx_r 8), (1, gx_r 257), (2, .inl 1), (3, .inl to)], [gx_r 8, .inr (.inl (2 ^ (slp w σ 1))), gx_r 257], t0, n, 0)) rfl (fun _ => rfl) rfl ?_
      refine gxo_get (a := 8) rfl g0 rfl rfl hS.1 rfl ?_
      obtain ⟨_, r1, y, rfl, hy⟩ := sc_hauled257 d n (H := fun q => decide (q = slp w σ 1)) (s := σ 0) (x := 2 ^ slp w σ 1) g0 hC hX hw (by first | decide | omega) (bts_mk (sz_two hsp) (fun j hj => by rw [Nat.testBit_two_pow, decide_eq_decide]; exact eq_comm))
      refine gx_callo (a := 257) rfl rfl g0 rfl rfl rfl r1 rfl ?_
      show en_ex _ _ _ _ (36, [(4, .inl (slp w σ 1)), (0, gx_r 8), (1, gx_r 257), (2, .inl 1), (3, .inl to)], [.inr (.inl y)], t0, n, 0) _
      refine ex_go (S := (37, [(4, .inl (slp w σ 1)), (0, gx_r 8), (1, gx_r 257), (2, .inl 1), (3, .inl to)], [.inl to, .inr (.inl y)], t0, n, 0)) rfl (fun _ => rfl) rfl ?_
      obtain ⟨_, r26, rfl⟩ := pz_has (d + 1) n (t0 := t0) (x := y) (k := to) hy.1 ht
      have hbt := bts_at hy ht
      have hbv := bv_le (b := y.testBit to)
      refine ex_stat rfl rfl rfl rfl rfl r26 (Nat.le_refl _) rfl ?_
      show en_ex _ _ _ _ (40, [(4, .inl (slp w σ 1)), (0, gx_r 8), (1, gx_r 257), (2, .inl 1), (3, .inl to)], [.inl (bv (y.testBit to))], t0, n, 0) _
      by_cases hc27 : bv (y.testBit to) ≠ 0
      · refine gx_1t (c := .ne) rfl (by first | decide | omega) hc27 rfl ?_
        refine ex_go (S := (46, [(4, .inl (slp w σ 1)), (0, gx_r 8), (1, gx_r 257), (2, .inl 1), (3, .inl to)], [gx_r 8], t0, n, 0)) rfl (fun _ => rfl) rfl ?_
        refine gxo_ref (a := 8) (c := 12) rfl g0 rfl rfl rfl rfl rfl ?_
        refine ex_go (S := (50, [(4, .inl (slp w σ 1)), (0, gx_r 8), (1, gx_r 257), (2, .inl 1), (3, .inl to)], [.inl 1, gx_r 12], t0, n, 0)) rfl (fun _ => rfl) rfl ?_
        refine ex_go (S := (51, [(4, .inl (slp w σ 1)), (0, gx_r 8), (1, gx_r 257), (2, .inl 1), (3, .inl to)], [.inl 1, .inl 1, gx_r 12], t0, n, 0)) rfl (fun _ => rfl) rfl ?_
        refine gx_apv (d := 2) rfl (fun _ => rfl) g0 rfl rfl rfl (show 1 < 2 from by omega) rfl (ai_in_h (by first | decide | omega) (by first | decide | omega) (by first | decide | omega)) rfl (fun t128 g128 k128 e128 => ?_)
        have k29 : ai_hv t128 8 0 = some (.inl (σ 0)) := (e128 8 0 (by first | decide | omega)).trans hS.1
        have k30 : ai_hv t128 13 1 = some (.inl (σ 16)) := (e128 13 1 (by first | decide | omega)).trans k22
        refine ex_go (S := (53, [(4, .inl (slp w σ 1)), (0, gx_r 8), (1, gx_r 257), (2, .inl 1), (3, .inl to)], [gx_r 8], t128, n, 0)) rfl (fun _ => rfl) rfl ?_
        refine gxo_ref (a := 8) (c := 13) rfl g128 rfl rfl rfl rfl rfl ?_
        refine ex_go (S := (57, [(4, .inl (slp w σ 1)), (0, gx_r 8), (1, gx_r 257), (2, .inl 1), (3, .inl to)], [.inl 1, gx_r 13], t128, n, 0)) rfl (fun _ => rfl) rfl ?_
        refine ex_go (S := (58, [(4, .inl (slp w σ 1)), (0, gx_r 8), (1, gx_r 257), (2, .inl 1), (3, .inl to)], [.inl 1, .inl 1, gx_r 13], t128, n, 0)) rfl (fun _ => rfl) rfl ?_
        refine gx_apv (d := 2) rfl (fun _ => rfl) g128 rfl rfl rfl (show 1 < 2 from by omega) rfl (ai_in_h (by first | decide | omega) (by first | decide | omega) (by first | decide | omega)) rfl (fun t131 g131 k131 e131 => ?_)
        have k32 : ai_hv t131 8 0 = some (.inl (σ 0)) := (e131 8 0 (by first | decide | omega)).trans k29
        have k33 : ai_hv t131 12 1 = some (.inl 1) := (e131 12 1 (by first | decide | omega)).trans k128
        refine ex_go (S := (60, [(4, .inl (slp w σ 1)), (0, gx_r 8), (1, gx_r 257), (2, .inl 1), (3, .inl to)], [gx_r 8], t131, n, 0)) rfl (fun _ => rfl) rfl ?_
        refine gxo_ref (a := 8) (c := 14) rfl g131 rfl rfl rfl rfl rfl ?_
        refine ex_go (S := (64, [(4, .inl (slp w σ 1)), (0, gx_r 8), (1, gx_r 257), (2, .inl 1), (3, .inl to)], [.inl 1, gx_r 14], t131, n, 0)) rfl (fun _ => rfl) rfl ?_
        refine ex_go (S := (65, [(4, .inl (slp w σ 1)), (0, gx_r 8), (1, gx_r 257), (2, .inl 1), (3, .inl to)], [.inl to, .inl 1, gx_r 14], t131, n, 0)) rfl (fun _ => rfl) rfl ?_
        refine gx_ap rfl (fun _ => rfl) g131 rfl rfl rfl (show 1 < 2 from by omega) rfl (ai_in_h (by first | decide | omega) (by first | decide | omega) (by first | decide | omega)) rfl (fun t134 g134 k134 e134 => ?_)
        have k35 : ai_hv t134 8 0 = some (.inl (σ 0)) := (e134 8 0 (by first | decide | omega)).trans k32
        have k36 : ai_hv t134 12 1 = some (.inl 1) := (e134 12 1 (by first | decide | omega)).trans k33
        have k37 : ai_hv t134 13 1 = some (.inl 1) := (e134 13 1 (by first | decide | omega)).trans k131
        refine ex_go (S := (67, [(4, .inl (slp w σ 1)), (0, gx_r 8), (1, gx_r 257), (2, .inl 1), (3, .inl to)], [.inl 1], t134, n, 0)) rfl (fun _ => rfl) rfl ?_
        refine ex_ret (r := (some (.inl 1), t134, n, 0)) rfl (fun _ => rfl) ?_
        refine ⟨_, rfl, 1, t134, rfl, g134, (fun c i h => (e134 c i (by first | decide | omega)).trans ((e131 c i (by first | decide | omega)).trans (e128 c i (by first | decide | omega)))), by decide, (fun _ => ⟨⟨?_, ?_, ?_⟩, ?_⟩), fun z => absurd z (by decide)⟩
        · show ¬ σ 16 = 1
          omega
        · omega
        · rw [← hbt]; exact bv_1 (by first | decide | omega)
        · refine ⟨?_, fun i hi => ?_, fun c9 hc9 => ?_⟩
          · rw [sgH_o (by first | decide | omega) (by first | decide | omega) (by first | decide | omega)]; exact ((e134 8 0 (by first | decide | omega)).trans ((e131 8 0 (by first | decide | omega)).trans (e128 8 0 (by first | decide | omega)))).trans (hS.1)
          · rw [sgH_o (by first | decide | omega) (by first | decide | omega) (by first | decide | omega)]; exact ((e134 9 i (by first | decide | omega)).trans ((e131 9 i (by first | decide | omega)).trans (e128 9 i (by first | decide | omega)))).trans (hS.2.1 i hi)
          · rcases (show c9 = 0 ∨ c9 = 1 by omega) with rfl | rfl
            · obtain ⟨y7, y9, y11, y15, y13⟩ := hS.2.2 0 hc9
              refine ⟨?_, ?_, ?_, ?_, ?_⟩
              · rw [sgH_o (by first | decide | omega) (by first | decide | omega) (by first | decide | omega)]; exact ((e134 10 0 (by first | decide | omega)).trans ((e131 10 0 (by first | decide | omega)).trans (e128 10 0 (by first | decide | omega)))).trans (y7)
              · rw [sgH_o (by first | decide | omega) (by first | decide | omega) (by first | decide | omega)]; exact ((e134 11 0 (by first | decide | omega)).trans ((e131 11 0 (by first | decide | omega)).trans (e128 11 0 (by first | decide | omega)))).trans (y9)
              · rw [sgH_o (by first | decide | omega) (by first | decide | omega) (by first | decide | omega)]; exact ((e134 12 0 (by first | decide | omega)).trans ((e131 12 0 (by first | decide | omega)).trans (e128 12 0 (by first | decide | omega)))).trans (y11)
              · rw [sgH_o (by first | decide | omega) (by first | decide | omega) (by first | decide | omega)]; exact ((e134 13 0 (by first | decide | omega)).trans ((e131 13 0 (by first | decide | omega)).trans (e128 13 0 (by first | decide | omega)))).trans (y15)
              · intro z
                rw [sgH_o (by first | decide | omega) (by first | decide | omega) (by first | decide | omega)] at z
                rw [sgH_o (by first | decide | omega) (by first | decide | omega) (by first | decide | omega)]; exact ((e134 14 0 (by first | decide | omega)).trans ((e131 14 0 (by first | decide | omega)).trans (e128 14 0 (by first | decide | omega)))).trans (y13 z)
            · obtain ⟨y7, y9, y11, y15, y13⟩ := hS.2.2 1 hc9
              refine ⟨?_, ?_, ?_, ?_, ?_⟩
              · rw [sgH_o (by first | decide | omega) (by first | decide | omega) (by first | decide | omega)]; exact ((e134 10 1 (by first | decide | omega)).trans ((e131 10 1 (by first | decide | omega)).trans (e128 10 1 (by first | decide | omega)))).trans (y7)
              · rw [sgH_o (by first | decide | omega) (by first | decide | omega) (by first | decide | omega)]; exact ((e134 11 1 (by first | decide | omega)).trans ((e131 11 1 (by first | decide | omega)).trans (e128 11 1 (by first | decide | omega)))).trans (y9)
              · rw [sgH_11]; exact k36
              · rw [sgH_15]; exact k37
              · intro _; rw [sgH_13]; exact k134
      · refine gx_1f (c := .ne) rfl (by first | decide | omega) hc27 rfl ?_
        refine ex_go (S := (44, [(4, .inl (slp w σ 1)), (0, gx_r 8), (1, gx_r 257), (2, .inl 1), (3, .inl to)], [.inl 0], t0, n, 0)) rfl (fun _ => rfl) rfl ?_
        refine ex_ret (r := (some (.inl 0), t0, n, 0)) rfl (fun _ => rfl) ?_
        exact ⟨_, rfl, 0, t0, rfl, g0, (fun _ _ _ => rfl), by decide, (fun z => absurd z (by decide)), fun _ => ⟨(fun z => by
          have h9 := bv_0 (b := y.testBit to) (by first | decide | omega)
          rw [hbt] at h9
          rw [z.2.2] at h9
          cases h9), rfl⟩⟩
theorem sc_lb8_257_1 (d n : Nat) {t0 : en_H} {w : Nat → Nat → Nat} {L : List Nat} {σ : Nat → Nat} {v : Nat} (g0 : ai_HG ah_G t0) (hC : CW t0 257 w L) (hw : WS w) (hb : sbd σ) (hS : SC t0 8 (w 0 2) (w 0 4) σ) (hsum : σ 7 + σ 8 ≤ 19998) (hc : 1 < w 0 4) (hv : v ≤ 999) : ∃ r, en_u (d + 2) 201 [gx_r 8, gx_r 257, .inl 1, .inl v] t0 n = some r ∧ ∃ y t', r = (some (.inl y), t', n, 0) ∧ ai_HG ah_G t' ∧ (∀ c i, ¬ (c = 10 ∨ c = 11) → ai_hv t' c i = ai_hv t0 c i) ∧ (mayL w σ 1 → y = lnv σ 1 v ∧ SC t' 8 (w 0 2) (w 0 4) (sgL σ 1 v)) ∧ (¬ mayL w σ 1 → y = 4294967295 ∧ t' = t0) := by
  have hml : mayL w σ 1 ↔ (w 0 4 = 2 ∧ σ 12 = 1 ∧ 0 < σ 8 ∧ σ 14 = σ (1 + w 3 0)) := Iff.rfl
  have hlv : lnv σ 1 v = min v (σ 8) := rfl
  by_cases h2 : w 0 4 = 2
  · have hS9 := hS
    have hb9 := hb
    obtain ⟨hb1, ⟨hb7, hb8⟩, ⟨hb11, hb12⟩, ⟨hb13, hb14⟩, ⟨hb15, hb16⟩, hb0, hbo9, hb10⟩ := hb9
    have hT := hw.1.2.2.1
    have hK := hw.1.2.2.2.2.1
    obtain ⟨x7_0, x9_0, x11_0, x15_0, x13_0⟩ := hS9.2.2 0 (by first | decide | omega)
    have x13_0 : σ 11 = 1 → ai_hv t0 14 0 = some (.inl (σ 13)) := x13_0
    have w3_0 := (hC.2.2.1 0 (by first | decide | omega)).1
    have hs0 := (hw.2.1 0 (by first | decide | omega)).1
    have hp0 := hb1 (w 3 0) (by first | decide | omega)
    obtain ⟨x7_1, x9_1, x11_1, x15_1, x13_1⟩ := hS9.2.2 1 (by first | decide | omega)
    have x13_1 : σ 12 = 1 → ai_hv t0 14 1 = some (.inl (σ 14)) := x13_1
    have w3_1 := (hC.2.2.1 1 (by first | decide | omega)).1
    have hs1 := (hw.2.1 1 (by first | decide | omega)).1
    have hp1 := hb1 (w 3 1) (by first | decide | omega)
    refine en_u_ex (d := d + 1) rfl ?_
    show en_ex _ _ _ _ (0, [(0, gx_r 8), (1, gx_r 257), (2, .inl 1), (3, .inl v)], [], t0, n, 0) _
    refine ex_go (S := (1, [(0, gx_r 8), (1, gx_r 257), (2, .inl 1), (3, .inl v)], [.inl 1], t0, n, 0)) rfl (fun _ => rfl) rfl ?_
    refine ex_go (S := (2, [(0, gx_r 8), (1, gx_r 257), (2, .inl 1), (3, .inl v)], [.inl 1, .inl 1], t0, n, 0)) rfl (fun _ => rfl) rfl ?_
    refine ex_go (S := (3, [(0, gx_r 8), (1, gx_r 257), (2, .inl 1), (3, .inl v)], [.inl 0], t0, n, 0)) rfl (fun _ => rfl) rfl ?_
    refine ex_go (S := (5, [(4, .inl 0), (0, gx_r 8), (1, gx_r 257), (2, .inl 1), (3, .inl v)], [], t0, n, 0)) rfl (fun _ => rfl) rfl ?_
    refine ex_go (S := (6, [(4, .inl 0), (0, gx_r 8), (1, gx_r 257), (2, .inl 1), (3, .inl v)], [gx_r 257], t0, n, 0)) rfl (fun _ => rfl) rfl ?_
    refine gxo_ref (a := 257) (c := 272) rfl g0 rfl rfl rfl rfl rfl ?_
    refine ex_go (S := (11, [(4, .inl 0), (0, gx_r 8), (1, gx_r 257), (2, .inl 1), (3, .inl v)], [.inl 0, gx_r 272], t0, n, 0)) rfl (fun _ => rfl) rfl ?_
    obtain ⟨_, r121, b121, rfl, hb121, hi121⟩ := pz_holds272 d n (x := 0) (K := w 0 4) g0 (by decide) hC.1.2.2.2.2.2 (by first | decide | omega)
    refine gx_callo (a := 272) rfl rfl g0 rfl rfl rfl r121 rfl ?_
    show en_ex _ _ _ _ (14, [(4, .inl 0), (0, gx_r 8), (1, gx_r 257), (2, .inl 1), (3, .inl v)], [.inl b121], t0, n, 0) _
    refine gx_1f (c := .eq) rfl (by first | decide | omega) (show ¬ (b121 = 0) from by omega) rfl ?_
    refine ex_go (S := (18, [(4, .inl 0), (0, gx_r 8), (1, gx_r 257), (2, .inl 1), (3, .inl v)], [gx_r 8], t0, n, 0)) rfl (fun _ => rfl) rfl ?_
    refine gxo_ref (a := 8) (c := 12) rfl g0 rfl rfl rfl rfl rfl ?_
    refine ex_go (S := (22, [(4, .inl 0), (0, gx_r 8), (1, gx_r 257), (2, .inl 1), (3, .inl v)], [.inl 1, gx_r 12], t0, n, 0)) rfl (fun _ => rfl) rfl ?_
    have k22 : ai_hv t0 12 1 = some (.inl (σ 12)) := x11_1
    refine gx_ag (v := .inl (σ 12)) (cb := fun c => Nat.beq c 2 || Nat.beq c 1) rfl (fun _ => rfl) g0 rfl rfl k22 (by first | decide | omega) rfl ?_
    by_cases hc23 : σ 12 = 0
    · refine gx_1t (c := .eq) rfl (by first | decide | omega) hc23 rfl ?_
      refine ex_go (S := (60, [(4, .inl 0), (0, gx_r 8), (1, gx_r 257), (2, .inl 1), (3, .inl v)], [.inl 4294967295], t0, n, 0)) rfl (fun _ => rfl) rfl ?_
      refine ex_ret (r := (some (.inl 4294967295), t0, n, 0)) rfl (fun _ => rfl) ?_
      exact ⟨_, rfl, _, t0, rfl, g0, (fun _ _ _ => rfl), (fun z => by rw [hml] at z; omega), fun _ => ⟨rfl, rfl⟩⟩
    · refine gx_1f (c := .eq) rfl (by first | decide | omega) hc23 rfl ?_
      refine ex_go (S := (27, [(4, .inl 0), (0, gx_r 8), (1, gx_r 257), (2, .inl 1), (3, .inl v)], [gx_r 8], t0, n, 0)) rfl (fun _ => rfl) rfl ?_
      refine gxo_ref (a := 8) (c := 10) rfl g0 rfl rfl rfl rfl rfl ?_
      refine ex_go (S := (31, [(4, .inl 0), (0, gx_r 8), (1, gx_r 257), (2, .inl 1), (3, .inl v)], [.inl 1, gx_r 10], t0, n, 0)) rfl (fun _ => rfl) rfl ?_
      have k24 : ai_hv t0 10 1 = some (.inl (σ 8)) := x7_1
      refine gx_ag (v := .inl (σ 8)) (cb := fun c => Nat.beq c 0) rfl (fun _ => rfl) g0 rfl rfl k24 (by first | decide | omega) rfl ?_
      by_cases hc25 : σ 8 = 0
      · refine gx_1t (c := .eq) rfl (by first | decide | omega) hc25 rfl ?_
        refine ex_go (S := (60, [(4, .inl 0), (0, gx_r 8), (1, gx_r 257), (2, .inl 1), (3, .inl v)], [.inl 4294967295], t0, n, 0)) rfl (fun _ => rfl) rfl ?_
        refine ex_ret (r := (some (.inl 4294967295), t0, n, 0)) rfl (fun _ => rfl) ?_
        exact ⟨_, rfl, _, t0, rfl, g0, (fun _ _ _ => rfl), (fun z => by rw [hml] at z; omega), fun _ => ⟨rfl, rfl⟩⟩
      · refine gx_1f (c := .eq) rfl (by first | decide | omega) hc25 rfl ?_
        refine ex_go (S := (36, [(4, .inl 0), (0, gx_r 8), (1, gx_r 257), (2, .inl 1), (3, .inl v)], [gx_r 8], t0, n, 0)) rfl (fun _ => rfl) rfl ?_
        refine gxo_ref (a := 8) (c := 14) rfl g0 rfl rfl rfl rfl rfl ?_
        refine ex_go (S := (40, [(4, .inl 0), (0, gx_r 8), (1, gx_r 257), (2, .inl 1), (3, .inl v)], [.inl 1, gx_r 14], t0, n, 0)) rfl (fun _ => rfl) rfl ?_
        have k26 : ai_hv t0 14 1 = some (.inl (σ 14)) := x13_1 (by first | decide | omega)
        refine gx_ag (v := .inl (σ 14)) (cb := fun c => Nat.beq c 0) rfl (fun _ => rfl) g0 rfl rfl k26 (by first | decide | omega) rfl ?_
        refine ex_go (S := (42, [(4, .inl 0), (0, gx_r 8), (1, gx_r 257), (2, .inl 1), (3, .inl v)], [gx_r 8, .inl (σ 14)], t0, n, 0)) rfl (fun _ => rfl) rfl ?_
        refine gxo_ref (a := 8) (c := 9) rfl g0 rfl rfl rfl rfl rfl ?_
        refine ex_go (S := (46, [(4, .inl 0), (0, gx_r 8), (1, gx_r 257), (2, .inl 1), (3, .inl v)], [gx_r 257, gx_r 9, .inl (σ 14)], t0, n, 0)) rfl (fun _ => rfl) rfl ?_
        refine gxo_ref (a := 257) (c := 272) rfl g0 rfl rfl rfl rfl rfl ?_
        refine gxo_ref (a := 272) (c := 274) rfl g0 rfl rfl rfl rfl rfl ?_
        refine ex_go (S := (54, [(4, .inl 0), (0, gx_r 8), (1, gx_r 257), (2, .inl 1), (3, .inl v)], [.inl 0, gx_r 274, gx_r 9, .inl (σ 14)], t0, n, 0)) rfl (fun _ => rfl) rfl ?_
        have k27 : ai_hv t0 274 0 = some (.inl (w 3 0)) := w3_0
        refine gx_ag (v := .inl (w 3 0)) (cb := fun c => Nat.beq c 0) rfl (fun _ => rfl) g0 rfl rfl k27 (by first | decide | omega) rfl ?_
        have k28 : ai_hv t0 9 (w 3 0) = some (.inl (σ (1 + w 3 0))) := hS.2.1 _ (by first | decide | omega)
        refine gx_ag (v := .inl (σ (1 + w 3 0))) (cb := fun c => Nat.beq c 0) rfl (fun _ => rfl) g0 rfl rfl k28 (by first | decide | omega) rfl ?_
        by_cases hc29 : σ 14 = σ (1 + w 3 0)
        · refine gx_2t (c := .eq) rfl (by first | decide | omega) (by first | decide | omega) hc29 rfl ?_
          refine ex_go (S := (62, [(4, .inl 0), (0, gx_r 8), (1, gx_r 257), (2, .inl 1), (3, .inl v)], [.inl v], t0, n, 0)) rfl (fun _ => rfl) rfl ?_
          refine ex_go (S := (63, [(4, .inl 0), (0, gx_r 8), (1, gx_r 257), (2, .inl 1), (3, .inl v)], [gx_r 8, .inl v], t0, n, 0)) rfl (fun _ => rfl) rfl ?_
          refine gxo_ref (a := 8) (c := 10) rfl g0 rfl rfl rfl rfl rfl ?_
          refine ex_go (S := (67, [(4, .inl 0), (0, gx_r 8), (1, gx_r 257), (2, .inl 1), (3, .inl v)], [.inl 1, gx_r 10, .inl v], t0, n, 0)) rfl (fun _ => rfl) rfl ?_
          refine gx_ag (v := .inl (σ 8)) (cb := fun c => Nat.beq c 0) rfl (fun _ => rfl) g0 rfl rfl k24 (by first | decide | omega) rfl ?_
          refine gx_inn rfl rfl rfl (zk_min (by first | decide | omega) (by first | decide | omega)) rfl rfl ?_
          refine ex_go (S := (73, [(5, .inl (min v (σ 8))), (4, .inl 0), (0, gx_r 8), (1, gx_r 257), (2, .inl 1), (3, .inl v)], [], t0, n, 0)) rfl (fun _ => rfl) rfl ?_
          refine ex_go (S := (74, [(5, .inl (min v (σ 8))), (4, .inl 0), (0, gx_r 8), (1, gx_r 257), (2, .inl 1), (3, .inl v)], [gx_r 8], t0, n, 0)) rfl (fun _ => rfl) rfl ?_
          refine gxo_ref (a := 8) (c := 10) rfl g0 rfl rfl rfl rfl rfl ?_
          refine ex_go (S := (78, [(5, .inl (min v (σ 8))), (4, .inl 0), (0, gx_r 8), (1, gx_r 257), (2, .inl 1), (3, .inl v)], [.inl 1, gx_r 10], t0, n, 0)) rfl (fun _ => rfl) rfl ?_
          refine ex_go (S := (79, [(5, .inl (min v (σ 8))), (4, .inl 0), (0, gx_r 8), (1, gx_r 257), (2, .inl 1), (3, .inl v)], [.inl 1, gx_r 10, .inl 1, gx_r 10], t0, n, 0)) rfl (fun _ => rfl) rfl ?_
          refine gx_ag (v := .inl (σ 8)) (cb := fun c => Nat.beq c 0) rfl (fun _ => rfl) g0 rfl rfl k24 (by first | decide | omega) rfl ?_
          refine ex_go (S := (82, [(5, .inl (min v (σ 8))), (4, .inl 0), (0, gx_r 8), (1, gx_r 257), (2, .inl 1), (3, .inl v)], [.inl (min v (σ 8)), .inl (σ 8), .inl 1, gx_r 10], t0, n, 0)) rfl (fun _ => rfl) rfl ?_
          refine gx_isub rfl (by first | decide | omega) (by first | decide | omega) rfl ?_
          refine gx_ap rfl (fun _ => rfl) g0 rfl rfl rfl (show 1 < 2 from by omega) rfl (gx_full (by first | decide | omega)) rfl (fun t130 g130 k130 e130 => ?_)
          have k31 : ai_hv t130 12 1 = some (.inl (σ 12)) := (e130 12 1 (by first | decide | omega)).trans k22
          have k32 : ai_hv t130 14 1 = some (.inl (σ 14)) := (e130 14 1 (by first | decide | omega)).trans k26
          have k33 : ai_hv t130 274 0 = some (.inl (w 3 0)) := (e130 274 0 (by first | decide | omega)).trans k27
          have k34 : ai_hv t130 9 (w 3 0) = some (.inl (σ (1 + w 3 0))) := (e130 9 (w 3 0) (by first | decide | omega)).trans k28
          refine ex_go (S := (85, [(5, .inl (min v (σ 8))), (4, .inl 0), (0, gx_r 8), (1, gx_r 257), (2, .inl 1), (3, .inl v)], [gx_r 8], t130, n, 0)) rfl (fun _ => rfl) rfl ?_
          refine gxo_ref (a := 8) (c := 10) rfl g130 rfl rfl rfl rfl rfl ?_
          refine ex_go (S := (90, [(5, .inl (min v (σ 8))), (4, .inl 0), (0, gx_r 8), (1, gx_r 257), (2, .inl 1), (3, .inl v)], [.inl 0, gx_r 10], t130, n, 0)) rfl (fun _ => rfl) rfl ?_
          refine ex_go (S := (91, [(5, .inl (min v (σ 8))), (4, .inl 0), (0, gx_r 8), (1, gx_r 257), (2, .inl 1), (3, .inl v)], [.inl 0, gx_r 10, .inl 0, gx_r 10], t130, n, 0)) rfl (fun _ => rfl) rfl ?_
          have k35 : ai_hv t130 10 0 = some (.inl (σ 7)) := (e130 10 0 (by first | decide | omega)).trans (x7_0)
          refine gx_ag (v := .inl (σ 7)) (cb := fun c => Nat.beq c 0) rfl (fun _ => rfl) g130 rfl rfl k35 (by first | decide | omega) rfl ?_
          refine ex_go (S := (94, [(5, .inl (min v (σ 8))), (4, .inl 0), (0, gx_r 8), (1, gx_r 257), (2, .inl 1), (3, .inl v)], [.inl (min v (σ 8)), .inl (σ 7), .inl 0, gx_r 10], t130, n, 0)) rfl (fun _ => rfl) rfl ?_
          refine ex_iadd rfl (by first | decide | omega) rfl ?_
          refine gx_ap rfl (fun _ => rfl) g130 rfl rfl rfl (show 0 < 2 from by omega) rfl (gx_full (by first | decide | omega)) rfl (fun t136 g136 k136 e136 => ?_)
          have k37 : ai_hv t136 12 1 = some (.inl (σ 12)) := (e136 12 1 (by first | decide | omega)).trans k31
          have k38 : ai_hv t136 14 1 = some (.inl (σ 14)) := (e136 14 1 (by first | decide | omega)).trans k32
          have k39 : ai_hv t136 274 0 = some (.inl (w 3 0)) := (e136 274 0 (by first | decide | omega)).trans k33
          have k40 : ai_hv t136 9 (w 3 0) = some (.inl (σ (1 + w 3 0))) := (e136 9 (w 3 0) (by first | decide | omega)).trans k34
          have k41 : ai_hv t136 10 1 = some (.inl ((σ 8) - (min v (σ 8)))) := (e136 10 1 (by first | decide | omega)).trans k130
          refine ex_go (S := (97, [(5, .inl (min v (σ 8))), (4, .inl 0), (0, gx_r 8), (1, gx_r 257), (2, .inl 1), (3, .inl v)], [gx_r 8], t136, n, 0)) rfl (fun _ => rfl) rfl ?_
          refine gxo_ref (a := 8) (c := 11) rfl g136 rfl rfl rfl rfl rfl ?_
          refine ex_go (S := (101, [(5, .inl (min v (σ 8))), (4, .inl 0), (0, gx_r 8), (1, gx_r 257), (2, .inl 1), (3, .inl v)], [.inl 1, gx_r 11], t136, n, 0)) rfl (fun _ => rfl) rfl ?_
          refine ex_go (S := (102, [(5, .inl (min v (σ 8))), (4, .inl 0), (0, gx_r 8), (1, gx_r 257), (2, .inl 1), (3, .inl v)], [.inl 1, gx_r 11, .inl 1, gx_r 11], t136, n, 0)) rfl (fun _ => rfl) rfl ?_
          have k42 : ai_hv t136 11 1 = some (.inl (σ 10)) := ((e136 11 1 (by first | decide | omega)).trans (e130 11 1 (by first | decide | omega))).trans (x9_1)
          refine gx_ag (v := .inl (σ 10)) (cb := fun c => Nat.beq c 0) rfl (fun _ => rfl) g136 rfl rfl k42 (by first | decide | omega) rfl ?_
          refine ex_go (S := (105, [(5, .inl (min v (σ 8))), (4, .inl 0), (0, gx_r 8), (1, gx_r 257), (2, .inl 1), (3, .inl v)], [.inl (min v (σ 8)), .inl (σ 10), .inl 1, gx_r 11], t136, n, 0)) rfl (fun _ => rfl) rfl ?_
          have hw43 : en_wrap ((σ 10) + (min v (σ 8))) < 4294967296 := wrap_lt
          refine gs_iaddx rfl rfl ?_
          refine gx_ap rfl (fun _ => rfl) g136 rfl rfl rfl (show 1 < 2 from by omega) rfl (gx_full (by first | decide | omega)) rfl (fun t144 g144 k144 e144 => ?_)
          have k45 : ai_hv t144 12 1 = some (.inl (σ 12)) := (e144 12 1 (by first | decide | omega)).trans k37
          have k46 : ai_hv t144 14 1 = some (.inl (σ 14)) := (e144 14 1 (by first | decide | omega)).trans k38
          have k47 : ai_hv t144 274 0 = some (.inl (w 3 0)) := (e144 274 0 (by first | decide | omega)).trans k39
          have k48 : ai_hv t144 9 (w 3 0) = some (.inl (σ (1 + w 3 0))) := (e144 9 (w 3 0) (by first | decide | omega)).trans k40
          have k49 : ai_hv t144 10 1 = some (.inl ((σ 8) - (min v (σ 8)))) := (e144 10 1 (by first | decide | omega)).trans k41
          have k50 : ai_hv t144 10 0 = some (.inl ((σ 7) + (min v (σ 8)))) := (e144 10 0 (by first | decide | omega)).trans k136
          refine ex_go (S := (108, [(5, .inl (min v (σ 8))), (4, .inl 0), (0, gx_r 8), (1, gx_r 257), (2, .inl 1), (3, .inl v)], [gx_r 8], t144, n, 0)) rfl (fun _ => rfl) rfl ?_
          refine gxo_ref (a := 8) (c := 11) rfl g144 rfl rfl rfl rfl rfl ?_
          refine ex_go (S := (113, [(5, .inl (min v (σ 8))), (4, .inl 0), (0, gx_r 8), (1, gx_r 257), (2, .inl 1), (3, .inl v)], [.inl 0, gx_r 11], t144, n, 0)) rfl (fun _ => rfl) rfl ?_
          refine ex_go (S := (114, [(5, .inl (min v (σ 8))), (4, .inl 0), (0, gx_r 8), (1, gx_r 257), (2, .inl 1), (3, .inl v)], [.inl 0, gx_r 11, .inl 0, gx_r 11], t144, n, 0)) rfl (fun _ => rfl) rfl ?_
          have k51 : ai_hv t144 11 0 = some (.inl (σ 9)) := ((e144 11 0 (by first | decide | omega)).trans ((e136 11 0 (by first | decide | omega)).trans (e130 11 0 (by first | decide | omega)))).trans (x9_0)
          refine gx_ag (v := .inl (σ 9)) (cb := fun c => Nat.beq c 0) rfl (fun _ => rfl) g144 rfl rfl k51 (by first | decide | omega) rfl ?_
          refine ex_go (S := (117, [(5, .inl (min v (σ 8))), (4, .inl 0), (0, gx_r 8), (1, gx_r 257), (2, .inl 1), (3, .inl v)], [.inl (min v (σ 8)), .inl (σ 9), .inl 0, gx_r 11], t144, n, 0)) rfl (fun _ => rfl) rfl ?_
          have hw52 : isb (σ 9) (min v (σ 8)) < 4294967296 := isb_lt
          refine gx_isbx rfl rfl ?_
          refine gx_ap rfl (fun _ => rfl) g144 rfl rfl rfl (show 0 < 2 from by omega) rfl (gx_full (by first | decide | omega)) rfl (fun t153 g153 k153 e153 => ?_)
          have k54 : ai_hv t153 12 1 = some (.inl (σ 12)) := (e153 12 1 (by first | decide | omega)).trans k45
          have k55 : ai_hv t153 14 1 = some (.inl (σ 14)) := (e153 14 1 (by first | decide | omega)).trans k46
          have k56 : ai_hv t153 274 0 = some (.inl (w 3 0)) := (e153 274 0 (by first | decide | omega)).trans k47
          have k57 : ai_hv t153 9 (w 3 0) = some (.inl (σ (1 + w 3 0))) := (e153 9 (w 3 0) (by first | decide | omega)).trans k48
          have k58 : ai_hv t153 10 1 = some (.inl ((σ 8) - (min v (σ 8)))) := (e153 10 1 (by first | decide | omega)).trans k49
          have k59 : ai_hv t153 10 0 = some (.inl ((σ 7) + (min v (σ 8)))) := (e153 10 0 (by first | decide | omega)).trans k50
          have k60 : ai_hv t153 11 1 = some (.inl (en_wrap ((σ 10) + (min v (σ 8))))) := (e153 11 1 (by first | decide | omega)).trans k144
          refine ex_go (S := (121, [(5, .inl (min v (σ 8))), (4, .inl 0), (0, gx_r 8), (1, gx_r 257), (2, .inl 1), (3, .inl v)], [.inl (min v (σ 8))], t153, n, 0)) rfl (fun _ => rfl) rfl ?_
          refine ex_ret (r := (some (.inl (min v (σ 8))), t153, n, 0)) rfl (fun _ => rfl) ?_
          have hl9 : lnv σ 1 v = min v (σ 8) := by omega
          refine ⟨_, rfl, _, t153, rfl, g153, (fun c i h => (e153 c i (by first | decide | omega)).trans ((e144 c i (by first | decide | omega)).trans ((e136 c i (by first | decide | omega)).trans (e130 c i (by first | decide | omega))))), (fun _ => ⟨hl9.symm, ?_⟩), fun z => absurd (by rw [hml]; omega) z⟩
          refine ⟨?_, fun i hi => ?_, fun c9 hc9 => ?_⟩
          · rw [sgL_o (by first | decide | omega) (by first | decide | omega) (by first | decide | omega) (by first | decide | omega)]; exact ((e153 8 0 (by first | decide | omega)).trans ((e144 8 0 (by first | decide | omega)).trans ((e136 8 0 (by first | decide | omega)).trans (e130 8 0 (by first | decide | omega))))).trans (hS.1)
          · rw [sgL_o (by first | decide | omega) (by first | decide | omega) (by first | decide | omega) (by first | decide | omega)]; exact ((e153 9 i (by first | decide | omega)).trans ((e144 9 i (by first | decide | omega)).trans ((e136 9 i (by first | decide | omega)).trans (e130 9 i (by first | decide | omega))))).trans (hS.2.1 i hi)
          · rcases (show c9 = 0 ∨ c9 = 1 by omega) with rfl | rfl
            · obtain ⟨y7, y9, y11, y15, y13⟩ := hS.2.2 0 hc9
              refine ⟨?_, ?_, ?_, ?_, ?_⟩
              · rw [show 7 + 0 = 8 - 1 from rfl, sgL_8 (by first | decide | omega), hl9]; exact k59
              · rw [show 9 + 0 = 10 - 1 from rfl, sgL_10 (by first | decide | omega), hl9]; exact k153
              · rw [sgL_o (by first | decide | omega) (by first | decide | omega) (by first | decide | omega) (by first | decide | omega)]; exact ((e153 12 0 (by first | decide | omega)).trans ((e144 12 0 (by first | decide | omega)).trans ((e136 12 0 (by first | decide | omega)).trans (e130 12 0 (by first | decide | omega))))).trans (y11)
              · rw [sgL_o (by first | decide | omega) (by first | decide | omega) (by first | decide | omega) (by first | decide | omega)]; exact ((e153 13 0 (by first | decide | omega)).trans ((e144 13 0 (by first | decide | omega)).trans ((e136 13 0 (by first | decide | omega)).trans (e130 13 0 (by first | decide | omega))))).trans (y15)
              · intro z
                rw [sgL_o (by first | decide | omega) (by first | decide | omega) (by first | decide | omega) (by first | decide | omega)] at z
                rw [sgL_o (by first | decide | omega) (by first | decide | omega) (by first | decide | omega) (by first | decide | omega)]; exact ((e153 14 0 (by first | decide | omega)).trans ((e144 14 0 (by first | decide | omega)).trans ((e136 14 0 (by first | decide | omega)).trans (e130 14 0 (by first | decide | omega))))).trans (y13 z)
            · obtain ⟨y7, y9, y11, y15, y13⟩ := hS.2.2 1 hc9
              refine ⟨?_, ?_, ?_, ?_, ?_⟩
              · rw [sgL_7, hl9]; exact k58
              · rw [sgL_9 (by first | decide | omega), hl9]; exact k60
              · rw [sgL_o (by first | decide | omega) (by first | decide | omega) (by first | decide | omega) (by first | decide | omega)]; exact ((e153 12 1 (by first | decide | omega)).trans ((e144 12 1 (by first | decide | omega)).trans ((e136 12 1 (by first | decide | omega)).trans (e130 12 1 (by first | decide | omega))))).trans (y11)
              · rw [sgL_o (by first | decide | omega) (by first | decide | omega) (by first | decide | omega) (by first | decide | omega)]; exact ((e153 13 1 (by first | decide | omega)).trans ((e144 13 1 (by first | decide | omega)).trans ((e136 13 1 (by first | decide | omega)).trans (e130 13 1 (by first | decide | omega))))).trans (y15)
              · intro z
                rw [sgL_o (by first | decide | omega) (by first | decide | omega) (by first | decide | omega) (by first | decide | omega)] at z
                rw [sgL_o (by first | decide | omega) (by first | decide | omega) (by first | decide | omega) (by first | decide | omega)]; exact ((e153 14 1 (by first | decide | omega)).trans ((e144 14 1 (by first | decide | omega)).trans ((e136 14 1 (by first | decide | omega)).trans (e130 14 1 (by first | decide | omega))))).trans (y13 z)
        · refine gx_2f (c := .eq) rfl (by first | decide | omega) (by first | decide | omega) hc29 rfl ?_
          refine ex_go (S := (60, [(4, .inl 0), (0, gx_r 8), (1, gx_r 257), (2, .inl 1), (3, .inl v)], [.inl 4294967295], t0, n, 0)) rfl (fun _ => rfl) rfl ?_
          refine ex_ret (r := (some (.inl 4294967295), t0, n, 0)) rfl (fun _ => rfl) ?_
          exact ⟨_, rfl, _, t0, rfl, g0, (fun _ _ _ => rfl), (fun z => by rw [hml] at z; omega), fun _ => ⟨rfl, rfl⟩⟩
  · have hS9 := hS
    have hb9 := hb
    obtain ⟨hb1, ⟨hb7, hb8⟩, ⟨hb11, hb12⟩, ⟨hb13, hb14⟩, ⟨hb15, hb16⟩, hb0, hbo9, hb10⟩ := hb9
    have hT := hw.1.2.2.1
    have hK := hw.1.2.2.2.2.1
    obtain ⟨x7_1, x9_1, x11_1, x15_1, x13_1⟩ := hS9.2.2 1 (by first | decide | omega)
    have x13_1 : σ 12 = 1 → ai_hv t0 14 1 = some (.inl (σ 14)) := x13_1
    have w3_1 := (hC.2.2.1 1 (by first | decide | omega)).1
    have hs1 := (hw.2.1 1 (by first | decide | omega)).1
    have hp1 := hb1 (w 3 1) (by first | decide | omega)
    refine en_u_ex (d := d + 1) rfl ?_
    show en_ex _ _ _ _ (0, [(0, gx_r 8), (1, gx_r 257), (2, .inl 1), (3, .inl v)], [], t0, n, 0) _
    refine ex_go (S := (1, [(0, gx_r 8), (1, gx_r 257), (2, .inl 1), (3, .inl v)], [.inl 1], t0, n, 0)) rfl (fun _ => rfl) rfl ?_
    refine ex_go (S := (2, [(0, gx_r 8), (1, gx_r 257), (2, .inl 1), (3, .inl v)], [.inl 1, .inl 1], t0, n, 0)) rfl (fun _ => rfl) rfl ?_
    refine ex_go (S := (3, [(0, gx_r 8), (1, gx_r 257), (2, .inl 1), (3, .inl v)], [.inl 0], t0, n, 0)) rfl (fun _ => rfl) rfl ?_
    refine ex_go (S := (5, [(4, .inl 0), (0, gx_r 8), (1, gx_r 257), (2, .inl 1), (3, .inl v)], [], t0, n, 0)) rfl (fun _ => rfl) rfl ?_
    refine ex_go (S := (6, [(4, .inl 0), (0, gx_r 8), (1, gx_r 257), (2, .inl 1), (3, .inl v)], [gx_r 257], t0, n, 0)) rfl (fun _ => rfl) rfl ?_
    refine gxo_ref (a := 257) (c := 272) rfl g0 rfl rfl rfl rfl rfl ?_
    refine ex_go (S := (11, [(4, .inl 0), (0, gx_r 8), (1, gx_r 257), (2, .inl 1), (3, .inl v)], [.inl 0, gx_r 272], t0, n, 0)) rfl (fun _ => rfl) rfl ?_
    obtain ⟨_, r121, b121, rfl, hb121, hi121⟩ := pz_holds272 d n (x := 0) (K := w 0 4) g0 (by decide) hC.1.2.2.2.2.2 (by first | decide | omega)
    refine gx_callo (a := 272) rfl rfl g0 rfl rfl rfl r121 rfl ?_
    show en_ex _ _ _ _ (14, [(4, .inl 0), (0, gx_r 8), (1, gx_r 257), (2, .inl 1), (3, .inl v)], [.inl b121], t0, n, 0) _
    refine gx_1t (c := .eq) rfl (by first | decide | omega) (show b121 = 0 from by omega) rfl ?_
    refine ex_go (S := (60, [(4, .inl 0), (0, gx_r 8), (1, gx_r 257), (2, .inl 1), (3, .inl v)], [.inl 4294967295], t0, n, 0)) rfl (fun _ => rfl) rfl ?_
    refine ex_ret (r := (some (.inl 4294967295), t0, n, 0)) rfl (fun _ => rfl) ?_
    exact ⟨_, rfl, _, t0, rfl, g0, (fun _ _ _ => rfl), (fun z => by rw [hml] at z; omega), fun _ => ⟨rfl, rfl⟩⟩
theorem sc_bi8_257_1 (d n : Nat) {t0 : en_H} {w : Nat → Nat → Nat} {L : List Nat} {σ : Nat → Nat} (g0 : ai_HG ah_G t0) (hC : CW t0 257 w L) (hw : WS w) (hb : sbd σ) (hS : SC t0 8 (w 0 2) (w 0 4) σ) (hc : 1 < w 0 4) : ∃ r, en_u (d + 1) 202 [gx_r 8, gx_r 257, .inl 1] t0 n = some r ∧ ∃ y t', r = (some (.inl y), t', n, 0) ∧ ai_HG ah_G t' ∧ (∀ c i, ¬ c = 12 → ai_hv t' c i = ai_hv t0 c i) ∧ y ≤ 1 ∧ (y = 1 → mayM w σ 1 ∧ SC t' 8 (w 0 2) (w 0 4) (sgM' σ 1)) ∧ (y = 0 → ¬ mayM w σ 1 ∧ t' = t0) := by
  have hml : mayM w σ 1 ↔ (σ 12 = 1 ∧ σ 14 = σ (1 + w 3 1)) := Iff.rfl
  have hS9 := hS
  have hb9 := hb
  obtain ⟨hb1, ⟨hb7, hb8⟩, ⟨hb11, hb12⟩, ⟨hb13, hb14⟩, ⟨hb15, hb16⟩, hb0, hbo9, hb10⟩ := hb9
  have hT := hw.1.2.2.1
  have hK := hw.1.2.2.2.2.1
  obtain ⟨x7_1, x9_1, x11_1, x15_1, x13_1⟩ := hS9.2.2 1 (by first | decide | omega)
  have x13_1 : σ 12 = 1 → ai_hv t0 14 1 = some (.inl (σ 14)) := x13_1
  have w3_1 := (hC.2.2.1 1 (by first | decide | omega)).1
  have hs1 := (hw.2.1 1 (by first | decide | omega)).1
  have hp1 := hb1 (w 3 1) (by first | decide | omega)
  refine en_u_ex rfl ?_
  show en_ex _ _ _ _ (0, [(0, gx_r 8), (1, gx_r 257), (2, .inl 1)], [], t0, n, 0) _
  refine ex_go (S := (1, [(0, gx_r 8), (1, gx_r 257), (2, .inl 1)], [gx_r 8], t0, n, 0)) rfl (fun _ => rfl) rfl ?_
  refine gxo_ref (a := 8) (c := 12) rfl g0 rfl rfl rfl rfl rfl ?_
  refine ex_go (S := (5, [(0, gx_r 8), (1, gx_r 257), (2, .inl 1)], [.inl 1, gx_r 12], t0, n, 0)) rfl (fun _ => rfl) rfl ?_
  have k21 : ai_hv t0 12 1 = some (.inl (σ 12)) := x11_1
  refine gx_ag (v := .inl (σ 12)) (cb := fun c => Nat.beq c 2 || Nat.beq c 1) rfl (fun _ => rfl) g0 rfl rfl k21 (by first | decide | omega) rfl ?_
  by_cases hc22 : σ 12 = 0
  · refine gx_1t (c := .eq) rfl (by first | decide | omega) hc22 rfl ?_
    refine ex_go (S := (33, [(0, gx_r 8), (1, gx_r 257), (2, .inl 1)], [.inl 0], t0, n, 0)) rfl (fun _ => rfl) rfl ?_
    refine ex_ret (r := (some (.inl 0), t0, n, 0)) rfl (fun _ => rfl) ?_
    exact ⟨_, rfl, 0, t0, rfl, g0, (fun _ _ _ => rfl), by decide, (fun z => absurd z (by decide)), fun _ => ⟨fun z => by rw [hml] at z; omega, rfl⟩⟩
  · refine gx_1f (c := .eq) rfl (by first | decide | omega) hc22 rfl ?_
    refine ex_go (S := (10, [(0, gx_r 8), (1, gx_r 257), (2, .inl 1)], [gx_r 8], t0, n, 0)) rfl (fun _ => rfl) rfl ?_
    refine gxo_ref (a := 8) (c := 14) rfl g0 rfl rfl rfl rfl rfl ?_
    refine ex_go (S := (14, [(0, gx_r 8), (1, gx_r 257), (2, .inl 1)], [.inl 1, gx_r 14], t0, n, 0)) rfl (fun _ => rfl) rfl ?_
    have k23 : ai_hv t0 14 1 = some (.inl (σ 14)) := x13_1 (by first | decide | omega)
    refine gx_ag (v := .inl (σ 14)) (cb := fun c => Nat.beq c 0) rfl (fun _ => rfl) g0 rfl rfl k23 (by first | decide | omega) rfl ?_
    refine ex_go (S := (16, [(0, gx_r 8), (1, gx_r 257), (2, .inl 1)], [gx_r 8, .inl (σ 14)], t0, n, 0)) rfl (fun _ => rfl) rfl ?_
    refine gxo_ref (a := 8) (c := 9) rfl g0 rfl rfl rfl rfl rfl ?_
    refine ex_go (S := (20, [(0, gx_r 8), (1, gx_r 257), (2, .inl 1)], [gx_r 257, gx_r 9, .inl (σ 14)], t0, n, 0)) rfl (fun _ => rfl) rfl ?_
    refine gxo_ref (a := 257) (c := 272) rfl g0 rfl rfl rfl rfl rfl ?_
    refine gxo_ref (a := 272) (c := 274) rfl g0 rfl rfl rfl rfl rfl ?_
    refine ex_go (S := (27, [(0, gx_r 8), (1, gx_r 257), (2, .inl 1)], [.inl 1, gx_r 274, gx_r 9, .inl (σ 14)], t0, n, 0)) rfl (fun _ => rfl) rfl ?_
    have k24 : ai_hv t0 274 1 = some (.inl (w 3 1)) := w3_1
    refine gx_ag (v := .inl (w 3 1)) (cb := fun c => Nat.beq c 0) rfl (fun _ => rfl) g0 rfl rfl k24 (by first | decide | omega) rfl ?_
    have k25 : ai_hv t0 9 (w 3 1) = some (.inl (σ (1 + w 3 1))) := hS.2.1 _ (by first | decide | omega)
    refine gx_ag (v := .inl (σ (1 + w 3 1))) (cb := fun c => Nat.beq c 0) rfl (fun _ => rfl) g0 rfl rfl k25 (by first | decide | omega) rfl ?_
    by_cases hc26 : σ 14 = σ (1 + w 3 1)
    · refine gx_2t (c := .eq) rfl (by first | decide | omega) (by first | decide | omega) hc26 rfl ?_
      refine ex_go (S := (35, [(0, gx_r 8), (1, gx_r 257), (2, .inl 1)], [gx_r 8], t0, n, 0)) rfl (fun _ => rfl) rfl ?_
      refine gxo_ref (a := 8) (c := 12) rfl g0 rfl rfl rfl rfl rfl ?_
      refine ex_go (S := (39, [(0, gx_r 8), (1, gx_r 257), (2, .inl 1)], [.inl 1, gx_r 12], t0, n, 0)) rfl (fun _ => rfl) rfl ?_
      refine ex_go (S := (40, [(0, gx_r 8), (1, gx_r 257), (2, .inl 1)], [.inl 0, .inl 1, gx_r 12], t0, n, 0)) rfl (fun _ => rfl) rfl ?_
      refine gx_apv (d := 2) rfl (fun _ => rfl) g0 rfl rfl rfl (show 1 < 2 from by omega) rfl (ai_in_h (by first | decide | omega) (by first | decide | omega) (by first | decide | omega)) rfl (fun t127 g127 k127 e127 => ?_)
      have k28 : ai_hv t127 14 1 = some (.inl (σ 14)) := (e127 14 1 (by first | decide | omega)).trans k23
      have k29 : ai_hv t127 274 1 = some (.inl (w 3 1)) := (e127 274 1 (by first | decide | omega)).trans k24
      have k30 : ai_hv t127 9 (w 3 1) = some (.inl (σ (1 + w 3 1))) := (e127 9 (w 3 1) (by first | decide | omega)).trans k25
      refine ex_go (S := (42, [(0, gx_r 8), (1, gx_r 257), (2, .inl 1)], [.inl 1], t127, n, 0)) rfl (fun _ => rfl) rfl ?_
      refine ex_ret (r := (some (.inl 1), t127, n, 0)) rfl (fun _ => rfl) ?_
      refine ⟨_, rfl, 1, t127, rfl, g127, (fun c i h => e127 c i (by first | decide | omega)), by decide, (fun _ => ⟨by rw [hml]; omega, ?_⟩), fun z => absurd z (by decide)⟩
      refine ⟨?_, fun i hi => ?_, fun c9 hc9 => ?_⟩
      · rw [sgM_o (by first | decide | omega)]; exact (e127 8 0 (by first | decide | omega)).trans (hS.1)
      · rw [sgM_o (by first | decide | omega)]; exact (e127 9 i (by first | decide | omega)).trans (hS.2.1 i hi)
      · rcases (show c9 = 0 ∨ c9 = 1 by omega) with rfl | rfl
        · obtain ⟨y7, y9, y11, y15, y13⟩ := hS.2.2 0 hc9
          refine ⟨?_, ?_, ?_, ?_, ?_⟩
          · rw [sgM_o (by first | decide | omega)]; exact (e127 10 0 (by first | decide | omega)).trans (y7)
          · rw [sgM_o (by first | decide | omega)]; exact (e127 11 0 (by first | decide | omega)).trans (y9)
          · rw [sgM_o (by first | decide | omega)]; exact (e127 12 0 (by first | decide | omega)).trans (y11)
          · rw [sgM_o (by first | decide | omega)]; exact (e127 13 0 (by first | decide | omega)).trans (y15)
          · intro z
            rw [sgM_o (by first | decide | omega)] at z
            rw [sgM_o (by first | decide | omega)]; exact (e127 14 0 (by first | decide | omega)).trans (y13 z)
        · obtain ⟨y7, y9, y11, y15, y13⟩ := hS.2.2 1 hc9
          refine ⟨?_, ?_, ?_, ?_, ?_⟩
          · rw [sgM_o (by first | decide | omega)]; exact (e127 10 1 (by first | decide | omega)).trans (y7)
          · rw [sgM_o (by first | decide | omega)]; exact (e127 11 1 (by first | decide | omega)).trans (y9)
          · rw [sgM_11]; exact k127
          · rw [sgM_o (by first | decide | omega)]; exact (e127 13 1 (by first | decide | omega)).trans (y15)
          · intro z; rw [sgM_11] at z; exact absurd z (by decide)
    · refine gx_2f (c := .eq) rfl (by first | decide | omega) (by first | decide | omega) hc26 rfl ?_
      refine ex_go (S := (33, [(0, gx_r 8), (1, gx_r 257), (2, .inl 1)], [.inl 0], t0, n, 0)) rfl (fun _ => rfl) rfl ?_
      refine ex_ret (r := (some (.inl 0), t0, n, 0)) rfl (fun _ => rfl) ?_
      exact ⟨_, rfl, 0, t0, rfl, g0, (fun _ _ _ => rfl), by decide, (fun z => absurd z (by decide)), fun _ => ⟨fun z => by rw [hml] at z; omega, rfl⟩⟩
theorem sc_hs8_257 (d n : Nat) {t0 : en_H} {w : Nat → Nat → Nat} {L : List Nat} {σ : Nat → Nat} {c : Nat} {to : Nat} (g0 : ai_HG ah_G t0) (hC : CW t0 257 w L) (hw : WS w) (hb : sbd σ) (hS : SC t0 8 (w 0 2) (w 0 4) σ) (hX : CX t0 257 w) (hB : σ 0 ≤ 900000) (hc : c < w 0 4) (ht : to < 64) : ∃ r, en_u (d + 4) 200 [gx_r 8, gx_r 257, .inl c, .inl to] t0 n = some r ∧ ∃ v t', r = (some (.inl v), t', n, 0) ∧ ai_HG ah_G t' ∧ (∀ c i, ¬ (c = 12 ∨ c = 13 ∨ c = 14) → ai_hv t' c i = ai_hv t0 c i) ∧ v ≤ 1 ∧ (v = 1 → mayH w σ c to ∧ SC t' 8 (w 0 2) (w 0 4) (sgH σ c to)) ∧ (v = 0 → ¬ mayH w σ c to ∧ t' = t0) := by
  have hK := hw.1.2.2.2.2.1
  rcases (show c = 0 ∨ c = 1 by omega) with rfl | rfl
  · exact sc_hs8_257_0 d n g0 hC hw hb hS hX hB hc ht
  · exact sc_hs8_257_1 d n g0 hC hw hb hS hX hB hc ht
theorem sc_lb8_257 (d n : Nat) {t0 : en_H} {w : Nat → Nat → Nat} {L : List Nat} {σ : Nat → Nat} {c : Nat} {v : Nat} (g0 : ai_HG ah_G t0) (hC : CW t0 257 w L) (hw : WS w) (hb : sbd σ) (hS : SC t0 8 (w 0 2) (w 0 4) σ) (hsum : σ 7 + σ 8 ≤ 19998) (hc : c < w 0 4) (hv : v ≤ 999) : ∃ r, en_u (d + 2) 201 [gx_r 8, gx_r 257, .inl c, .inl v] t0 n = some r ∧ ∃ y t', r = (some (.inl y), t', n, 0) ∧ ai_HG ah_G t' ∧ (∀ c i, ¬ (c = 10 ∨ c = 11) → ai_hv t' c i = ai_hv t0 c i) ∧ (mayL w σ c → y = lnv σ c v ∧ SC t' 8 (w 0 2) (w 0 4) (sgL σ c v)) ∧ (¬ mayL w σ c → y = 4294967295 ∧ t' = t0) := by
  have hK := hw.1.2.2.2.2.1
  rcases (show c = 0 ∨ c = 1 by omega) with rfl | rfl
  · exact sc_lb8_257_0 d n g0 hC hw hb hS hsum hc hv
  · exact sc_lb8_257_1 d n g0 hC hw hb hS hsum hc hv
theorem sc_bi8_257 (d n : Nat) {t0 : en_H} {w : Nat → Nat → Nat} {L : List Nat} {σ : Nat → Nat} {c : Nat} (g0 : ai_HG ah_G t0) (hC : CW t0 257 w L) (hw : WS w) (hb : sbd σ) (hS : SC t0 8 (w 0 2) (w 0 4) σ) (hc : c < w 0 4) : ∃ r, en_u (d + 1) 202 [gx_r 8, gx_r 257, .inl c] t0 n = some r ∧ ∃ y t', r = (some (.inl y), t', n, 0) ∧ ai_HG ah_G t' ∧ (∀ c i, ¬ c = 12 → ai_hv t' c i = ai_hv t0 c i) ∧ y ≤ 1 ∧ (y = 1 → mayM w σ c ∧ SC t' 8 (w 0 2) (w 0 4) (sgM' σ c)) ∧ (y = 0 → ¬ mayM w σ c ∧ t' = t0) := by
  have hK := hw.1.2.2.2.2.1
  rcases (show c = 0 ∨ c = 1 by omega) with rfl | rfl
  · exact sc_bi8_257_0 d n g0 hC hw hb hS hc
  · exact sc_bi8_257_1 d n g0 hC hw hb hS hc
theorem sc_sled15_191_0 (d n : Nat) {t0 : en_H} {w : Nat → Nat → Nat} {L : List Nat} {σ : Nat → Nat} (g0 : ai_HG ah_G t0) (hC : CW t0 191 w L) (hw : WS w) (hb : sbd σ) (hS : SC t0 15 (w 0 2) (w 0 4) σ) (hc : 0 < w 0 4) : ∃ r, en_u (d + 1) 172 [gx_r 15, gx_r 191, .inl 0] t0 n = some r ∧ r = (some (.inl (slp w σ 0)), t0, n, 0) := by
  have hS9 := hS
  have hb9 := hb
  obtain ⟨hb1, ⟨hb7, hb8⟩, ⟨hb11, hb12⟩, ⟨hb13, hb14⟩, ⟨hb15, hb16⟩, hb0, hbo9, hb10⟩ := hb9
  have hT := hw.1.2.2.1
  have hK := hw.1.2.2.2.2.1
  obtain ⟨x7_0, x9_0, x11_0, x15_0, x13_0⟩ := hS9.2.2 0 (by first | decide | omega)
  have x13_0 : σ 11 = 1 → ai_hv t0 21 0 = some (.inl (σ 13)) := x13_0
  have w3_0 := (hC.2.2.1 0 (by first | decide | omega)).1
  have hs0 := (hw.2.1 0 (by first | decide | omega)).1
  have hp0 := hb1 (w 3 0) (by first | decide | omega)
  have hsl : slp w σ 0 = if σ 11 = 1 then σ 13 else σ (1 + w 3 0) := rfl
  refine en_u_ex rfl ?_
  show en_ex _ _ _ _ (0, [(0, gx_r 15), (1, gx_r 191), (2, .inl 0)], [], t0, n, 0) _
  refine ex_go (S := (1, [(0, gx_r 15), (1, gx_r 191), (2, .inl 0)], [gx_r 15], t0, n, 0)) rfl (fun _ => rfl) rfl ?_
  refine gxo_ref (a := 15) (c := 19) rfl g0 rfl rfl rfl rfl rfl ?_
  refine ex_go (S := (5, [(0, gx_r 15), (1, gx_r 191), (2, .inl 0)], [.inl 0, gx_r 19], t0, n, 0)) rfl (fun _ => rfl) rfl ?_
  have k21 : ai_hv t0 19 0 = some (.inl (σ 11)) := x11_0
  refine gx_ag (v := .inl (σ 11)) (cb := fun c => Nat.beq c 2 || Nat.beq c 1) rfl (fun _ => rfl) g0 rfl rfl k21 (by first | decide | omega) rfl ?_
  by_cases hc22 : σ 11 = 0
  · refine gx_1t (c := .eq) rfl (by first | decide | omega) hc22 rfl ?_
    refine ex_go (S := (19, [(0, gx_r 15), (1, gx_r 191), (2, .inl 0)], [gx_r 15], t0, n, 0)) rfl (fun _ => rfl) rfl ?_
    refine gxo_ref (a := 15) (c := 16) rfl g0 rfl rfl rfl rfl rfl ?_
    refine ex_go (S := (23, [(0, gx_r 15), (1, gx_r 191), (2, .inl 0)], [gx_r 191, gx_r 16], t0, n, 0)) rfl (fun _ => rfl) rfl ?_
    refine gxo_ref (a := 191) (c := 206) rfl g0 rfl rfl rfl rfl rfl ?_
    refine gxo_ref (a := 206) (c := 208) rfl g0 rfl rfl rfl rfl rfl ?_
    refine ex_go (S := (30, [(0, gx_r 15), (1, gx_r 191), (2, .inl 0)], [.inl 0, gx_r 208, gx_r 16], t0, n, 0)) rfl (fun _ => rfl) rfl ?_
    have k23 : ai_hv t0 208 0 = some (.inl (w 3 0)) := w3_0
    refine gx_ag (v := .inl (w 3 0)) (cb := fun c => Nat.beq c 0) rfl (fun _ => rfl) g0 rfl rfl k23 (by first | decide | omega) rfl ?_
    have k24 : ai_hv t0 16 (w 3 0) = some (.inl (σ (1 + w 3 0))) := hS.2.1 _ (by first | decide | omega)
    refine gx_ag (v := .inl (σ (1 + w 3 0))) (cb := fun c => Nat.beq c 0) rfl (fun _ => rfl) g0 rfl rfl k24 (by first | decide | omega) rfl ?_
    refine ex_ret (r := (some (.inl (σ (1 + w 3 0))), t0, n, 0)) rfl (fun _ => rfl) ?_
    have e9 : slp w σ 0 = σ (1 + w 3 0) := by rw [hsl, if_neg (by first | decide | omega)]
    exact ⟨_, rfl, by rw [e9]⟩
  · refine gx_1f (c := .eq) rfl (by first | decide | omega) hc22 rfl ?_
    refine ex_go (S := (10, [(0, gx_r 15), (1, gx_r 191), (2, .inl 0)], [gx_r 15], t0, n, 0)) rfl (fun _ => rfl) rfl ?_
    refine gxo_ref (a := 15) (c := 21) rfl g0 rfl rfl rfl rfl rfl ?_
    refine ex_go (S := (14, [(0, gx_r 15), (1, gx_r 191), (2, .inl 0)], [.inl 0, gx_r 21], t0, n, 0)) rfl (fun _ => rfl) rfl ?_
    have k25 : ai_hv t0 21 0 = some (.inl (σ 13)) := x13_0 (by first | decide | omega)
    refine gx_ag (v := .inl (σ 13)) (cb := fun c => Nat.beq c 0) rfl (fun _ => rfl) g0 rfl rfl k25 (by first | decide | omega) rfl ?_
    refine ex_go (S := (32, [(0, gx_r 15), (1, gx_r 191), (2, .inl 0)], [.inl (σ 13)], t0, n, 0)) rfl (fun _ => rfl) rfl ?_
    refine ex_ret (r := (some (.inl (σ 13)), t0, n, 0)) rfl (fun _ => rfl) ?_
    have e9 : slp w σ 0 = σ 13 := by rw [hsl, if_pos (by first | decide | omega)]
    exact ⟨_, rfl, by rw [e9]⟩
theorem sc_hs15_191_0 (d n : Nat) {t0 : en_H} {w : Nat → Nat → Nat} {L : List Nat} {σ : Nat → Nat} {to : Nat} (g0 : ai_HG ah_G t0) (hC : CW t0 191 w L) (hw : WS w) (hb : sbd σ) (hS : SC t0 15 (w 0 2) (w 0 4) σ) (hX : CX t0 191 w) (hB : σ 0 ≤ 900000) (hc : 0 < w 0 4) (ht : to < 64) : ∃ r, en_u (d + 4) 200 [gx_r 15, gx_r 191, .inl 0, .inl to] t0 n = some r ∧ ∃ v t', r = (some (.inl v), t', n, 0) ∧ ai_HG ah_G t' ∧ (∀ c i, ¬ (c = 19 ∨ c = 20 ∨ c = 21) → ai_hv t' c i = ai_hv t0 c i) ∧ v ≤ 1 ∧ (v = 1 → mayH w σ 0 to ∧ SC t' 15 (w 0 2) (w 0 4) (sgH σ 0 to)) ∧ (v = 0 → ¬ mayH w σ 0 to ∧ t' = t0) := by
  have hsp := slp_lt hw hb hc
  have hS9 := hS
  have hb9 := hb
  obtain ⟨hb1, ⟨hb7, hb8⟩, ⟨hb11, hb12⟩, ⟨hb13, hb14⟩, ⟨hb15, hb16⟩, hb0, hbo9, hb10⟩ := hb9
  have hT := hw.1.2.2.1
  have hK := hw.1.2.2.2.2.1
  obtain ⟨x7_0, x9_0, x11_0, x15_0, x13_0⟩ := hS9.2.2 0 (by first | decide | omega)
  have x13_0 : σ 11 = 1 → ai_hv t0 21 0 = some (.inl (σ 13)) := x13_0
  have w3_0 := (hC.2.2.1 0 (by first | decide | omega)).1
  have hs0 := (hw.2.1 0 (by first | decide | omega)).1
  have hp0 := hb1 (w 3 0) (by first | decide | omega)
  refine en_u_ex (d := d + 3) rfl ?_
  show en_ex _ _ _ _ (0, [(0, gx_r 15), (1, gx_r 191), (2, .inl 0), (3, .inl to)], [], t0, n, 0) _
  refine ex_go (S := (1, [(0, gx_r 15), (1, gx_r 191), (2, .inl 0), (3, .inl to)], [gx_r 15], t0, n, 0)) rfl (fun _ => rfl) rfl ?_
  refine ex_go (S := (2, [(0, gx_r 15), (1, gx_r 191), (2, .inl 0), (3, .inl to)], [gx_r 191, gx_r 15], t0, n, 0)) rfl (fun _ => rfl) rfl ?_
  refine ex_go (S := (3, [(0, gx_r 15), (1, gx_r 191), (2, .inl 0), (3, .inl to)], [.inl 0, gx_r 191, gx_r 15], t0, n, 0)) rfl (fun _ => rfl) rfl ?_
  obtain ⟨_, r21, rfl⟩ := sc_sled15_191_0 (d + 2) n g0 hC hw hb hS hc
  refine gx_callo (a := 15) rfl rfl g0 rfl rfl rfl r21 rfl ?_
  show en_ex _ _ _ _ (6, [(0, gx_r 15), (1, gx_r 191), (2, .inl 0), (3, .inl to)], [.inl (slp w σ 0)], t0, n, 0) _
  refine ex_go (S := (8, [(4, .inl (slp w σ 0)), (0, gx_r 15), (1, gx_r 191), (2, .inl 0), (3, .inl to)], [], t0, n, 0)) rfl (fun _ => rfl) rfl ?_
  refine ex_go (S := (9, [(4, .inl (slp w σ 0)), (0, gx_r 15), (1, gx_r 191), (2, .inl 0), (3, .inl to)], [gx_r 15], t0, n, 0)) rfl (fun _ => rfl) rfl ?_
  refine gxo_ref (a := 15) (c := 20) rfl g0 rfl rfl rfl rfl rfl ?_
  refine ex_go (S := (13, [(4, .inl (slp w σ 0)), (0, gx_r 15), (1, gx_r 191), (2, .inl 0), (3, .inl to)], [.inl 0, gx_r 20], t0, n, 0)) rfl (fun _ => rfl) rfl ?_
  have k22 : ai_hv t0 20 0 = some (.inl (σ 15)) := x15_0
  refine gx_ag (v := .inl (σ 15)) (cb := fun c => Nat.beq c 2 || Nat.beq c 1) rfl (fun _ => rfl) g0 rfl rfl k22 (by first | decide | omega) rfl ?_
  by_cases hc23 : σ 15 ≠ 0
  · refine gx_1t (c := .ne) rfl (by first | decide | omega) hc23 rfl ?_
    refine ex_go (S := (44, [(4, .inl (slp w σ 0)), (0, gx_r 15), (1, gx_r 191), (2, .inl 0), (3, .inl to)], [.inl 0], t0, n, 0)) rfl (fun _ => rfl) rfl ?_
    refine ex_ret (r := (some (.inl 0), t0, n, 0)) rfl (fun _ => rfl) ?_
    exact ⟨_, rfl, 0, t0, rfl, g0, (fun _ _ _ => rfl), by decide, (fun z => absurd z (by decide)), fun _ => ⟨fun z => by
      obtain ⟨z1, z2, -⟩ := z
      have z1 : ¬ σ 15 = 1 := z1
      omega, rfl⟩⟩
  · refine gx_1f (c := .ne) rfl (by first | decide | omega) hc23 rfl ?_
    refine ex_go (S := (18, [(4, .inl (slp w σ 0)), (0, gx_r 15), (1, gx_r 191), (2, .inl 0), (3, .inl to)], [.inl to], t0, n, 0)) rfl (fun _ => rfl) rfl ?_
    refine ex_go (S := (20, [(4, .inl (slp w σ 0)), (0, gx_r 15), (1, gx_r 191), (2, .inl 0), (3, .inl to)], [.inl (slp w σ 0), .inl to], t0, n, 0)) rfl (fun _ => rfl) rfl ?_
    by_cases hc24 : to = slp w σ 0
    · refine gx_2t (c := .eq) rfl (by first | decide | omega) (by first | decide | omega) hc24 rfl ?_
      refine ex_go (S := (44, [(4, .inl (slp w σ 0)), (0, gx_r 15), (1, gx_r 191), (2, .inl 0), (3, .inl to)], [.inl 0], t0, n, 0)) rfl (fun _ => rfl) rfl ?_
      refine ex_ret (r := (some (.inl 0), t0, n, 0)) rfl (fun _ => rfl) ?_
      exact ⟨_, rfl, 0, t0, rfl, g0, (fun _ _ _ => rfl), by decide, (fun z => absurd z (by decide)), fun _ => ⟨fun z => by
        obtain ⟨z1, z2, -⟩ := z
        have z1 : ¬ σ 15 = 1 := z1
        omega, rfl⟩⟩
    · refine gx_2f (c := .eq) rfl (by first | decide | omega) (by first | decide | omega) hc24 rfl ?_
      refine ex_go (S := (24, [(4, .inl (slp w σ 0)), (0, gx_r 15), (1, gx_r 191), (2, .inl 0), (3, .inl to)], [gx_r 191], t0, n, 0)) rfl (fun _ => rfl) rfl ?_
      refine ex_go (S := (26, [(4, .inl (slp w σ 0)), (0, gx_r 15), (1, gx_r 191), (2, .inl 0), (3, .inl to)], [.inl (slp w σ 0), gx_r 191], t0, n, 0)) rfl (fun _ => rfl) rfl ?_
      obtain ⟨_, r25, rfl⟩ := pz_bit (d + 2) n (t0 := t0) (x := slp w σ 0) (by first | decide | omega)
      refine ex_stat rfl rfl rfl rfl rfl r25 (Nat.le_refl _) rfl ?_
      show en_ex _ _ _ _ (29, [(4, .inl (slp w σ 0)), (0, gx_r 15), (1, gx_r 191), (2, .inl 0), (3, .inl to)], [.inr (.inl (2 ^ (slp w σ 0))), gx_r 191], t0, n, 0) _
      refine ex_go (S := (30, [(4, .inl (slp w σ 0)), (0, gx_r 15), (1, gx_r 191), (2, .inl 0), (3, .inl to)], [gx_r 15, .inr (.inl (2 ^ (slp w σ 0))), gx_r 191], t0, n, 0)) rfl (fun _ => rfl) rfl ?_
      refine gxo_get (a := 15) rfl g0 rfl rfl hS.1 rfl ?_
      obtain ⟨_, r1, y, rfl, hy⟩ := sc_hauled191 d n (H := fun q => decide (q = slp w σ 0)) (s := σ 0) (x := 2 ^ slp w σ 0) g0 hC hX hw (by first | decide | omega) (bts_mk (sz_two hsp) (fun j hj => by rw [Nat.testBit_two_pow, decide_eq_decide]; exact eq_comm))
      refine gx_callo (a := 191) rfl rfl g0 rfl rfl rfl r1 rfl ?_
      show en_ex _ _ _ _ (36, [(4, .inl (slp w σ 0)), (0, gx_r 15), (1, gx_r 191), (2, .inl 0), (3, .inl to)], [.inr (.inl y)], t0, n, 0) _
      refine ex_go (S := (37, [(4, .inl (slp w σ 0)), (0, gx_r 15), (1, gx_r 191), (2, .inl 0), (3, .inl to)], [.inl to, .inr (.inl y)], t0, n, 0)) rfl (fun _ => rfl) rfl ?_
      obtain ⟨_, r26, rfl⟩ := pz_has (d + 1) n (t0 := t0) (x := y) (k := to) hy.1 ht
      have hbt := bts_at hy ht
      have hbv := bv_le (b := y.testBit to)
      refine ex_stat rfl rfl rfl rfl rfl r26 (Nat.le_refl _) rfl ?_
      show en_ex _ _ _ _ (40, [(4, .inl (slp w σ 0)), (0, gx_r 15), (1, gx_r 191), (2, .inl 0), (3, .inl to)], [.inl (bv (y.testBit to))], t0, n, 0) _
      by_cases hc27 : bv (y.testBit to) ≠ 0
      · refine gx_1t (c := .ne) rfl (by first | decide | omega) hc27 rfl ?_
        refine ex_go (S := (46, [(4, .inl (slp w σ 0)), (0, gx_r 15), (1, gx_r 191), (2, .inl 0), (3, .inl to)], [gx_r 15], t0, n, 0)) rfl (fun _ => rfl) rfl ?_
        refine gxo_ref (a := 15) (c := 19) rfl g0 rfl rfl rfl rfl rfl ?_
        refine ex_go (S := (50, [(4, .inl (slp w σ 0)), (0, gx_r 15), (1, gx_r 191), (2, .inl 0), (3, .inl to)], [.inl 0, gx_r 19], t0, n, 0)) rfl (fun _ => rfl) rfl ?_
        refine ex_go (S := (51, [(4, .inl (slp w σ 0)), (0, gx_r 15), (1, gx_r 191), (2, .inl 0), (3, .inl to)], [.inl 1, .inl 0, gx_r 19], t0, n, 0)) rfl (fun _ => rfl) rfl ?_
        refine gx_apv (d := 2) rfl (fun _ => rfl) g0 rfl rfl rfl (show 0 < 2 from by omega) rfl (ai_in_h (by first | decide | omega) (by first | decide | omega) (by first | decide | omega)) rfl (fun t128 g128 k128 e128 => ?_)
        have k29 : ai_hv t128 15 0 = some (.inl (σ 0)) := (e128 15 0 (by first | decide | omega)).trans hS.1
        have k30 : ai_hv t128 20 0 = some (.inl (σ 15)) := (e128 20 0 (by first | decide | omega)).trans k22
        refine ex_go (S := (53, [(4, .inl (slp w σ 0)), (0, gx_r 15), (1, gx_r 191), (2, .inl 0), (3, .inl to)], [gx_r 15], t128, n, 0)) rfl (fun _ => rfl) rfl ?_
        refine gxo_ref (a := 15) (c := 20) rfl g128 rfl rfl rfl rfl rfl ?_
        refine ex_go (S := (57, [(4, .inl (slp w σ 0)), (0, gx_r 15), (1, gx_r 191), (2, .inl 0), (3, .inl to)], [.inl 0, gx_r 20], t128, n, 0)) rfl (fun _ => rfl) rfl ?_
        refine ex_go (S := (58, [(4, .inl (slp w σ 0)), (0, gx_r 15), (1, gx_r 191), (2, .inl 0), (3, .inl to)], [.inl 1, .inl 0, gx_r 20], t128, n, 0)) rfl (fun _ => rfl) rfl ?_
        refine gx_apv (d := 2) rfl (fun _ => rfl) g128 rfl rfl rfl (show 0 < 2 from by omega) rfl (ai_in_h (by first | decide | omega) (by first | decide | omega) (by first | decide | omega)) rfl (fun t131 g131 k131 e131 => ?_)
        have k32 : ai_hv t131 15 0 = some (.inl (σ 0)) := (e131 15 0 (by first | decide | omega)).trans k29
        have k33 : ai_hv t131 19 0 = some (.inl 1) := (e131 19 0 (by first | decide | omega)).trans k128
        refine ex_go (S := (60, [(4, .inl (slp w σ 0)), (0, gx_r 15), (1, gx_r 191), (2, .inl 0), (3, .inl to)], [gx_r 15], t131, n, 0)) rfl (fun _ => rfl) rfl ?_
        refine gxo_ref (a := 15) (c := 21) rfl g131 rfl rfl rfl rfl rfl ?_
        refine ex_go (S := (64, [(4, .inl (slp w σ 0)), (0, gx_r 15), (1, gx_r 191), (2, .inl 0), (3, .inl to)], [.inl 0, gx_r 21], t131, n, 0)) rfl (fun _ => rfl) rfl ?_
        refine ex_go (S := (65, [(4, .inl (slp w σ 0)), (0, gx_r 15), (1, gx_r 191), (2, .inl 0), (3, .inl to)], [.inl to, .inl 0, gx_r 21], t131, n, 0)) rfl (fun _ => rfl) rfl ?_
        refine gx_ap rfl (fun _ => rfl) g131 rfl rfl rfl (show 0 < 2 from by omega) rfl (ai_in_h (by first | decide | omega) (by first | decide | omega) (by first | decide | omega)) rfl (fun t134 g134 k134 e134 => ?_)
        have k35 : ai_hv t134 15 0 = some (.inl (σ 0)) := (e134 15 0 (by first | decide | omega)).trans k32
        have k36 : ai_hv t134 19 0 = some (.inl 1) := (e134 19 0 (by first | decide | omega)).trans k33
        have k37 : ai_hv t134 20 0 = some (.inl 1) := (e134 20 0 (by first | decide | omega)).trans k131
        refine ex_go (S := (67, [(4, .inl (slp w σ 0)), (0, gx_r 15), (1, gx_r 191), (2, .inl 0), (3, .inl to)], [.inl 1], t134, n, 0)) rfl (fun _ => rfl) rfl ?_
        refine ex_ret (r := (some (.inl 1), t134, n, 0)) rfl (fun _ => rfl) ?_
        refine ⟨_, rfl, 1, t134, rfl, g134, (fun c i h => (e134 c i (by first | decide | omega)).trans ((e131 c i (by first | decide | omega)).trans (e128 c i (by first | decide | omega)))), by decide, (fun _ => ⟨⟨?_, ?_, ?_⟩, ?_⟩), fun z => absurd z (by decide)⟩
        · show ¬ σ 15 = 1
          omega
        · omega
        · rw [← hbt]; exact bv_1 (by first | decide | omega)
        · refine ⟨?_, fun i hi => ?_, fun c9 hc9 => ?_⟩
          · rw [sgH_o (by first | decide | omega) (by first | decide | omega) (by first | decide | omega)]; exact ((e134 15 0 (by first | decide | omega)).trans ((e131 15 0 (by first | decide | omega)).trans (e128 15 0 (by first | decide | omega)))).trans (hS.1)
          · rw [sgH_o (by first | decide | omega) (by first | decide | omega) (by first | decide | omega)]; exact ((e134 16 i (by first | decide | omega)).trans ((e131 16 i (by first | decide | omega)).trans (e128 16 i (by first | decide | omega)))).trans (hS.2.1 i hi)
          · rcases (show c9 = 0 ∨ c9 = 1 by omega) with rfl | rfl
            · obtain ⟨y7, y9, y11, y15, y13⟩ := hS.2.2 0 hc9
              refine ⟨?_, ?_, ?_, ?_, ?_⟩
              · rw [sgH_o (by first | decide | omega) (by first | decide | omega) (by first | decide | omega)]; exact ((e134 17 0 (by first | decide | omega)).trans ((e131 17 0 (by first | decide | omega)).trans (e128 17 0 (by first | decide | omega)))).trans (y7)
              · rw [sgH_o (by first | decide | omega) (by first | decide | omega) (by first | decide | omega)]; exact ((e134 18 0 (by first | decide | omega)).trans ((e131 18 0 (by first | decide | omega)).trans (e128 18 0 (by first | decide | omega)))).trans (y9)
              · rw [sgH_11]; exact k36
              · rw [sgH_15]; exact k37
              · intro _; rw [sgH_13]; exact k134
            · obtain ⟨y7, y9, y11, y15, y13⟩ := hS.2.2 1 hc9
              refine ⟨?_, ?_, ?_, ?_, ?_⟩
              · rw [sgH_o (by first | decide | omega) (by first | decide | omega) (by first | decide | omega)]; exact ((e134 17 1 (by first | decide | omega)).trans ((e131 17 1 (by first | decide | omega)).trans (e128 17 1 (by first | decide | omega)))).trans (y7)
              · rw [sgH_o (by first | decide | omega) (by first | decide | omega) (by first | decide | omega)]; exact ((e134 18 1 (by first | decide | omega)).trans ((e131 18 1 (by first | decide | omega)).trans (e128 18 1 (by first | decide | omega)))).trans (y9)
              · rw [sgH_o (by first | decide | omega) (by first | decide | omega) (by first | decide | omega)]; exact ((e134 19 1 (by first | decide | omega)).trans ((e131 19 1 (by first | decide | omega)).trans (e128 19 1 (by first | decide | omega)))).trans (y11)
              · rw [sgH_o (by first | decide | omega) (by first | decide | omega) (by first | decide | omega)]; exact ((e134 20 1 (by first | decide | omega)).trans ((e131 20 1 (by first | decide | omega)).trans (e128 20 1 (by first | decide | omega)))).trans (y15)
              · intro z
                rw [sgH_o (by first | decide | omega) (by first | decide | omega) (by first | decide | omega)] at z
                rw [sgH_o (by first | decide | omega) (by first | decide | omega) (by first | decide | omega)]; exact ((e134 21 1 (by first | decide | omega)).trans ((e131 21 1 (by first | decide | omega)).trans (e128 21 1 (by first | decide | omega)))).trans (y13 z)
      · refine gx_1f (c := .ne) rfl (by first | decide | omega) hc27 rfl ?_
        refine ex_go (S := (44, [(4, .inl (slp w σ 0)), (0, gx_r 15), (1, gx_r 191), (2, .inl 0), (3, .inl to)], [.inl 0], t0, n, 0)) rfl (fun _ => rfl) rfl ?_
        refine ex_ret (r := (some (.inl 0), t0, n, 0)) rfl (fun _ => rfl) ?_
        exact ⟨_, rfl, 0, t0, rfl, g0, (fun _ _ _ => rfl), by decide, (fun z => absurd z (by decide)), fun _ => ⟨(fun z => by
          have h9 := bv_0 (b := y.testBit to) (by first | decide | omega)
          rw [hbt] at h9
          rw [z.2.2] at h9
          cases h9), rfl⟩⟩
theorem sc_lb15_191_0 (d n : Nat) {t0 : en_H} {w : Nat → Nat → Nat} {L : List Nat} {σ : Nat → Nat} {v : Nat} (g0 : ai_HG ah_G t0) (hC : CW t0 191 w L) (hw : WS w) (hb : sbd σ) (hS : SC t0 15 (w 0 2) (w 0 4) σ) (hsum : σ 7 + σ 8 ≤ 19998) (hc : 0 < w 0 4) (hv : v ≤ 999) : ∃ r, en_u (d + 2) 201 [gx_r 15, gx_r 191, .inl 0, .inl v] t0 n = some r ∧ ∃ y t', r = (some (.inl y), t', n, 0) ∧ ai_HG ah_G t' ∧ (∀ c i, ¬ (c = 17 ∨ c = 18) → ai_hv t' c i = ai_hv t0 c i) ∧ (mayL w σ 0 → y = lnv σ 0 v ∧ SC t' 15 (w 0 2) (w 0 4) (sgL σ 0 v)) ∧ (¬ mayL w σ 0 → y = 4294967295 ∧ t' = t0) := by
  have hml : mayL w σ 0 ↔ (w 0 4 = 2 ∧ σ 11 = 1 ∧ 0 < σ 7 ∧ σ 13 = σ (1 + w 3 1)) := Iff.rfl
  have hlv : lnv σ 0 v = min v (σ 7) := rfl
  by_cases h2 : w 0 4 = 2
  · have hS9 := hS
    have hb9 := hb
    obtain ⟨hb1, ⟨hb7, hb8⟩, ⟨hb11, hb12⟩, ⟨hb13, hb14⟩, ⟨hb15, hb16⟩, hb0, hbo9, hb10⟩ := hb9
    have hT := hw.1.2.2.1
    have hK := hw.1.2.2.2.2.1
    obtain ⟨x7_0, x9_0, x11_0, x15_0, x13_0⟩ := hS9.2.2 0 (by first | decide | omega)
    have x13_0 : σ 11 = 1 → ai_hv t0 21 0 = some (.inl (σ 13)) := x13_0
    have w3_0 := (hC.2.2.1 0 (by first | decide | omega)).1
    have hs0 := (hw.2.1 0 (by first | decide | omega)).1
    have hp0 := hb1 (w 3 0) (by first | decide | omega)
    obtain ⟨x7_1, x9_1, x11_1, x15_1, x13_1⟩ := hS9.2.2 1 (by first | decide | omega)
    have x13_1 : σ 12 = 1 → ai_hv t0 21 1 = some (.inl (σ 14)) := x13_1
    have w3_1 := (hC.2.2.1 1 (by first | decide | omega)).1
    have hs1 := (hw.2.1 1 (by first | decide | omega)).1
    have hp1 := hb1 (w 3 1) (by first | decide | omega)
    refine en_u_ex (d := d + 1) rfl ?_
    show en_ex _ _ _ _ (0, [(0, gx_r 15), (1, gx_r 191), (2, .inl 0), (3, .inl v)], [], t0, n, 0) _
    refine ex_go (S := (1, [(0, gx_r 15), (1, gx_r 191), (2, .inl 0), (3, .inl v)], [.inl 1], t0, n, 0)) rfl (fun _ => rfl) rfl ?_
    refine ex_go (S := (2, [(0, gx_r 15), (1, gx_r 191), (2, .inl 0), (3, .inl v)], [.inl 0, .inl 1], t0, n, 0)) rfl (fun _ => rfl) rfl ?_
    refine ex_go (S := (3, [(0, gx_r 15), (1, gx_r 191), (2, .inl 0), (3, .inl v)], [.inl 1], t0, n, 0)) rfl (fun _ => rfl) rfl ?_
    refine ex_go (S := (5, [(4, .inl 1), (0, gx_r 15), (1, gx_r 191), (2, .inl 0), (3, .inl v)], [], t0, n, 0)) rfl (fun _ => rfl) rfl ?_
    refine ex_go (S := (6, [(4, .inl 1), (0, gx_r 15), (1, gx_r 191), (2, .inl 0), (3, .inl v)], [gx_r 191], t0, n, 0)) rfl (fun _ => rfl) rfl ?_
    refine gxo_ref (a := 191) (c := 206) rfl g0 rfl rfl rfl rfl rfl ?_
    refine ex_go (S := (11, [(4, .inl 1), (0, gx_r 15), (1, gx_r 191), (2, .inl 0), (3, .inl v)], [.inl 1, gx_r 206], t0, n, 0)) rfl (fun _ => rfl) rfl ?_
    obtain ⟨_, r121, b121, rfl, hb121, hi121⟩ := pz_holds206 d n (x := 1) (K := w 0 4) g0 (by decide) hC.1.2.2.2.2.2 (by first | decide | omega)
    refine gx_callo (a := 206) rfl rfl g0 rfl rfl rfl r121 rfl ?_
    show en_ex _ _ _ _ (14, [(4, .inl 1), (0, gx_r 15), (1, gx_r 191), (2, .inl 0), (3, .inl v)], [.inl b121], t0, n, 0) _
    refine gx_1f (c := .eq) rfl (by first | decide | omega) (show ¬ (b121 = 0) from by omega) rfl ?_
    refine ex_go (S := (18, [(4, .inl 1), (0, gx_r 15), (1, gx_r 191), (2, .inl 0), (3, .inl v)], [gx_r 15], t0, n, 0)) rfl (fun _ => rfl) rfl ?_
    refine gxo_ref (a := 15) (c := 19) rfl g0 rfl rfl rfl rfl rfl ?_
    refine ex_go (S := (22, [(4, .inl 1), (0, gx_r 15), (1, gx_r 191), (2, .inl 0), (3, .inl v)], [.inl 0, gx_r 19], t0, n, 0)) rfl (fun _ => rfl) rfl ?_
    have k22 : ai_hv t0 19 0 = some (.inl (σ 11)) := x11_0
    refine gx_ag (v := .inl (σ 11)) (cb := fun c => Nat.beq c 2 || Nat.beq c 1) rfl (fun _ => rfl) g0 rfl rfl k22 (by first | decide | omega) rfl ?_
    by_cases hc23 : σ 11 = 0
    · refine gx_1t (c := .eq) rfl (by first | decide | omega) hc23 rfl ?_
      refine ex_go (S := (60, [(4, .inl 1), (0, gx_r 15), (1, gx_r 191), (2, .inl 0), (3, .inl v)], [.inl 4294967295], t0, n, 0)) rfl (fun _ => rfl) rfl ?_
      refine ex_ret (r := (some (.inl 4294967295), t0, n, 0)) rfl (fun _ => rfl) ?_
      exact ⟨_, rfl, _, t0, rfl, g0, (fun _ _ _ => rfl), (fun z => by rw [hml] at z; omega), fun _ => ⟨rfl, rfl⟩⟩
    · refine gx_1f (c := .eq) rfl (by first | decide | omega) hc23 rfl ?_
      refine ex_go (S := (27, [(4, .inl 1), (0, gx_r 15), (1, gx_r 191), (2, .inl 0), (3, .inl v)], [gx_r 15], t0, n, 0)) rfl (fun _ => rfl) rfl ?_
      refine gxo_ref (a := 15) (c := 17) rfl g0 rfl rfl rfl rfl rfl ?_
      refine ex_go (S := (31, [(4, .inl 1), (0, gx_r 15), (1, gx_r 191), (2, .inl 0), (3, .inl v)], [.inl 0, gx_r 17], t0, n, 0)) rfl (fun _ => rfl) rfl ?_
      have k24 : ai_hv t0 17 0 = some (.inl (σ 7)) := x7_0
      refine gx_ag (v := .inl (σ 7)) (cb := fun c => Nat.beq c 0) rfl (fun _ => rfl) g0 rfl rfl k24 (by first | decide | omega) rfl ?_
      by_cases hc25 : σ 7 = 0
      · refine gx_1t (c := .eq) rfl (by first | decide | omega) hc25 rfl ?_
        refine ex_go (S := (60, [(4, .inl 1), (0, gx_r 15), (1, gx_r 191), (2, .inl 0), (3, .inl v)], [.inl 4294967295], t0, n, 0)) rfl (fun _ => rfl) rfl ?_
        refine ex_ret (r := (some (.inl 4294967295), t0, n, 0)) rfl (fun _ => rfl) ?_
        exact ⟨_, rfl, _, t0, rfl, g0, (fun _ _ _ => rfl), (fun z => by rw [hml] at z; omega), fun _ => ⟨rfl, rfl⟩⟩
      · refine gx_1f (c := .eq) rfl (by first | decide | omega) hc25 rfl ?_
        refine ex_go (S := (36, [(4, .inl 1), (0, gx_r 15), (1, gx_r 191), (2, .inl 0), (3, .inl v)], [gx_r 15], t0, n, 0)) rfl (fun _ => rfl) rfl ?_
        refine gxo_ref (a := 15) (c := 21) rfl g0 rfl rfl rfl rfl rfl ?_
        refine ex_go (S := (40, [(4, .inl 1), (0, gx_r 15), (1, gx_r 191), (2, .inl 0), (3, .inl v)], [.inl 0, gx_r 21], t0, n, 0)) rfl (fun _ => rfl) rfl ?_
        have k26 : ai_hv t0 21 0 = some (.inl (σ 13)) := x13_0 (by first | decide | omega)
        refine gx_ag (v := .inl (σ 13)) (cb := fun c => Nat.beq c 0) rfl (fun _ => rfl) g0 rfl rfl k26 (by first | decide | omega) rfl ?_
        refine ex_go (S := (42, [(4, .inl 1), (0, gx_r 15), (1, gx_r 191), (2, .inl 0), (3, .inl v)], [gx_r 15, .inl (σ 13)], t0, n, 0)) rfl (fun _ => rfl) rfl ?_
        refine gxo_ref (a := 15) (c := 16) rfl g0 rfl rfl rfl rfl rfl ?_
        refine ex_go (S := (46, [(4, .inl 1), (0, gx_r 15), (1, gx_r 191), (2, .inl 0), (3, .inl v)], [gx_r 191, gx_r 16, .inl (σ 13)], t0, n, 0)) rfl (fun _ => rfl) rfl ?_
        refine gxo_ref (a := 191) (c := 206) rfl g0 rfl rfl rfl rfl rfl ?_
        refine gxo_ref (a := 206) (c := 208) rfl g0 rfl rfl rfl rfl rfl ?_
        refine ex_go (S := (54, [(4, .inl 1), (0, gx_r 15), (1, gx_r 191), (2, .inl 0), (3, .inl v)], [.inl 1, gx_r 208, gx_r 16, .inl (σ 13)], t0, n, 0)) rfl (fun _ => rfl) rfl ?_
        have k27 : ai_hv t0 208 1 = some (.inl (w 3 1)) := w3_1
        refine gx_ag (v := .inl (w 3 1)) (cb := fun c => Nat.beq c 0) rfl (fun _ => rfl) g0 rfl rfl k27 (by first | decide | omega) rfl ?_
        have k28 : ai_hv t0 16 (w 3 1) = some (.inl (σ (1 + w 3 1))) := hS.2.1 _ (by first | decide | omega)
        refine gx_ag (v := .inl (σ (1 + w 3 1))) (cb := fun c => Nat.beq c 0) rfl (fun _ => rfl) g0 rfl rfl k28 (by first | decide | omega) rfl ?_
        by_cases hc29 : σ 13 = σ (1 + w 3 1)
        · refine gx_2t (c := .eq) rfl (by first | decide | omega) (by first | decide | omega) hc29 rfl ?_
          refine ex_go (S := (62, [(4, .inl 1), (0, gx_r 15), (1, gx_r 191), (2, .inl 0), (3, .inl v)], [.inl v], t0, n, 0)) rfl (fun _ => rfl) rfl ?_
          refine ex_go (S := (63, [(4, .inl 1), (0, gx_r 15), (1, gx_r 191), (2, .inl 0), (3, .inl v)], [gx_r 15, .inl v], t0, n, 0)) rfl (fun _ => rfl) rfl ?_
          refine gxo_ref (a := 15) (c := 17) rfl g0 rfl rfl rfl rfl rfl ?_
          refine ex_go (S := (67, [(4, .inl 1), (0, gx_r 15), (1, gx_r 191), (2, .inl 0), (3, .inl v)], [.inl 0, gx_r 17, .inl v], t0, n, 0)) rfl (fun _ => rfl) rfl ?_
          refine gx_ag (v := .inl (σ 7)) (cb := fun c => Nat.beq c 0) rfl (fun _ => rfl) g0 rfl rfl k24 (by first | decide | omega) rfl ?_
          refine gx_inn rfl rfl rfl (zk_min (by first | decide | omega) (by first | decide | omega)) rfl rfl ?_
          refine ex_go (S := (73, [(5, .inl (min v (σ 7))), (4, .inl 1), (0, gx_r 15), (1, gx_r 191), (2, .inl 0), (3, .inl v)], [], t0, n, 0)) rfl (fun _ => rfl) rfl ?_
          refine ex_go (S := (74, [(5, .inl (min v (σ 7))), (4, .inl 1), (0, gx_r 15), (1, gx_r 191), (2, .inl 0), (3, .inl v)], [gx_r 15], t0, n, 0)) rfl (fun _ => rfl) rfl ?_
          refine gxo_ref (a := 15) (c := 17) rfl g0 rfl rfl rfl rfl rfl ?_
          refine ex_go (S := (78, [(5, .inl (min v (σ 7))), (4, .inl 1), (0, gx_r 15), (1, gx_r 191), (2, .inl 0), (3, .inl v)], [.inl 0, gx_r 17], t0, n, 0)) rfl (fun _ => rfl) rfl ?_
          refine ex_go (S := (79, [(5, .inl (min v (σ 7))), (4, .inl 1), (0, gx_r 15), (1, gx_r 191), (2, .inl 0), (3, .inl v)], [.inl 0, gx_r 17, .inl 0, gx_r 17], t0, n, 0)) rfl (fun _ => rfl) rfl ?_
          refine gx_ag (v := .inl (σ 7)) (cb := fun c => Nat.beq c 0) rfl (fun _ => rfl) g0 rfl rfl k24 (by first | decide | omega) rfl ?_
          refine ex_go (S := (82, [(5, .inl (min v (σ 7))), (4, .inl 1), (0, gx_r 15), (1, gx_r 191), (2, .inl 0), (3, .inl v)], [.inl (min v (σ 7)), .inl (σ 7), .inl 0, gx_r 17], t0, n, 0)) rfl (fun _ => rfl) rfl ?_
          refine gx_isub rfl (by first | decide | omega) (by first | decide | omega) rfl ?_
          refine gx_ap rfl (fun _ => rfl) g0 rfl rfl rfl (show 0 < 2 from by omega) rfl (gx_full (by first | decide | omega)) rfl (fun t130 g130 k130 e130 => ?_)
          have k31 : ai_hv t130 19 0 = some (.inl (σ 11)) := (e130 19 0 (by first | decide | omega)).trans k22
          have k32 : ai_hv t130 21 0 = some (.inl (σ 13)) := (e130 21 0 (by first | decide | omega)).trans k26
          have k33 : ai_hv t130 208 1 = some (.inl (w 3 1)) := (e130 208 1 (by first | decide | omega)).trans k27
          have k34 : ai_hv t130 16 (w 3 1) = some (.inl (σ (1 + w 3 1))) := (e130 16 (w 3 1) (by first | decide | omega)).trans k28
          refine ex_go (S := (85, [(5, .inl (min v (σ 7))), (4, .inl 1), (0, gx_r 15), (1, gx_r 191), (2, .inl 0), (3, .inl v)], [gx_r 15], t130, n, 0)) rfl (fun _ => rfl) rfl ?_
          refine gxo_ref (a := 15) (c := 17) rfl g130 rfl rfl rfl rfl rfl ?_
          refine ex_go (S := (90, [(5, .inl (min v (σ 7))), (4, .inl 1), (0, gx_r 15), (1, gx_r 191), (2, .inl 0), (3, .inl v)], [.inl 1, gx_r 17], t130, n, 0)) rfl (fun _ => rfl) rfl ?_
          refine ex_go (S := (91, [(5, .inl (min v (σ 7))), (4, .inl 1), (0, gx_r 15), (1, gx_r 191), (2, .inl 0), (3, .inl v)], [.inl 1, gx_r 17, .inl 1, gx_r 17], t130, n, 0)) rfl (fun _ => rfl) rfl ?_
          have k35 : ai_hv t130 17 1 = some (.inl (σ 8)) := (e130 17 1 (by first | decide | omega)).trans (x7_1)
          refine gx_ag (v := .inl (σ 8)) (cb := fun c => Nat.beq c 0) rfl (fun _ => rfl) g130 rfl rfl k35 (by first | decide | omega) rfl ?_
          refine ex_go (S := (94, [(5, .inl (min v (σ 7))), (4, .inl 1), (0, gx_r 15), (1, gx_r 191), (2, .inl 0), (3, .inl v)], [.inl (min v (σ 7)), .inl (σ 8), .inl 1, gx_r 17], t130, n, 0)) rfl (fun _ => rfl) rfl ?_
          refine ex_iadd rfl (by first | decide | omega) rfl ?_
          refine gx_ap rfl (fun _ => rfl) g130 rfl rfl rfl (show 1 < 2 from by omega) rfl (gx_full (by first | decide | omega)) rfl (fun t136 g136 k136 e136 => ?_)
          have k37 : ai_hv t136 19 0 = some (.inl (σ 11)) := (e136 19 0 (by first | decide | omega)).trans k31
          have k38 : ai_hv t136 21 0 = some (.inl (σ 13)) := (e136 21 0 (by first | decide | omega)).trans k32
          have k39 : ai_hv t136 208 1 = some (.inl (w 3 1)) := (e136 208 1 (by first | decide | omega)).trans k33
          have k40 : ai_hv t136 16 (w 3 1) = some (.inl (σ (1 + w 3 1))) := (e136 16 (w 3 1) (by first | decide | omega)).trans k34
          have k41 : ai_hv t136 17 0 = some (.inl ((σ 7) - (min v (σ 7)))) := (e136 17 0 (by first | decide | omega)).trans k130
          refine ex_go (S := (97, [(5, .inl (min v (σ 7))), (4, .inl 1), (0, gx_r 15), (1, gx_r 191), (2, .inl 0), (3, .inl v)], [gx_r 15], t136, n, 0)) rfl (fun _ => rfl) rfl ?_
          refine gxo_ref (a := 15) (c := 18) rfl g136 rfl rfl rfl rfl rfl ?_
          refine ex_go (S := (101, [(5, .inl (min v (σ 7))), (4, .inl 1), (0, gx_r 15), (1, gx_r 191), (2, .inl 0), (3, .inl v)], [.inl 0, gx_r 18], t136, n, 0)) rfl (fun _ => rfl) rfl ?_
          refine ex_go (S := (102, [(5, .inl (min v (σ 7))), (4, .inl 1), (0, gx_r 15), (1, gx_r 191), (2, .inl 0), (3, .inl v)], [.inl 0, gx_r 18, .inl 0, gx_r 18], t136, n, 0)) rfl (fun _ => rfl) rfl ?_
          have k42 : ai_hv t136 18 0 = some (.inl (σ 9)) := ((e136 18 0 (by first | decide | omega)).trans (e130 18 0 (by first | decide | omega))).trans (x9_0)
          refine gx_ag (v := .inl (σ 9)) (cb := fun c => Nat.beq c 0) rfl (fun _ => rfl) g136 rfl rfl k42 (by first | decide | omega) rfl ?_
          refine ex_go (S := (105, [(5, .inl (min v (σ 7))), (4, .inl 1), (0, gx_r 15), (1, gx_r 191), (2, .inl 0), (3, .inl v)], [.inl (min v (σ 7)), .inl (σ 9), .inl 0, gx_r 18], t136, n, 0)) rfl (fun _ => rfl) rfl ?_
          have hw43 : en_wrap ((σ 9) + (min v (σ 7))) < 4294967296 := wrap_lt
          refine gs_iaddx rfl rfl ?_
          refine gx_ap rfl (fun _ => rfl) g136 rfl rfl rfl (show 0 < 2 from by omega) rfl (gx_full (by first | decide | omega)) rfl (fun t144 g144 k144 e144 => ?_)
          have k45 : ai_hv t144 19 0 = some (.inl (σ 11)) := (e144 19 0 (by first | decide | omega)).trans k37
          have k46 : ai_hv t144 21 0 = some (.inl (σ 13)) := (e144 21 0 (by first | decide | omega)).trans k38
          have k47 : ai_hv t144 208 1 = some (.inl (w 3 1)) := (e144 208 1 (by first | decide | omega)).trans k39
          have k48 : ai_hv t144 16 (w 3 1) = some (.inl (σ (1 + w 3 1))) := (e144 16 (w 3 1) (by first | decide | omega)).trans k40
          have k49 : ai_hv t144 17 0 = some (.inl ((σ 7) - (min v (σ 7)))) := (e144 17 0 (by first | decide | omega)).trans k41
          have k50 : ai_hv t144 17 1 = some (.inl ((σ 8) + (min v (σ 7)))) := (e144 17 1 (by first | decide | omega)).trans k136
          refine ex_go (S := (108, [(5, .inl (min v (σ 7))), (4, .inl 1), (0, gx_r 15), (1, gx_r 191), (2, .inl 0), (3, .inl v)], [gx_r 15], t144, n, 0)) rfl (fun _ => rfl) rfl ?_
          refine gxo_ref (a := 15) (c := 18) rfl g144 rfl rfl rfl rfl rfl ?_
          refine ex_go (S := (113, [(5, .inl (min v (σ 7))), (4, .inl 1), (0, gx_r 15), (1, gx_r 191), (2, .inl 0), (3, .inl v)], [.inl 1, gx_r 18], t144, n, 0)) rfl (fun _ => rfl) rfl ?_
          refine ex_go (S := (114, [(5, .inl (min v (σ 7))), (4, .inl 1), (0, gx_r 15), (1, gx_r 191), (2, .inl 0), (3, .inl v)], [.inl 1, gx_r 18, .inl 1, gx_r 18], t144, n, 0)) rfl (fun _ => rfl) rfl ?_
          have k51 : ai_hv t144 18 1 = some (.inl (σ 10)) := ((e144 18 1 (by first | decide | omega)).trans ((e136 18 1 (by first | decide | omega)).trans (e130 18 1 (by first | decide | omega)))).trans (x9_1)
          refine gx_ag (v := .inl (σ 10)) (cb := fun c => Nat.beq c 0) rfl (fun _ => rfl) g144 rfl rfl k51 (by first | decide | omega) rfl ?_
          refine ex_go (S := (117, [(5, .inl (min v (σ 7))), (4, .inl 1), (0, gx_r 15), (1, gx_r 191), (2, .inl 0), (3, .inl v)], [.inl (min v (σ 7)), .inl (σ 10), .inl 1, gx_r 18], t144, n, 0)) rfl (fun _ => rfl) rfl ?_
          have hw52 : isb (σ 10) (min v (σ 7)) < 4294967296 := isb_lt
          refine gx_isbx rfl rfl ?_
          refine gx_ap rfl (fun _ => rfl) g144 rfl rfl rfl (show 1 < 2 from by omega) rfl (gx_full (by first | decide | omega)) rfl (fun t153 g153 k153 e153 => ?_)
          have k54 : ai_hv t153 19 0 = some (.inl (σ 11)) := (e153 19 0 (by first | decide | omega)).trans k45
          have k55 : ai_hv t153 21 0 = some (.inl (σ 13)) := (e153 21 0 (by first | decide | omega)).trans k46
          have k56 : ai_hv t153 208 1 = some (.inl (w 3 1)) := (e153 208 1 (by first | decide | omega)).trans k47
          have k57 : ai_hv t153 16 (w 3 1) = some (.inl (σ (1 + w 3 1))) := (e153 16 (w 3 1) (by first | decide | omega)).trans k48
          have k58 : ai_hv t153 17 0 = some (.inl ((σ 7) - (min v (σ 7)))) := (e153 17 0 (by first | decide | omega)).trans k49
          have k59 : ai_hv t153 17 1 = some (.inl ((σ 8) + (min v (σ 7)))) := (e153 17 1 (by first | decide | omega)).trans k50
          have k60 : ai_hv t153 18 0 = some (.inl (en_wrap ((σ 9) + (min v (σ 7))))) := (e153 18 0 (by first | decide | omega)).trans k144
          refine ex_go (S := (121, [(5, .inl (min v (σ 7))), (4, .inl 1), (0, gx_r 15), (1, gx_r 191), (2, .inl 0), (3, .inl v)], [.inl (min v (σ 7))], t153, n, 0)) rfl (fun _ => rfl) rfl ?_
          refine ex_ret (r := (some (.inl (min v (σ 7))), t153, n, 0)) rfl (fun _ => rfl) ?_
          have hl9 : lnv σ 0 v = min v (σ 7) := by omega
          refine ⟨_, rfl, _, t153, rfl, g153, (fun c i h => (e153 c i (by first | decide | omega)).trans ((e144 c i (by first | decide | omega)).trans ((e136 c i (by first | decide | omega)).trans (e130 c i (by first | decide | omega))))), (fun _ => ⟨hl9.symm, ?_⟩), fun z => absurd (by rw [hml]; omega) z⟩
          refine ⟨?_, fun i hi => ?_, fun c9 hc9 => ?_⟩
          · rw [sgL_o (by first | decide | omega) (by first | decide | omega) (by first | decide | omega) (by first | decide | omega)]; exact ((e153 15 0 (by first | decide | omega)).trans ((e144 15 0 (by first | decide | omega)).trans ((e136 15 0 (by first | decide | omega)).trans (e130 15 0 (by first | decide | omega))))).trans (hS.1)
          · rw [sgL_o (by first | decide | omega) (by first | decide | omega) (by first | decide | omega) (by first | decide | omega)]; exact ((e153 16 i (by first | decide | omega)).trans ((e144 16 i (by first | decide | omega)).trans ((e136 16 i (by first | decide | omega)).trans (e130 16 i (by first | decide | omega))))).trans (hS.2.1 i hi)
          · rcases (show c9 = 0 ∨ c9 = 1 by omega) with rfl | rfl
            · obtain ⟨y7, y9, y11, y15, y13⟩ := hS.2.2 0 hc9
              refine ⟨?_, ?_, ?_, ?_, ?_⟩
              · rw [sgL_7, hl9]; exact k58
              · rw [sgL_9 (by first | decide | omega), hl9]; exact k60
              · rw [sgL_o (by first | decide | omega) (by first | decide | omega) (by first | decide | omega) (by first | decide | omega)]; exact ((e153 19 0 (by first | decide | omega)).trans ((e144 19 0 (by first | decide | omega)).trans ((e136 19 0 (by first | decide | omega)).trans (e130 19 0 (by first | decide | omega))))).trans (y11)
              · rw [sgL_o (by first | decide | omega) (by first | decide | omega) (by first | decide | omega) (by first | decide | omega)]; exact ((e153 20 0 (by first | decide | omega)).trans ((e144 20 0 (by first | decide | omega)).trans ((e136 20 0 (by first | decide | omega)).trans (e130 20 0 (by first | decide | omega))))).trans (y15)
              · intro z
                rw [sgL_o (by first | decide | omega) (by first | decide | omega) (by first | decide | omega) (by first | decide | omega)] at z
                rw [sgL_o (by first | decide | omega) (by first | decide | omega) (by first | decide | omega) (by first | decide | omega)]; exact ((e153 21 0 (by first | decide | omega)).trans ((e144 21 0 (by first | decide | omega)).trans ((e136 21 0 (by first | decide | omega)).trans (e130 21 0 (by first | decide | omega))))).trans (y13 z)
            · obtain ⟨y7, y9, y11, y15, y13⟩ := hS.2.2 1 hc9
              refine ⟨?_, ?_, ?_, ?_, ?_⟩
              · rw [show 7 + 1 = 8 - 0 from rfl, sgL_8 (by first | decide | omega), hl9]; exact k59
              · rw [show 9 + 1 = 10 - 0 from rfl, sgL_10 (by first | decide | omega), hl9]; exact k153
              · rw [sgL_o (by first | decide | omega) (by first | decide | omega) (by first | decide | omega) (by first | decide | omega)]; exact ((e153 19 1 (by first | decide | omega)).trans ((e144 19 1 (by first | decide | omega)).trans ((e136 19 1 (by first | decide | omega)).trans (e130 19 1 (by first | decide | omega))))).trans (y11)
              · rw [sgL_o (by first | decide | omega) (by first | decide | omega) (by first | decide | omega) (by first | decide | omega)]; exact ((e153 20 1 (by first | decide | omega)).trans ((e144 20 1 (by first | decide | omega)).trans ((e136 20 1 (by first | decide | omega)).trans (e130 20 1 (by first | decide | omega))))).trans (y15)
              · intro z
                rw [sgL_o (by first | decide | omega) (by first | decide | omega) (by first | decide | omega) (by first | decide | omega)] at z
                rw [sgL_o (by first | decide | omega) (by first | decide | omega) (by first | decide | omega) (by first | decide | omega)]; exact ((e153 21 1 (by first | decide | omega)).trans ((e144 21 1 (by first | decide | omega)).trans ((e136 21 1 (by first | decide | omega)).trans (e130 21 1 (by first | decide | omega))))).trans (y13 z)
        · refine gx_2f (c := .eq) rfl (by first | decide | omega) (by first | decide | omega) hc29 rfl ?_
          refine ex_go (S := (60, [(4, .inl 1), (0, gx_r 15), (1, gx_r 191), (2, .inl 0), (3, .inl v)], [.inl 4294967295], t0, n, 0)) rfl (fun _ => rfl) rfl ?_
          refine ex_ret (r := (some (.inl 4294967295), t0, n, 0)) rfl (fun _ => rfl) ?_
          exact ⟨_, rfl, _, t0, rfl, g0, (fun _ _ _ => rfl), (fun z => by rw [hml] at z; omega), fun _ => ⟨rfl, rfl⟩⟩
  · have hS9 := hS
    have hb9 := hb
    obtain ⟨hb1, ⟨hb7, hb8⟩, ⟨hb11, hb12⟩, ⟨hb13, hb14⟩, ⟨hb15, hb16⟩, hb0, hbo9, hb10⟩ := hb9
    have hT := hw.1.2.2.1
    have hK := hw.1.2.2.2.2.1
    obtain ⟨x7_0, x9_0, x11_0, x15_0, x13_0⟩ := hS9.2.2 0 (by first | decide | omega)
    have x13_0 : σ 11 = 1 → ai_hv t0 21 0 = some (.inl (σ 13)) := x13_0
    have w3_0 := (hC.2.2.1 0 (by first | decide | omega)).1
    have hs0 := (hw.2.1 0 (by first | decide | omega)).1
    have hp0 := hb1 (w 3 0) (by first | decide | omega)
    refine en_u_ex (d := d + 1) rfl ?_
    show en_ex _ _ _ _ (0, [(0, gx_r 15), (1, gx_r 191), (2, .inl 0), (3, .inl v)], [], t0, n, 0) _
    refine ex_go (S := (1, [(0, gx_r 15), (1, gx_r 191), (2, .inl 0), (3, .inl v)], [.inl 1], t0, n, 0)) rfl (fun _ => rfl) rfl ?_
    refine ex_go (S := (2, [(0, gx_r 15), (1, gx_r 191), (2, .inl 0), (3, .inl v)], [.inl 0, .inl 1], t0, n, 0)) rfl (fun _ => rfl) rfl ?_
    refine ex_go (S := (3, [(0, gx_r 15), (1, gx_r 191), (2, .inl 0), (3, .inl v)], [.inl 1], t0, n, 0)) rfl (fun _ => rfl) rfl ?_
    refine ex_go (S := (5, [(4, .inl 1), (0, gx_r 15), (1, gx_r 191), (2, .inl 0), (3, .inl v)], [], t0, n, 0)) rfl (fun _ => rfl) rfl ?_
    refine ex_go (S := (6, [(4, .inl 1), (0, gx_r 15), (1, gx_r 191), (2, .inl 0), (3, .inl v)], [gx_r 191], t0, n, 0)) rfl (fun _ => rfl) rfl ?_
    refine gxo_ref (a := 191) (c := 206) rfl g0 rfl rfl rfl rfl rfl ?_
    refine ex_go (S := (11, [(4, .inl 1), (0, gx_r 15), (1, gx_r 191), (2, .inl 0), (3, .inl v)], [.inl 1, gx_r 206], t0, n, 0)) rfl (fun _ => rfl) rfl ?_
    obtain ⟨_, r121, b121, rfl, hb121, hi121⟩ := pz_holds206 d n (x := 1) (K := w 0 4) g0 (by decide) hC.1.2.2.2.2.2 (by first | decide | omega)
    refine gx_callo (a := 206) rfl rfl g0 rfl rfl rfl r121 rfl ?_
    show en_ex _ _ _ _ (14, [(4, .inl 1), (0, gx_r 15), (1, gx_r 191), (2, .inl 0), (3, .inl v)], [.inl b121], t0, n, 0) _
    refine gx_1t (c := .eq) rfl (by first | decide | omega) (show b121 = 0 from by omega) rfl ?_
    refine ex_go (S := (60, [(4, .inl 1), (0, gx_r 15), (1, gx_r 191), (2, .inl 0), (3, .inl v)], [.inl 4294967295], t0, n, 0)) rfl (fun _ => rfl) rfl ?_
    refine ex_ret (r := (some (.inl 4294967295), t0, n, 0)) rfl (fun _ => rfl) ?_
    exact ⟨_, rfl, _, t0, rfl, g0, (fun _ _ _ => rfl), (fun z => by rw [hml] at z; omega), fun _ => ⟨rfl, rfl⟩⟩
theorem sc_bi15_191_0 (d n : Nat) {t0 : en_H} {w : Nat → Nat → Nat} {L : List Nat} {σ : Nat → Nat} (g0 : ai_HG ah_G t0) (hC : CW t0 191 w L) (hw : WS w) (hb : sbd σ) (hS : SC t0 15 (w 0 2) (w 0 4) σ) (hc : 0 < w 0 4) : ∃ r, en_u (d + 1) 202 [gx_r 15, gx_r 191, .inl 0] t0 n = some r ∧ ∃ y t', r = (some (.inl y), t', n, 0) ∧ ai_HG ah_G t' ∧ (∀ c i, ¬ c = 19 → ai_hv t' c i = ai_hv t0 c i) ∧ y ≤ 1 ∧ (y = 1 → mayM w σ 0 ∧ SC t' 15 (w 0 2) (w 0 4) (sgM' σ 0)) ∧ (y = 0 → ¬ mayM w σ 0 ∧ t' = t0) := by
  have hml : mayM w σ 0 ↔ (σ 11 = 1 ∧ σ 13 = σ (1 + w 3 0)) := Iff.rfl
  have hS9 := hS
  have hb9 := hb
  obtain ⟨hb1, ⟨hb7, hb8⟩, ⟨hb11, hb12⟩, ⟨hb13, hb14⟩, ⟨hb15, hb16⟩, hb0, hbo9, hb10⟩ := hb9
  have hT := hw.1.2.2.1
  have hK := hw.1.2.2.2.2.1
  obtain ⟨x7_0, x9_0, x11_0, x15_0, x13_0⟩ := hS9.2.2 0 (by first | decide | omega)
  have x13_0 : σ 11 = 1 → ai_hv t0 21 0 = some (.inl (σ 13)) := x13_0
  have w3_0 := (hC.2.2.1 0 (by first | decide | omega)).1
  have hs0 := (hw.2.1 0 (by first | decide | omega)).1
  have hp0 := hb1 (w 3 0) (by first | decide | omega)
  refine en_u_ex rfl ?_
  show en_ex _ _ _ _ (0, [(0, gx_r 15), (1, gx_r 191), (2, .inl 0)], [], t0, n, 0) _
  refine ex_go (S := (1, [(0, gx_r 15), (1, gx_r 191), (2, .inl 0)], [gx_r 15], t0, n, 0)) rfl (fun _ => rfl) rfl ?_
  refine gxo_ref (a := 15) (c := 19) rfl g0 rfl rfl rfl rfl rfl ?_
  refine ex_go (S := (5, [(0, gx_r 15), (1, gx_r 191), (2, .inl 0)], [.inl 0, gx_r 19], t0, n, 0)) rfl (fun _ => rfl) rfl ?_
  have k21 : ai_hv t0 19 0 = some (.inl (σ 11)) := x11_0
  refine gx_ag (v := .inl (σ 11)) (cb := fun c => Nat.beq c 2 || Nat.beq c 1) rfl (fun _ => rfl) g0 rfl rfl k21 (by first | decide | omega) rfl ?_
  by_cases hc22 : σ 11 = 0
  · refine gx_1t (c := .eq) rfl (by first | decide | omega) hc22 rfl ?_
    refine ex_go (S := (33, [(0, gx_r 15), (1, gx_r 191), (2, .inl 0)], [.inl 0], t0, n, 0)) rfl (fun _ => rfl) rfl ?_
    refine ex_ret (r := (some (.inl 0), t0, n, 0)) rfl (fun _ => rfl) ?_
    exact ⟨_, rfl, 0, t0, rfl, g0, (fun _ _ _ => rfl), by decide, (fun z => absurd z (by decide)), fun _ => ⟨fun z => by rw [hml] at z; omega, rfl⟩⟩
  · refine gx_1f (c := .eq) rfl (by first | decide | omega) hc22 rfl ?_
    refine ex_go (S := (10, [(0, gx_r 15), (1, gx_r 191), (2, .inl 0)], [gx_r 15], t0, n, 0)) rfl (fun _ => rfl) rfl ?_
    refine gxo_ref (a := 15) (c := 21) rfl g0 rfl rfl rfl rfl rfl ?_
    refine ex_go (S := (14, [(0, gx_r 15), (1, gx_r 191), (2, .inl 0)], [.inl 0, gx_r 21], t0, n, 0)) rfl (fun _ => rfl) rfl ?_
    have k23 : ai_hv t0 21 0 = some (.inl (σ 13)) := x13_0 (by first | decide | omega)
    refine gx_ag (v := .inl (σ 13)) (cb := fun c => Nat.beq c 0) rfl (fun _ => rfl) g0 rfl rfl k23 (by first | decide | omega) rfl ?_
    refine ex_go (S := (16, [(0, gx_r 15), (1, gx_r 191), (2, .inl 0)], [gx_r 15, .inl (σ 13)], t0, n, 0)) rfl (fun _ => rfl) rfl ?_
    refine gxo_ref (a := 15) (c := 16) rfl g0 rfl rfl rfl rfl rfl ?_
    refine ex_go (S := (20, [(0, gx_r 15), (1, gx_r 191), (2, .inl 0)], [gx_r 191, gx_r 16, .inl (σ 13)], t0, n, 0)) rfl (fun _ => rfl) rfl ?_
    refine gxo_ref (a := 191) (c := 206) rfl g0 rfl rfl rfl rfl rfl ?_
    refine gxo_ref (a := 206) (c := 208) rfl g0 rfl rfl rfl rfl rfl ?_
    refine ex_go (S := (27, [(0, gx_r 15), (1, gx_r 191), (2, .inl 0)], [.inl 0, gx_r 208, gx_r 16, .inl (σ 13)], t0, n, 0)) rfl (fun _ => rfl) rfl ?_
    have k24 : ai_hv t0 208 0 = some (.inl (w 3 0)) := w3_0
    refine gx_ag (v := .inl (w 3 0)) (cb := fun c => Nat.beq c 0) rfl (fun _ => rfl) g0 rfl rfl k24 (by first | decide | omega) rfl ?_
    have k25 : ai_hv t0 16 (w 3 0) = some (.inl (σ (1 + w 3 0))) := hS.2.1 _ (by first | decide | omega)
    refine gx_ag (v := .inl (σ (1 + w 3 0))) (cb := fun c => Nat.beq c 0) rfl (fun _ => rfl) g0 rfl rfl k25 (by first | decide | omega) rfl ?_
    by_cases hc26 : σ 13 = σ (1 + w 3 0)
    · refine gx_2t (c := .eq) rfl (by first | decide | omega) (by first | decide | omega) hc26 rfl ?_
      refine ex_go (S := (35, [(0, gx_r 15), (1, gx_r 191), (2, .inl 0)], [gx_r 15], t0, n, 0)) rfl (fun _ => rfl) rfl ?_
      refine gxo_ref (a := 15) (c := 19) rfl g0 rfl rfl rfl rfl rfl ?_
      refine ex_go (S := (39, [(0, gx_r 15), (1, gx_r 191), (2, .inl 0)], [.inl 0, gx_r 19], t0, n, 0)) rfl (fun _ => rfl) rfl ?_
      refine ex_go (S := (40, [(0, gx_r 15), (1, gx_r 191), (2, .inl 0)], [.inl 0, .inl 0, gx_r 19], t0, n, 0)) rfl (fun _ => rfl) rfl ?_
      refine gx_apv (d := 2) rfl (fun _ => rfl) g0 rfl rfl rfl (show 0 < 2 from by omega) rfl (ai_in_h (by first | decide | omega) (by first | decide | omega) (by first | decide | omega)) rfl (fun t127 g127 k127 e127 => ?_)
      have k28 : ai_hv t127 21 0 = some (.inl (σ 13)) := (e127 21 0 (by first | decide | omega)).trans k23
      have k29 : ai_hv t127 208 0 = some (.inl (w 3 0)) := (e127 208 0 (by first | decide | omega)).trans k24
      have k30 : ai_hv t127 16 (w 3 0) = some (.inl (σ (1 + w 3 0))) := (e127 16 (w 3 0) (by first | decide | omega)).trans k25
      refine ex_go (S := (42, [(0, gx_r 15), (1, gx_r 191), (2, .inl 0)], [.inl 1], t127, n, 0)) rfl (fun _ => rfl) rfl ?_
      refine ex_ret (r := (some (.inl 1), t127, n, 0)) rfl (fun _ => rfl) ?_
      refine ⟨_, rfl, 1, t127, rfl, g127, (fun c i h => e127 c i (by first | decide | omega)), by decide, (fun _ => ⟨by rw [hml]; omega, ?_⟩), fun z => absurd z (by decide)⟩
      refine ⟨?_, fun i hi => ?_, fun c9 hc9 => ?_⟩
      · rw [sgM_o (by first | decide | omega)]; exact (e127 15 0 (by first | decide | omega)).trans (hS.1)
      · rw [sgM_o (by first | decide | omega)]; exact (e127 16 i (by first | decide | omega)).trans (hS.2.1 i hi)
      · rcases (show c9 = 0 ∨ c9 = 1 by omega) with rfl | rfl
        · obtain ⟨y7, y9, y11, y15, y13⟩ := hS.2.2 0 hc9
          refine ⟨?_, ?_, ?_, ?_, ?_⟩
          · rw [sgM_o (by first | decide | omega)]; exact (e127 17 0 (by first | decide | omega)).trans (y7)
          · rw [sgM_o (by first | decide | omega)]; exact (e127 18 0 (by first | decide | omega)).trans (y9)
          · rw [sgM_11]; exact k127
          · rw [sgM_o (by first | decide | omega)]; exact (e127 20 0 (by first | decide | omega)).trans (y15)
          · intro z; rw [sgM_11] at z; exact absurd z (by decide)
        · obtain ⟨y7, y9, y11, y15, y13⟩ := hS.2.2 1 hc9
          refine ⟨?_, ?_, ?_, ?_, ?_⟩
          · rw [sgM_o (by first | decide | omega)]; exact (e127 17 1 (by first | decide | omega)).trans (y7)
          · rw [sgM_o (by first | decide | omega)]; exact (e127 18 1 (by first | decide | omega)).trans (y9)
          · rw [sgM_o (by first | decide | omega)]; exact (e127 19 1 (by first | decide | omega)).trans (y11)
          · rw [sgM_o (by first | decide | omega)]; exact (e127 20 1 (by first | decide | omega)).trans (y15)
          · intro z
            rw [sgM_o (by first | decide | omega)] at z
            rw [sgM_o (by first | decide | omega)]; exact (e127 21 1 (by first | decide | omega)).trans (y13 z)
    · refine gx_2f (c := .eq) rfl (by first | decide | omega) (by first | decide | omega) hc26 rfl ?_
      refine ex_go (S := (33, [(0, gx_r 15), (1, gx_r 191), (2, .inl 0)], [.inl 0], t0, n, 0)) rfl (fun _ => rfl) rfl ?_
      refine ex_ret (r := (some (.inl 0), t0, n, 0)) rfl (fun _ => rfl) ?_
      exact ⟨_, rfl, 0, t0, rfl, g0, (fun _ _ _ => rfl), by decide, (fun z => absurd z (by decide)), fun _ => ⟨fun z => by rw [hml] at z; omega, rfl⟩⟩
theorem sc_sled15_191_1 (d n : Nat) {t0 : en_H} {w : Nat → Nat → Nat} {L : List Nat} {σ : Nat → Nat} (g0 : ai_HG ah_G t0) (hC : CW t0 191 w L) (hw : WS w) (hb : sbd σ) (hS : SC t0 15 (w 0 2) (w 0 4) σ) (hc : 1 < w 0 4) : ∃ r, en_u (d + 1) 172 [gx_r 15, gx_r 191, .inl 1] t0 n = some r ∧ r = (some (.inl (slp w σ 1)), t0, n, 0) := by
  have hS9 := hS
  have hb9 := hb
  obtain ⟨hb1, ⟨hb7, hb8⟩, ⟨hb11, hb12⟩, ⟨hb13, hb14⟩, ⟨hb15, hb16⟩, hb0, hbo9, hb10⟩ := hb9
  have hT := hw.1.2.2.1
  have hK := hw.1.2.2.2.2.1
  obtain ⟨x7_1, x9_1, x11_1, x15_1, x13_1⟩ := hS9.2.2 1 (by first | decide | omega)
  have x13_1 : σ 12 = 1 → ai_hv t0 21 1 = some (.inl (σ 14)) := x13_1
  have w3_1 := (hC.2.2.1 1 (by first | decide | omega)).1
  have hs1 := (hw.2.1 1 (by first | decide | omega)).1
  have hp1 := hb1 (w 3 1) (by first | decide | omega)
  have hsl : slp w σ 1 = if σ 12 = 1 then σ 14 else σ (1 + w 3 1) := rfl
  refine en_u_ex rfl ?_
  show en_ex _ _ _ _ (0, [(0, gx_r 15), (1, gx_r 191), (2, .inl 1)], [], t0, n, 0) _
  refine ex_go (S := (1, [(0, gx_r 15), (1, gx_r 191), (2, .inl 1)], [gx_r 15], t0, n, 0)) rfl (fun _ => rfl) rfl ?_
  refine gxo_ref (a := 15) (c := 19) rfl g0 rfl rfl rfl rfl rfl ?_
  refine ex_go (S := (5, [(0, gx_r 15), (1, gx_r 191), (2, .inl 1)], [.inl 1, gx_r 19], t0, n, 0)) rfl (fun _ => rfl) rfl ?_
  have k21 : ai_hv t0 19 1 = some (.inl (σ 12)) := x11_1
  refine gx_ag (v := .inl (σ 12)) (cb := fun c => Nat.beq c 2 || Nat.beq c 1) rfl (fun _ => rfl) g0 rfl rfl k21 (by first | decide | omega) rfl ?_
  by_cases hc22 : σ 12 = 0
  · refine gx_1t (c := .eq) rfl (by first | decide | omega) hc22 rfl ?_
    refine ex_go (S := (19, [(0, gx_r 15), (1, gx_r 191), (2, .inl 1)], [gx_r 15], t0, n, 0)) rfl (fun _ => rfl) rfl ?_
    refine gxo_ref (a := 15) (c := 16) rfl g0 rfl rfl rfl rfl rfl ?_
    refine ex_go (S := (23, [(0, gx_r 15), (1, gx_r 191), (2, .inl 1)], [gx_r 191, gx_r 16], t0, n, 0)) rfl (fun _ => rfl) rfl ?_
    refine gxo_ref (a := 191) (c := 206) rfl g0 rfl rfl rfl rfl rfl ?_
    refine gxo_ref (a := 206) (c := 208) rfl g0 rfl rfl rfl rfl rfl ?_
    refine ex_go (S := (30, [(0, gx_r 15), (1, gx_r 191), (2, .inl 1)], [.inl 1, gx_r 208, gx_r 16], t0, n, 0)) rfl (fun _ => rfl) rfl ?_
    have k23 : ai_hv t0 208 1 = some (.inl (w 3 1)) := w3_1
    refine gx_ag (v := .inl (w 3 1)) (cb := fun c => Nat.beq c 0) rfl (fun _ => rfl) g0 rfl rfl k23 (by first | decide | omega) rfl ?_
    have k24 : ai_hv t0 16 (w 3 1) = some (.inl (σ (1 + w 3 1))) := hS.2.1 _ (by first | decide | omega)
    refine gx_ag (v := .inl (σ (1 + w 3 1))) (cb := fun c => Nat.beq c 0) rfl (fun _ => rfl) g0 rfl rfl k24 (by first | decide | omega) rfl ?_
    refine ex_ret (r := (some (.inl (σ (1 + w 3 1))), t0, n, 0)) rfl (fun _ => rfl) ?_
    have e9 : slp w σ 1 = σ (1 + w 3 1) := by rw [hsl, if_neg (by first | decide | omega)]
    exact ⟨_, rfl, by rw [e9]⟩
  · refine gx_1f (c := .eq) rfl (by first | decide | omega) hc22 rfl ?_
    refine ex_go (S := (10, [(0, gx_r 15), (1, gx_r 191), (2, .inl 1)], [gx_r 15], t0, n, 0)) rfl (fun _ => rfl) rfl ?_
    refine gxo_ref (a := 15) (c := 21) rfl g0 rfl rfl rfl rfl rfl ?_
    refine ex_go (S := (14, [(0, gx_r 15), (1, gx_r 191), (2, .inl 1)], [.inl 1, gx_r 21], t0, n, 0)) rfl (fun _ => rfl) rfl ?_
    have k25 : ai_hv t0 21 1 = some (.inl (σ 14)) := x13_1 (by first | decide | omega)
    refine gx_ag (v := .inl (σ 14)) (cb := fun c => Nat.beq c 0) rfl (fun _ => rfl) g0 rfl rfl k25 (by first | decide | omega) rfl ?_
    refine ex_go (S := (32, [(0, gx_r 15), (1, gx_r 191), (2, .inl 1)], [.inl (σ 14)], t0, n, 0)) rfl (fun _ => rfl) rfl ?_
    refine ex_ret (r := (some (.inl (σ 14)), t0, n, 0)) rfl (fun _ => rfl) ?_
    have e9 : slp w σ 1 = σ 14 := by rw [hsl, if_pos (by first | decide | omega)]
    exact ⟨_, rfl, by rw [e9]⟩
theorem sc_hs15_191_1 (d n : Nat) {t0 : en_H} {w : Nat → Nat → Nat} {L : List Nat} {σ : Nat → Nat} {to : Nat} (g0 : ai_HG ah_G t0) (hC : CW t0 191 w L) (hw : WS w) (hb : sbd σ) (hS : SC t0 15 (w 0 2) (w 0 4) σ) (hX : CX t0 191 w) (hB : σ 0 ≤ 900000) (hc : 1 < w 0 4) (ht : to < 64) : ∃ r, en_u (d + 4) 200 [gx_r 15, gx_r 191, .inl 1, .inl to] t0 n = some r ∧ ∃ v t', r = (some (.inl v), t', n, 0) ∧ ai_HG ah_G t' ∧ (∀ c i, ¬ (c = 19 ∨ c = 20 ∨ c = 21) → ai_hv t' c i = ai_hv t0 c i) ∧ v ≤ 1 ∧ (v = 1 → mayH w σ 1 to ∧ SC t' 15 (w 0 2) (w 0 4) (sgH σ 1 to)) ∧ (v = 0 → ¬ mayH w σ 1 to ∧ t' = t0) := by
  have hsp := slp_lt hw hb hc
  have hS9 := hS
  have hb9 := hb
  obtain ⟨hb1, ⟨hb7, hb8⟩, ⟨hb11, hb12⟩, ⟨hb13, hb14⟩, ⟨hb15, hb16⟩, hb0, hbo9, hb10⟩ := hb9
  have hT := hw.1.2.2.1
  have hK := hw.1.2.2.2.2.1
  obtain ⟨x7_1, x9_1, x11_1, x15_1, x13_1⟩ := hS9.2.2 1 (by first | decide | omega)
  have x13_1 : σ 12 = 1 → ai_hv t0 21 1 = some (.inl (σ 14)) := x13_1
  have w3_1 := (hC.2.2.1 1 (by first | decide | omega)).1
  have hs1 := (hw.2.1 1 (by first | decide | omega)).1
  have hp1 := hb1 (w 3 1) (by first | decide | omega)
  refine en_u_ex (d := d + 3) rfl ?_
  show en_ex _ _ _ _ (0, [(0, gx_r 15), (1, gx_r 191), (2, .inl 1), (3, .inl to)], [], t0, n, 0) _
  refine ex_go (S := (1, [(0, gx_r 15), (1, gx_r 191), (2, .inl 1), (3, .inl to)], [gx_r 15], t0, n, 0)) rfl (fun _ => rfl) rfl ?_
  refine ex_go (S := (2, [(0, gx_r 15), (1, gx_r 191), (2, .inl 1), (3, .inl to)], [gx_r 191, gx_r 15], t0, n, 0)) rfl (fun _ => rfl) rfl ?_
  refine ex_go (S := (3, [(0, gx_r 15), (1, gx_r 191), (2, .inl 1), (3, .inl to)], [.inl 1, gx_r 191, gx_r 15], t0, n, 0)) rfl (fun _ => rfl) rfl ?_
  obtain ⟨_, r21, rfl⟩ := sc_sled15_191_1 (d + 2) n g0 hC hw hb hS hc
  refine gx_callo (a := 15) rfl rfl g0 rfl rfl rfl r21 rfl ?_
  show en_ex _ _ _ _ (6, [(0, gx_r 15), (1, gx_r 191), (2, .inl 1), (3, .inl to)], [.inl (slp w σ 1)], t0, n, 0) _
  refine ex_go (S := (8, [(4, .inl (slp w σ 1)), (0, gx_r 15), (1, gx_r 191), (2, .inl 1), (3, .inl to)], [], t0, n, 0)) rfl (fun _ => rfl) rfl ?_
  refine ex_go (S := (9, [(4, .inl (slp w σ 1)), (0, gx_r 15), (1, gx_r 191), (2, .inl 1), (3, .inl to)], [gx_r 15], t0, n, 0)) rfl (fun _ => rfl) rfl ?_
  refine gxo_ref (a := 15) (c := 20) rfl g0 rfl rfl rfl rfl rfl ?_
  refine ex_go (S := (13, [(4, .inl (slp w σ 1)), (0, gx_r 15), (1, gx_r 191), (2, .inl 1), (3, .inl to)], [.inl 1, gx_r 20], t0, n, 0)) rfl (fun _ => rfl) rfl ?_
  have k22 : ai_hv t0 20 1 = some (.inl (σ 16)) := x15_1
  refine gx_ag (v := .inl (σ 16)) (cb := fun c => Nat.beq c 2 || Nat.beq c 1) rfl (fun _ => rfl) g0 rfl rfl k22 (by first | decide | omega) rfl ?_
  by_cases hc23 : σ 16 ≠ 0
  · refine gx_1t (c := .ne) rfl (by first | decide | omega) hc23 rfl ?_
    refine ex_go (S := (44, [(4, .inl (slp w σ 1)), (0, gx_r 15), (1, gx_r 191), (2, .inl 1), (3, .inl to)], [.inl 0], t0, n, 0)) rfl (fun _ => rfl) rfl ?_
    refine ex_ret (r := (some (.inl 0), t0, n, 0)) rfl (fun _ => rfl) ?_
    exact ⟨_, rfl, 0, t0, rfl, g0, (fun _ _ _ => rfl), by decide, (fun z => absurd z (by decide)), fun _ => ⟨fun z => by
      obtain ⟨z1, z2, -⟩ := z
      have z1 : ¬ σ 16 = 1 := z1
      omega, rfl⟩⟩
  · refine gx_1f (c := .ne) rfl (by first | decide | omega) hc23 rfl ?_
    refine ex_go (S := (18, [(4, .inl (slp w σ 1)), (0, gx_r 15), (1, gx_r 191), (2, .inl 1), (3, .inl to)], [.inl to], t0, n, 0)) rfl (fun _ => rfl) rfl ?_
    refine ex_go (S := (20, [(4, .inl (slp w σ 1)), (0, gx_r 15), (1, gx_r 191), (2, .inl 1), (3, .inl to)], [.inl (slp w σ 1), .inl to], t0, n, 0)) rfl (fun _ => rfl) rfl ?_
    by_cases hc24 : to = slp w σ 1
    · refine gx_2t (c := .eq) rfl (by first | decide | omega) (by first | decide | omega) hc24 rfl ?_
      refine ex_go (S := (44, [(4, .inl (slp w σ 1)), (0, gx_r 15), (1, gx_r 191), (2, .inl 1), (3, .inl to)], [.inl 0], t0, n, 0)) rfl (fun _ => rfl) rfl ?_
      refine ex_ret (r := (some (.inl 0), t0, n, 0)) rfl (fun _ => rfl) ?_
      exact ⟨_, rfl, 0, t0, rfl, g0, (fun _ _ _ => rfl), by decide, (fun z => absurd z (by decide)), fun _ => ⟨fun z => by
        obtain ⟨z1, z2, -⟩ := z
        have z1 : ¬ σ 16 = 1 := z1
        omega, rfl⟩⟩
    · refine gx_2f (c := .eq) rfl (by first | decide | omega) (by first | decide | omega) hc24 rfl ?_
      refine ex_go (S := (24, [(4, .inl (slp w σ 1)), (0, gx_r 15), (1, gx_r 191), (2, .inl 1), (3, .inl to)], [gx_r 191], t0, n, 0)) rfl (fun _ => rfl) rfl ?_
      refine ex_go (S := (26, [(4, .inl (slp w σ 1)), (0, gx_r 15), (1, gx_r 191), (2, .inl 1), (3, .inl to)], [.inl (slp w σ 1), gx_r 191], t0, n, 0)) rfl (fun _ => rfl) rfl ?_
      obtain ⟨_, r25, rfl⟩ := pz_bit (d + 2) n (t0 := t0) (x := slp w σ 1) (by first | decide | omega)
      refine ex_stat rfl rfl rfl rfl rfl r25 (Nat.le_refl _) rfl ?_
      show en_ex _ _ _ _ (29, [(4, .inl (slp w σ 1)), (0, gx_r 15), (1, gx_r 191), (2, .inl 1), (3, .inl to)], [.inr (.inl (2 ^ (slp w σ 1))), gx_r 191], t0, n, 0) _
      refine ex_go (S := (30, [(4, .inl (slp w σ 1)), (0, gx_r 15), (1, gx_r 191), (2, .inl 1), (3, .inl to)], [gx_r 15, .inr (.inl (2 ^ (slp w σ 1))), gx_r 191], t0, n, 0)) rfl (fun _ => rfl) rfl ?_
      refine gxo_get (a := 15) rfl g0 rfl rfl hS.1 rfl ?_
      obtain ⟨_, r1, y, rfl, hy⟩ := sc_hauled191 d n (H := fun q => decide (q = slp w σ 1)) (s := σ 0) (x := 2 ^ slp w σ 1) g0 hC hX hw (by first | decide | omega) (bts_mk (sz_two hsp) (fun j hj => by rw [Nat.testBit_two_pow, decide_eq_decide]; exact eq_comm))
      refine gx_callo (a := 191) rfl rfl g0 rfl rfl rfl r1 rfl ?_
      show en_ex _ _ _ _ (36, [(4, .inl (slp w σ 1)), (0, gx_r 15), (1, gx_r 191), (2, .inl 1), (3, .inl to)], [.inr (.inl y)], t0, n, 0) _
      refine ex_go (S := (37, [(4, .inl (slp w σ 1)), (0, gx_r 15), (1, gx_r 191), (2, .inl 1), (3, .inl to)], [.inl to, .inr (.inl y)], t0, n, 0)) rfl (fun _ => rfl) rfl ?_
      obtain ⟨_, r26, rfl⟩ := pz_has (d + 1) n (t0 := t0) (x := y) (k := to) hy.1 ht
      have hbt := bts_at hy ht
      have hbv := bv_le (b := y.testBit to)
      refine ex_stat rfl rfl rfl rfl rfl r26 (Nat.le_refl _) rfl ?_
      show en_ex _ _ _ _ (40, [(4, .inl (slp w σ 1)), (0, gx_r 15), (1, gx_r 191), (2, .inl 1), (3, .inl to)], [.inl (bv (y.testBit to))], t0, n, 0) _
      by_cases hc27 : bv (y.testBit to) ≠ 0
      · refine gx_1t (c := .ne) rfl (by first | decide | omega) hc27 rfl ?_
        refine ex_go (S := (46, [(4, .inl (slp w σ 1)), (0, gx_r 15), (1, gx_r 191), (2, .inl 1), (3, .inl to)], [gx_r 15], t0, n, 0)) rfl (fun _ => rfl) rfl ?_
        refine gxo_ref (a := 15) (c := 19) rfl g0 rfl rfl rfl rfl rfl ?_
        refine ex_go (S := (50, [(4, .inl (slp w σ 1)), (0, gx_r 15), (1, gx_r 191), (2, .inl 1), (3, .inl to)], [.inl 1, gx_r 19], t0, n, 0)) rfl (fun _ => rfl) rfl ?_
        refine ex_go (S := (51, [(4, .inl (slp w σ 1)), (0, gx_r 15), (1, gx_r 191), (2, .inl 1), (3, .inl to)], [.inl 1, .inl 1, gx_r 19], t0, n, 0)) rfl (fun _ => rfl) rfl ?_
        refine gx_apv (d := 2) rfl (fun _ => rfl) g0 rfl rfl rfl (show 1 < 2 from by omega) rfl (ai_in_h (by first | decide | omega) (by first | decide | omega) (by first | decide | omega)) rfl (fun t128 g128 k128 e128 => ?_)
        have k29 : ai_hv t128 15 0 = some (.inl (σ 0)) := (e128 15 0 (by first | decide | omega)).trans hS.1
        have k30 : ai_hv t128 20 1 = some (.inl (σ 16)) := (e128 20 1 (by first | decide | omega)).trans k22
        refine ex_go (S := (53, [(4, .inl (slp w σ 1)), (0, gx_r 15), (1, gx_r 191), (2, .inl 1), (3, .inl to)], [gx_r 15], t128, n, 0)) rfl (fun _ => rfl) rfl ?_
        refine gxo_ref (a := 15) (c := 20) rfl g128 rfl rfl rfl rfl rfl ?_
        refine ex_go (S := (57, [(4, .inl (slp w σ 1)), (0, gx_r 15), (1, gx_r 191), (2, .inl 1), (3, .inl to)], [.inl 1, gx_r 20], t128, n, 0)) rfl (fun _ => rfl) rfl ?_
        refine ex_go (S := (58, [(4, .inl (slp w σ 1)), (0, gx_r 15), (1, gx_r 191), (2, .inl 1), (3, .inl to)], [.inl 1, .inl 1, gx_r 20], t128, n, 0)) rfl (fun _ => rfl) rfl ?_
        refine gx_apv (d := 2) rfl (fun _ => rfl) g128 rfl rfl rfl (show 1 < 2 from by omega) rfl (ai_in_h (by first | decide | omega) (by first | decide | omega) (by first | decide | omega)) rfl (fun t131 g131 k131 e131 => ?_)
        have k32 : ai_hv t131 15 0 = some (.inl (σ 0)) := (e131 15 0 (by first | decide | omega)).trans k29
        have k33 : ai_hv t131 19 1 = some (.inl 1) := (e131 19 1 (by first | decide | omega)).trans k128
        refine ex_go (S := (60, [(4, .inl (slp w σ 1)), (0, gx_r 15), (1, gx_r 191), (2, .inl 1), (3, .inl to)], [gx_r 15], t131, n, 0)) rfl (fun _ => rfl) rfl ?_
        refine gxo_ref (a := 15) (c := 21) rfl g131 rfl rfl rfl rfl rfl ?_
        refine ex_go (S := (64, [(4, .inl (slp w σ 1)), (0, gx_r 15), (1, gx_r 191), (2, .inl 1), (3, .inl to)], [.inl 1, gx_r 21], t131, n, 0)) rfl (fun _ => rfl) rfl ?_
        refine ex_go (S := (65, [(4, .inl (slp w σ 1)), (0, gx_r 15), (1, gx_r 191), (2, .inl 1), (3, .inl to)], [.inl to, .inl 1, gx_r 21], t131, n, 0)) rfl (fun _ => rfl) rfl ?_
        refine gx_ap rfl (fun _ => rfl) g131 rfl rfl rfl (show 1 < 2 from by omega) rfl (ai_in_h (by first | decide | omega) (by first | decide | omega) (by first | decide | omega)) rfl (fun t134 g134 k134 e134 => ?_)
        have k35 : ai_hv t134 15 0 = some (.inl (σ 0)) := (e134 15 0 (by first | decide | omega)).trans k32
        have k36 : ai_hv t134 19 1 = some (.inl 1) := (e134 19 1 (by first | decide | omega)).trans k33
        have k37 : ai_hv t134 20 1 = some (.inl 1) := (e134 20 1 (by first | decide | omega)).trans k131
        refine ex_go (S := (67, [(4, .inl (slp w σ 1)), (0, gx_r 15), (1, gx_r 191), (2, .inl 1), (3, .inl to)], [.inl 1], t134, n, 0)) rfl (fun _ => rfl) rfl ?_
        refine ex_ret (r := (some (.inl 1), t134, n, 0)) rfl (fun _ => rfl) ?_
        refine ⟨_, rfl, 1, t134, rfl, g134, (fun c i h => (e134 c i (by first | decide | omega)).trans ((e131 c i (by first | decide | omega)).trans (e128 c i (by first | decide | omega)))), by decide, (fun _ => ⟨⟨?_, ?_, ?_⟩, ?_⟩), fun z => absurd z (by decide)⟩
        · show ¬ σ 16 = 1
          omega
        · omega
        · rw [← hbt]; exact bv_1 (by first | decide | omega)
        · refine ⟨?_, fun i hi => ?_, fun c9 hc9 => ?_⟩
          · rw [sgH_o (by first | decide | omega) (by first | decide | omega) (by first | decide | omega)]; exact ((e134 15 0 (by first | decide | omega)).trans ((e131 15 0 (by first | decide | omega)).trans (e128 15 0 (by first | decide | omega)))).trans (hS.1)
          · rw [sgH_o (by first | decide | omega) (by first | decide | omega) (by first | decide | omega)]; exact ((e134 16 i (by first | decide | omega)).trans ((e131 16 i (by first | decide | omega)).trans (e128 16 i (by first | decide | omega)))).trans (hS.2.1 i hi)
          · rcases (show c9 = 0 ∨ c9 = 1 by omega) with rfl | rfl
            · obtain ⟨y7, y9, y11, y15, y13⟩ := hS.2.2 0 hc9
              refine ⟨?_, ?_, ?_, ?_, ?_⟩
              · rw [sgH_o (by first | decide | omega) (by first | decide | omega) (by first | decide | omega)]; exact ((e134 17 0 (by first | decide | omega)).trans ((e131 17 0 (by first | decide | omega)).trans (e128 17 0 (by first | decide | omega)))).trans (y7)
              · rw [sgH_o (by first | decide | omega) (by first | decide | omega) (by first | decide | omega)]; exact ((e134 18 0 (by first | decide | omega)).trans ((e131 18 0 (by first | decide | omega)).trans (e128 18 0 (by first | decide | omega)))).trans (y9)
              · rw [sgH_o (by first | decide | omega) (by first | decide | omega) (by first | decide | omega)]; exact ((e134 19 0 (by first | decide | omega)).trans ((e131 19 0 (by first | decide | omega)).trans (e128 19 0 (by first | decide | omega)))).trans (y11)
              · rw [sgH_o (by first | decide | omega) (by first | decide | omega) (by first | decide | omega)]; exact ((e134 20 0 (by first | decide | omega)).trans ((e131 20 0 (by first | decide | omega)).trans (e128 20 0 (by first | decide | omega)))).trans (y15)
              · intro z
                rw [sgH_o (by first | decide | omega) (by first | decide | omega) (by first | decide | omega)] at z
                rw [sgH_o (by first | decide | omega) (by first | decide | omega) (by first | decide | omega)]; exact ((e134 21 0 (by first | decide | omega)).trans ((e131 21 0 (by first | decide | omega)).trans (e128 21 0 (by first | decide | omega)))).trans (y13 z)
            · obtain ⟨y7, y9, y11, y15, y13⟩ := hS.2.2 1 hc9
              refine ⟨?_, ?_, ?_, ?_, ?_⟩
              · rw [sgH_o (by first | decide | omega) (by first | decide | omega) (by first | decide | omega)]; exact ((e134 17 1 (by first | decide | omega)).trans ((e131 17 1 (by first | decide | omega)).trans (e128 17 1 (by first | decide | omega)))).trans (y7)
              · rw [sgH_o (by first | decide | omega) (by first | decide | omega) (by first | decide | omega)]; exact ((e134 18 1 (by first | decide | omega)).trans ((e131 18 1 (by first | decide | omega)).trans (e128 18 1 (by first | decide | omega)))).trans (y9)
              · rw [sgH_11]; exact k36
              · rw [sgH_15]; exact k37
              · intro _; rw [sgH_13]; exact k134
      · refine gx_1f (c := .ne) rfl (by first | decide | omega) hc27 rfl ?_
        refine ex_go (S := (44, [(4, .inl (slp w σ 1)), (0, gx_r 15), (1, gx_r 191), (2, .inl 1), (3, .inl to)], [.inl 0], t0, n, 0)) rfl (fun _ => rfl) rfl ?_
        refine ex_ret (r := (some (.inl 0), t0, n, 0)) rfl (fun _ => rfl) ?_
        exact ⟨_, rfl, 0, t0, rfl, g0, (fun _ _ _ => rfl), by decide, (fun z => absurd z (by decide)), fun _ => ⟨(fun z => by
          have h9 := bv_0 (b := y.testBit to) (by first | decide | omega)
          rw [hbt] at h9
          rw [z.2.2] at h9
          cases h9), rfl⟩⟩
theorem sc_lb15_191_1 (d n : Nat) {t0 : en_H} {w : Nat → Nat → Nat} {L : List Nat} {σ : Nat → Nat} {v : Nat} (g0 : ai_HG ah_G t0) (hC : CW t0 191 w L) (hw : WS w) (hb : sbd σ) (hS : SC t0 15 (w 0 2) (w 0 4) σ) (hsum : σ 7 + σ 8 ≤ 19998) (hc : 1 < w 0 4) (hv : v ≤ 999) : ∃ r, en_u (d + 2) 201 [gx_r 15, gx_r 191, .inl 1, .inl v] t0 n = some r ∧ ∃ y t', r = (some (.inl y), t', n, 0) ∧ ai_HG ah_G t' ∧ (∀ c i, ¬ (c = 17 ∨ c = 18) → ai_hv t' c i = ai_hv t0 c i) ∧ (mayL w σ 1 → y = lnv σ 1 v ∧ SC t' 15 (w 0 2) (w 0 4) (sgL σ 1 v)) ∧ (¬ mayL w σ 1 → y = 4294967295 ∧ t' = t0) := by
  have hml : mayL w σ 1 ↔ (w 0 4 = 2 ∧ σ 12 = 1 ∧ 0 < σ 8 ∧ σ 14 = σ (1 + w 3 0)) := Iff.rfl
  have hlv : lnv σ 1 v = min v (σ 8) := rfl
  by_cases h2 : w 0 4 = 2
  · have hS9 := hS
    have hb9 := hb
    obtain ⟨hb1, ⟨hb7, hb8⟩, ⟨hb11, hb12⟩, ⟨hb13, hb14⟩, ⟨hb15, hb16⟩, hb0, hbo9, hb10⟩ := hb9
    have hT := hw.1.2.2.1
    have hK := hw.1.2.2.2.2.1
    obtain ⟨x7_0, x9_0, x11_0, x15_0, x13_0⟩ := hS9.2.2 0 (by first | decide | omega)
    have x13_0 : σ 11 = 1 → ai_hv t0 21 0 = some (.inl (σ 13)) := x13_0
    have w3_0 := (hC.2.2.1 0 (by first | decide | omega)).1
    have hs0 := (hw.2.1 0 (by first | decide | omega)).1
    have hp0 := hb1 (w 3 0) (by first | decide | omega)
    obtain ⟨x7_1, x9_1, x11_1, x15_1, x13_1⟩ := hS9.2.2 1 (by first | decide | omega)
    have x13_1 : σ 12 = 1 → ai_hv t0 21 1 = some (.inl (σ 14)) := x13_1
    have w3_1 := (hC.2.2.1 1 (by first | decide | omega)).1
    have hs1 := (hw.2.1 1 (by first | decide | omega)).1
    have hp1 := hb1 (w 3 1) (by first | decide | omega)
    refine en_u_ex (d := d + 1) rfl ?_
    show en_ex _ _ _ _ (0, [(0, gx_r 15), (1, gx_r 191), (2, .inl 1), (3, .inl v)], [], t0, n, 0) _
    refine ex_go (S := (1, [(0, gx_r 15), (1, gx_r 191), (2, .inl 1), (3, .inl v)], [.inl 1], t0, n, 0)) rfl (fun _ => rfl) rfl ?_
    refine ex_go (S := (2, [(0, gx_r 15), (1, gx_r 191), (2, .inl 1), (3, .inl v)], [.inl 1, .inl 1], t0, n, 0)) rfl (fun _ => rfl) rfl ?_
    refine ex_go (S := (3, [(0, gx_r 15), (1, gx_r 191), (2, .inl 1), (3, .inl v)], [.inl 0], t0, n, 0)) rfl (fun _ => rfl) rfl ?_
    refine ex_go (S := (5, [(4, .inl 0), (0, gx_r 15), (1, gx_r 191), (2, .inl 1), (3, .inl v)], [], t0, n, 0)) rfl (fun _ => rfl) rfl ?_
    refine ex_go (S := (6, [(4, .inl 0), (0, gx_r 15), (1, gx_r 191), (2, .inl 1), (3, .inl v)], [gx_r 191], t0, n, 0)) rfl (fun _ => rfl) rfl ?_
    refine gxo_ref (a := 191) (c := 206) rfl g0 rfl rfl rfl rfl rfl ?_
    refine ex_go (S := (11, [(4, .inl 0), (0, gx_r 15), (1, gx_r 191), (2, .inl 1), (3, .inl v)], [.inl 0, gx_r 206], t0, n, 0)) rfl (fun _ => rfl) rfl ?_
    obtain ⟨_, r121, b121, rfl, hb121, hi121⟩ := pz_holds206 d n (x := 0) (K := w 0 4) g0 (by decide) hC.1.2.2.2.2.2 (by first | decide | omega)
    refine gx_callo (a := 206) rfl rfl g0 rfl rfl rfl r121 rfl ?_
    show en_ex _ _ _ _ (14, [(4, .inl 0), (0, gx_r 15), (1, gx_r 191), (2, .inl 1), (3, .inl v)], [.inl b121], t0, n, 0) _
    refine gx_1f (c := .eq) rfl (by first | decide | omega) (show ¬ (b121 = 0) from by omega) rfl ?_
    refine ex_go (S := (18, [(4, .inl 0), (0, gx_r 15), (1, gx_r 191), (2, .inl 1), (3, .inl v)], [gx_r 15], t0, n, 0)) rfl (fun _ => rfl) rfl ?_
    refine gxo_ref (a := 15) (c := 19) rfl g0 rfl rfl rfl rfl rfl ?_
    refine ex_go (S := (22, [(4, .inl 0), (0, gx_r 15), (1, gx_r 191), (2, .inl 1), (3, .inl v)], [.inl 1, gx_r 19], t0, n, 0)) rfl (fun _ => rfl) rfl ?_
    have k22 : ai_hv t0 19 1 = some (.inl (σ 12)) := x11_1
    refine gx_ag (v := .inl (σ 12)) (cb := fun c => Nat.beq c 2 || Nat.beq c 1) rfl (fun _ => rfl) g0 rfl rfl k22 (by first | decide | omega) rfl ?_
    by_cases hc23 : σ 12 = 0
    · refine gx_1t (c := .eq) rfl (by first | decide | omega) hc23 rfl ?_
      refine ex_go (S := (60, [(4, .inl 0), (0, gx_r 15), (1, gx_r 191), (2, .inl 1), (3, .inl v)], [.inl 4294967295], t0, n, 0)) rfl (fun _ => rfl) rfl ?_
      refine ex_ret (r := (some (.inl 4294967295), t0, n, 0)) rfl (fun _ => rfl) ?_
      exact ⟨_, rfl, _, t0, rfl, g0, (fun _ _ _ => rfl), (fun z => by rw [hml] at z; omega), fun _ => ⟨rfl, rfl⟩⟩
    · refine gx_1f (c := .eq) rfl (by first | decide | omega) hc23 rfl ?_
      refine ex_go (S := (27, [(4, .inl 0), (0, gx_r 15), (1, gx_r 191), (2, .inl 1), (3, .inl v)], [gx_r 15], t0, n, 0)) rfl (fun _ => rfl) rfl ?_
      refine gxo_ref (a := 15) (c := 17) rfl g0 rfl rfl rfl rfl rfl ?_
      refine ex_go (S := (31, [(4, .inl 0), (0, gx_r 15), (1, gx_r 191), (2, .inl 1), (3, .inl v)], [.inl 1, gx_r 17], t0, n, 0)) rfl (fun _ => rfl) rfl ?_
      have k24 : ai_hv t0 17 1 = some (.inl (σ 8)) := x7_1
      refine gx_ag (v := .inl (σ 8)) (cb := fun c => Nat.beq c 0) rfl (fun _ => rfl) g0 rfl rfl k24 (by first | decide | omega) rfl ?_
      by_cases hc25 : σ 8 = 0
      · refine gx_1t (c := .eq) rfl (by first | decide | omega) hc25 rfl ?_
        refine ex_go (S := (60, [(4, .inl 0), (0, gx_r 15), (1, gx_r 191), (2, .inl 1), (3, .inl v)], [.inl 4294967295], t0, n, 0)) rfl (fun _ => rfl) rfl ?_
        refine ex_ret (r := (some (.inl 4294967295), t0, n, 0)) rfl (fun _ => rfl) ?_
        exact ⟨_, rfl, _, t0, rfl, g0, (fun _ _ _ => rfl), (fun z => by rw [hml] at z; omega), fun _ => ⟨rfl, rfl⟩⟩
      · refine gx_1f (c := .eq) rfl (by first | decide | omega) hc25 rfl ?_
        refine ex_go (S := (36, [(4, .inl 0), (0, gx_r 15), (1, gx_r 191), (2, .inl 1), (3, .inl v)], [gx_r 15], t0, n, 0)) rfl (fun _ => rfl) rfl ?_
        refine gxo_ref (a := 15) (c := 21) rfl g0 rfl rfl rfl rfl rfl ?_
        refine ex_go (S := (40, [(4, .inl 0), (0, gx_r 15), (1, gx_r 191), (2, .inl 1), (3, .inl v)], [.inl 1, gx_r 21], t0, n, 0)) rfl (fun _ => rfl) rfl ?_
        have k26 : ai_hv t0 21 1 = some (.inl (σ 14)) := x13_1 (by first | decide | omega)
        refine gx_ag (v := .inl (σ 14)) (cb := fun c => Nat.beq c 0) rfl (fun _ => rfl) g0 rfl rfl k26 (by first | decide | omega) rfl ?_
        refine ex_go (S := (42, [(4, .inl 0), (0, gx_r 15), (1, gx_r 191), (2, .inl 1), (3, .inl v)], [gx_r 15, .inl (σ 14)], t0, n, 0)) rfl (fun _ => rfl) rfl ?_
        refine gxo_ref (a := 15) (c := 16) rfl g0 rfl rfl rfl rfl rfl ?_
        refine ex_go (S := (46, [(4, .inl 0), (0, gx_r 15), (1, gx_r 191), (2, .inl 1), (3, .inl v)], [gx_r 191, gx_r 16, .inl (σ 14)], t0, n, 0)) rfl (fun _ => rfl) rfl ?_
        refine gxo_ref (a := 191) (c := 206) rfl g0 rfl rfl rfl rfl rfl ?_
        refine gxo_ref (a := 206) (c := 208) rfl g0 rfl rfl rfl rfl rfl ?_
        refine ex_go (S := (54, [(4, .inl 0), (0, gx_r 15), (1, gx_r 191), (2, .inl 1), (3, .inl v)], [.inl 0, gx_r 208, gx_r 16, .inl (σ 14)], t0, n, 0)) rfl (fun _ => rfl) rfl ?_
        have k27 : ai_hv t0 208 0 = some (.inl (w 3 0)) := w3_0
        refine gx_ag (v := .inl (w 3 0)) (cb := fun c => Nat.beq c 0) rfl (fun _ => rfl) g0 rfl rfl k27 (by first | decide | omega) rfl ?_
        have k28 : ai_hv t0 16 (w 3 0) = some (.inl (σ (1 + w 3 0))) := hS.2.1 _ (by first | decide | omega)
        refine gx_ag (v := .inl (σ (1 + w 3 0))) (cb := fun c => Nat.beq c 0) rfl (fun _ => rfl) g0 rfl rfl k28 (by first | decide | omega) rfl ?_
        by_cases hc29 : σ 14 = σ (1 + w 3 0)
        · refine gx_2t (c := .eq) rfl (by first | decide | omega) (by first | decide | omega) hc29 rfl ?_
          refine ex_go (S := (62, [(4, .inl 0), (0, gx_r 15), (1, gx_r 191), (2, .inl 1), (3, .inl v)], [.inl v], t0, n, 0)) rfl (fun _ => rfl) rfl ?_
          refine ex_go (S := (63, [(4, .inl 0), (0, gx_r 15), (1, gx_r 191), (2, .inl 1), (3, .inl v)], [gx_r 15, .inl v], t0, n, 0)) rfl (fun _ => rfl) rfl ?_
          refine gxo_ref (a := 15) (c := 17) rfl g0 rfl rfl rfl rfl rfl ?_
          refine ex_go (S := (67, [(4, .inl 0), (0, gx_r 15), (1, gx_r 191), (2, .inl 1), (3, .inl v)], [.inl 1, gx_r 17, .inl v], t0, n, 0)) rfl (fun _ => rfl) rfl ?_
          refine gx_ag (v := .inl (σ 8)) (cb := fun c => Nat.beq c 0) rfl (fun _ => rfl) g0 rfl rfl k24 (by first | decide | omega) rfl ?_
          refine gx_inn rfl rfl rfl (zk_min (by first | decide | omega) (by first | decide | omega)) rfl rfl ?_
          refine ex_go (S := (73, [(5, .inl (min v (σ 8))), (4, .inl 0), (0, gx_r 15), (1, gx_r 191), (2, .inl 1), (3, .inl v)], [], t0, n, 0)) rfl (fun _ => rfl) rfl ?_
          refine ex_go (S := (74, [(5, .inl (min v (σ 8))), (4, .inl 0), (0, gx_r 15), (1, gx_r 191), (2, .inl 1), (3, .inl v)], [gx_r 15], t0, n, 0)) rfl (fun _ => rfl) rfl ?_
          refine gxo_ref (a := 15) (c := 17) rfl g0 rfl rfl rfl rfl rfl ?_
          refine ex_go (S := (78, [(5, .inl (min v (σ 8))), (4, .inl 0), (0, gx_r 15), (1, gx_r 191), (2, .inl 1), (3, .inl v)], [.inl 1, gx_r 17], t0, n, 0)) rfl (fun _ => rfl) rfl ?_
          refine ex_go (S := (79, [(5, .inl (min v (σ 8))), (4, .inl 0), (0, gx_r 15), (1, gx_r 191), (2, .inl 1), (3, .inl v)], [.inl 1, gx_r 17, .inl 1, gx_r 17], t0, n, 0)) rfl (fun _ => rfl) rfl ?_
          refine gx_ag (v := .inl (σ 8)) (cb := fun c => Nat.beq c 0) rfl (fun _ => rfl) g0 rfl rfl k24 (by first | decide | omega) rfl ?_
          refine ex_go (S := (82, [(5, .inl (min v (σ 8))), (4, .inl 0), (0, gx_r 15), (1, gx_r 191), (2, .inl 1), (3, .inl v)], [.inl (min v (σ 8)), .inl (σ 8), .inl 1, gx_r 17], t0, n, 0)) rfl (fun _ => rfl) rfl ?_
          refine gx_isub rfl (by first | decide | omega) (by first | decide | omega) rfl ?_
          refine gx_ap rfl (fun _ => rfl) g0 rfl rfl rfl (show 1 < 2 from by omega) rfl (gx_full (by first | decide | omega)) rfl (fun t130 g130 k130 e130 => ?_)
          have k31 : ai_hv t130 19 1 = some (.inl (σ 12)) := (e130 19 1 (by first | decide | omega)).trans k22
          have k32 : ai_hv t130 21 1 = some (.inl (σ 14)) := (e130 21 1 (by first | decide | omega)).trans k26
          have k33 : ai_hv t130 208 0 = some (.inl (w 3 0)) := (e130 208 0 (by first | decide | omega)).trans k27
          have k34 : ai_hv t130 16 (w 3 0) = some (.inl (σ (1 + w 3 0))) := (e130 16 (w 3 0) (by first | decide | omega)).trans k28
          refine ex_go (S := (85, [(5, .inl (min v (σ 8))), (4, .inl 0), (0, gx_r 15), (1, gx_r 191), (2, .inl 1), (3, .inl v)], [gx_r 15], t130, n, 0)) rfl (fun _ => rfl) rfl ?_
          refine gxo_ref (a := 15) (c := 17) rfl g130 rfl rfl rfl rfl rfl ?_
          refine ex_go (S := (90, [(5, .inl (min v (σ 8))), (4, .inl 0), (0, gx_r 15), (1, gx_r 191), (2, .inl 1), (3, .inl v)], [.inl 0, gx_r 17], t130, n, 0)) rfl (fun _ => rfl) rfl ?_
          refine ex_go (S := (91, [(5, .inl (min v (σ 8))), (4, .inl 0), (0, gx_r 15), (1, gx_r 191), (2, .inl 1), (3, .inl v)], [.inl 0, gx_r 17, .inl 0, gx_r 17], t130, n, 0)) rfl (fun _ => rfl) rfl ?_
          have k35 : ai_hv t130 17 0 = some (.inl (σ 7)) := (e130 17 0 (by first | decide | omega)).trans (x7_0)
          refine gx_ag (v := .inl (σ 7)) (cb := fun c => Nat.beq c 0) rfl (fun _ => rfl) g130 rfl rfl k35 (by first | decide | omega) rfl ?_
          refine ex_go (S := (94, [(5, .inl (min v (σ 8))), (4, .inl 0), (0, gx_r 15), (1, gx_r 191), (2, .inl 1), (3, .inl v)], [.inl (min v (σ 8)), .inl (σ 7), .inl 0, gx_r 17], t130, n, 0)) rfl (fun _ => rfl) rfl ?_
          refine ex_iadd rfl (by first | decide | omega) rfl ?_
          refine gx_ap rfl (fun _ => rfl) g130 rfl rfl rfl (show 0 < 2 from by omega) rfl (gx_full (by first | decide | omega)) rfl (fun t136 g136 k136 e136 => ?_)
          have k37 : ai_hv t136 19 1 = some (.inl (σ 12)) := (e136 19 1 (by first | decide | omega)).trans k31
          have k38 : ai_hv t136 21 1 = some (.inl (σ 14)) := (e136 21 1 (by first | decide | omega)).trans k32
          have k39 : ai_hv t136 208 0 = some (.inl (w 3 0)) := (e136 208 0 (by first | decide | omega)).trans k33
          have k40 : ai_hv t136 16 (w 3 0) = some (.inl (σ (1 + w 3 0))) := (e136 16 (w 3 0) (by first | decide | omega)).trans k34
          have k41 : ai_hv t136 17 1 = some (.inl ((σ 8) - (min v (σ 8)))) := (e136 17 1 (by first | decide | omega)).trans k130
          refine ex_go (S := (97, [(5, .inl (min v (σ 8))), (4, .inl 0), (0, gx_r 15), (1, gx_r 191), (2, .inl 1), (3, .inl v)], [gx_r 15], t136, n, 0)) rfl (fun _ => rfl) rfl ?_
          refine gxo_ref (a := 15) (c := 18) rfl g136 rfl rfl rfl rfl rfl ?_
          refine ex_go (S := (101, [(5, .inl (min v (σ 8))), (4, .inl 0), (0, gx_r 15), (1, gx_r 191), (2, .inl 1), (3, .inl v)], [.inl 1, gx_r 18], t136, n, 0)) rfl (fun _ => rfl) rfl ?_
          refine ex_go (S := (102, [(5, .inl (min v (σ 8))), (4, .inl 0), (0, gx_r 15), (1, gx_r 191), (2, .inl 1), (3, .inl v)], [.inl 1, gx_r 18, .inl 1, gx_r 18], t136, n, 0)) rfl (fun _ => rfl) rfl ?_
          have k42 : ai_hv t136 18 1 = some (.inl (σ 10)) := ((e136 18 1 (by first | decide | omega)).trans (e130 18 1 (by first | decide | omega))).trans (x9_1)
          refine gx_ag (v := .inl (σ 10)) (cb := fun c => Nat.beq c 0) rfl (fun _ => rfl) g136 rfl rfl k42 (by first | decide | omega) rfl ?_
          refine ex_go (S := (105, [(5, .inl (min v (σ 8))), (4, .inl 0), (0, gx_r 15), (1, gx_r 191), (2, .inl 1), (3, .inl v)], [.inl (min v (σ 8)), .inl (σ 10), .inl 1, gx_r 18], t136, n, 0)) rfl (fun _ => rfl) rfl ?_
          have hw43 : en_wrap ((σ 10) + (min v (σ 8))) < 4294967296 := wrap_lt
          refine gs_iaddx rfl rfl ?_
          refine gx_ap rfl (fun _ => rfl) g136 rfl rfl rfl (show 1 < 2 from by omega) rfl (gx_full (by first | decide | omega)) rfl (fun t144 g144 k144 e144 => ?_)
          have k45 : ai_hv t144 19 1 = some (.inl (σ 12)) := (e144 19 1 (by first | decide | omega)).trans k37
          have k46 : ai_hv t144 21 1 = some (.inl (σ 14)) := (e144 21 1 (by first | decide | omega)).trans k38
          have k47 : ai_hv t144 208 0 = some (.inl (w 3 0)) := (e144 208 0 (by first | decide | omega)).trans k39
          have k48 : ai_hv t144 16 (w 3 0) = some (.inl (σ (1 + w 3 0))) := (e144 16 (w 3 0) (by first | decide | omega)).trans k40
          have k49 : ai_hv t144 17 1 = some (.inl ((σ 8) - (min v (σ 8)))) := (e144 17 1 (by first | decide | omega)).trans k41
          have k50 : ai_hv t144 17 0 = some (.inl ((σ 7) + (min v (σ 8)))) := (e144 17 0 (by first | decide | omega)).trans k136
          refine ex_go (S := (108, [(5, .inl (min v (σ 8))), (4, .inl 0), (0, gx_r 15), (1, gx_r 191), (2, .inl 1), (3, .inl v)], [gx_r 15], t144, n, 0)) rfl (fun _ => rfl) rfl ?_
          refine gxo_ref (a := 15) (c := 18) rfl g144 rfl rfl rfl rfl rfl ?_
          refine ex_go (S := (113, [(5, .inl (min v (σ 8))), (4, .inl 0), (0, gx_r 15), (1, gx_r 191), (2, .inl 1), (3, .inl v)], [.inl 0, gx_r 18], t144, n, 0)) rfl (fun _ => rfl) rfl ?_
          refine ex_go (S := (114, [(5, .inl (min v (σ 8))), (4, .inl 0), (0, gx_r 15), (1, gx_r 191), (2, .inl 1), (3, .inl v)], [.inl 0, gx_r 18, .inl 0, gx_r 18], t144, n, 0)) rfl (fun _ => rfl) rfl ?_
          have k51 : ai_hv t144 18 0 = some (.inl (σ 9)) := ((e144 18 0 (by first | decide | omega)).trans ((e136 18 0 (by first | decide | omega)).trans (e130 18 0 (by first | decide | omega)))).trans (x9_0)
          refine gx_ag (v := .inl (σ 9)) (cb := fun c => Nat.beq c 0) rfl (fun _ => rfl) g144 rfl rfl k51 (by first | decide | omega) rfl ?_
          refine ex_go (S := (117, [(5, .inl (min v (σ 8))), (4, .inl 0), (0, gx_r 15), (1, gx_r 191), (2, .inl 1), (3, .inl v)], [.inl (min v (σ 8)), .inl (σ 9), .inl 0, gx_r 18], t144, n, 0)) rfl (fun _ => rfl) rfl ?_
          have hw52 : isb (σ 9) (min v (σ 8)) < 4294967296 := isb_lt
          refine gx_isbx rfl rfl ?_
          refine gx_ap rfl (fun _ => rfl) g144 rfl rfl rfl (show 0 < 2 from by omega) rfl (gx_full (by first | decide | omega)) rfl (fun t153 g153 k153 e153 => ?_)
          have k54 : ai_hv t153 19 1 = some (.inl (σ 12)) := (e153 19 1 (by first | decide | omega)).trans k45
          have k55 : ai_hv t153 21 1 = some (.inl (σ 14)) := (e153 21 1 (by first | decide | omega)).trans k46
          have k56 : ai_hv t153 208 0 = some (.inl (w 3 0)) := (e153 208 0 (by first | decide | omega)).trans k47
          have k57 : ai_hv t153 16 (w 3 0) = some (.inl (σ (1 + w 3 0))) := (e153 16 (w 3 0) (by first | decide | omega)).trans k48
          have k58 : ai_hv t153 17 1 = some (.inl ((σ 8) - (min v (σ 8)))) := (e153 17 1 (by first | decide | omega)).trans k49
          have k59 : ai_hv t153 17 0 = some (.inl ((σ 7) + (min v (σ 8)))) := (e153 17 0 (by first | decide | omega)).trans k50
          have k60 : ai_hv t153 18 1 = some (.inl (en_wrap ((σ 10) + (min v (σ 8))))) := (e153 18 1 (by first | decide | omega)).trans k144
          refine ex_go (S := (121, [(5, .inl (min v (σ 8))), (4, .inl 0), (0, gx_r 15), (1, gx_r 191), (2, .inl 1), (3, .inl v)], [.inl (min v (σ 8))], t153, n, 0)) rfl (fun _ => rfl) rfl ?_
          refine ex_ret (r := (some (.inl (min v (σ 8))), t153, n, 0)) rfl (fun _ => rfl) ?_
          have hl9 : lnv σ 1 v = min v (σ 8) := by omega
          refine ⟨_, rfl, _, t153, rfl, g153, (fun c i h => (e153 c i (by first | decide | omega)).trans ((e144 c i (by first | decide | omega)).trans ((e136 c i (by first | decide | omega)).trans (e130 c i (by first | decide | omega))))), (fun _ => ⟨hl9.symm, ?_⟩), fun z => absurd (by rw [hml]; omega) z⟩
          refine ⟨?_, fun i hi => ?_, fun c9 hc9 => ?_⟩
          · rw [sgL_o (by first | decide | omega) (by first | decide | omega) (by first | decide | omega) (by first | decide | omega)]; exact ((e153 15 0 (by first | decide | omega)).trans ((e144 15 0 (by first | decide | omega)).trans ((e136 15 0 (by first | decide | omega)).trans (e130 15 0 (by first | decide | omega))))).trans (hS.1)
          · rw [sgL_o (by first | decide | omega) (by first | decide | omega) (by first | decide | omega) (by first | decide | omega)]; exact ((e153 16 i (by first | decide | omega)).trans ((e144 16 i (by first | decide | omega)).trans ((e136 16 i (by first | decide | omega)).trans (e130 16 i (by first | decide | omega))))).trans (hS.2.1 i hi)
          · rcases (show c9 = 0 ∨ c9 = 1 by omega) with rfl | rfl
            · obtain ⟨y7, y9, y11, y15, y13⟩ := hS.2.2 0 hc9
              refine ⟨?_, ?_, ?_, ?_, ?_⟩
              · rw [show 7 + 0 = 8 - 1 from rfl, sgL_8 (by first | decide | omega), hl9]; exact k59
              · rw [show 9 + 0 = 10 - 1 from rfl, sgL_10 (by first | decide | omega), hl9]; exact k153
              · rw [sgL_o (by first | decide | omega) (by first | decide | omega) (by first | decide | omega) (by first | decide | omega)]; exact ((e153 19 0 (by first | decide | omega)).trans ((e144 19 0 (by first | decide | omega)).trans ((e136 19 0 (by first | decide | omega)).trans (e130 19 0 (by first | decide | omega))))).trans (y11)
              · rw [sgL_o (by first | decide | omega) (by first | decide | omega) (by first | decide | omega) (by first | decide | omega)]; exact ((e153 20 0 (by first | decide | omega)).trans ((e144 20 0 (by first | decide | omega)).trans ((e136 20 0 (by first | decide | omega)).trans (e130 20 0 (by first | decide | omega))))).trans (y15)
              · intro z
                rw [sgL_o (by first | decide | omega) (by first | decide | omega) (by first | decide | omega) (by first | decide | omega)] at z
                rw [sgL_o (by first | decide | omega) (by first | decide | omega) (by first | decide | omega) (by first | decide | omega)]; exact ((e153 21 0 (by first | decide | omega)).trans ((e144 21 0 (by first | decide | omega)).trans ((e136 21 0 (by first | decide | omega)).trans (e130 21 0 (by first | decide | omega))))).trans (y13 z)
            · obtain ⟨y7, y9, y11, y15, y13⟩ := hS.2.2 1 hc9
              refine ⟨?_, ?_, ?_, ?_, ?_⟩
              · rw [sgL_7, hl9]; exact k58
              · rw [sgL_9 (by first | decide | omega), hl9]; exact k60
              · rw [sgL_o (by first | decide | omega) (by first | decide | omega) (by first | decide | omega) (by first | decide | omega)]; exact ((e153 19 1 (by first | decide | omega)).trans ((e144 19 1 (by first | decide | omega)).trans ((e136 19 1 (by first | decide | omega)).trans (e130 19 1 (by first | decide | omega))))).trans (y11)
              · rw [sgL_o (by first | decide | omega) (by first | decide | omega) (by first | decide | omega) (by first | decide | omega)]; exact ((e153 20 1 (by first | decide | omega)).trans ((e144 20 1 (by first | decide | omega)).trans ((e136 20 1 (by first | decide | omega)).trans (e130 20 1 (by first | decide | omega))))).trans (y15)
              · intro z
                rw [sgL_o (by first | decide | omega) (by first | decide | omega) (by first | decide | omega) (by first | decide | omega)] at z
                rw [sgL_o (by first | decide | omega) (by first | decide | omega) (by first | decide | omega) (by first | decide | omega)]; exact ((e153 21 1 (by first | decide | omega)).trans ((e144 21 1 (by first | decide | omega)).trans ((e136 21 1 (by first | decide | omega)).trans (e130 21 1 (by first | decide | omega))))).trans (y13 z)
        · refine gx_2f (c := .eq) rfl (by first | decide | omega) (by first | decide | omega) hc29 rfl ?_
          refine ex_go (S := (60, [(4, .inl 0), (0, gx_r 15), (1, gx_r 191), (2, .inl 1), (3, .inl v)], [.inl 4294967295], t0, n, 0)) rfl (fun _ => rfl) rfl ?_
          refine ex_ret (r := (some (.inl 4294967295), t0, n, 0)) rfl (fun _ => rfl) ?_
          exact ⟨_, rfl, _, t0, rfl, g0, (fun _ _ _ => rfl), (fun z => by rw [hml] at z; omega), fun _ => ⟨rfl, rfl⟩⟩
  · have hS9 := hS
    have hb9 := hb
    obtain ⟨hb1, ⟨hb7, hb8⟩, ⟨hb11, hb12⟩, ⟨hb13, hb14⟩, ⟨hb15, hb16⟩, hb0, hbo9, hb10⟩ := hb9
    have hT := hw.1.2.2.1
    have hK := hw.1.2.2.2.2.1
    obtain ⟨x7_1, x9_1, x11_1, x15_1, x13_1⟩ := hS9.2.2 1 (by first | decide | omega)
    have x13_1 : σ 12 = 1 → ai_hv t0 21 1 = some (.inl (σ 14)) := x13_1
    have w3_1 := (hC.2.2.1 1 (by first | decide | omega)).1
    have hs1 := (hw.2.1 1 (by first | decide | omega)).1
    have hp1 := hb1 (w 3 1) (by first | decide | omega)
    refine en_u_ex (d := d + 1) rfl ?_
    show en_ex _ _ _ _ (0, [(0, gx_r 15), (1, gx_r 191), (2, .inl 1), (3, .inl v)], [], t0, n, 0) _
    refine ex_go (S := (1, [(0, gx_r 15), (1, gx_r 191), (2, .inl 1), (3, .inl v)], [.inl 1], t0, n, 0)) rfl (fun _ => rfl) rfl ?_
    refine ex_go (S := (2, [(0, gx_r 15), (1, gx_r 191), (2, .inl 1), (3, .inl v)], [.inl 1, .inl 1], t0, n, 0)) rfl (fun _ => rfl) rfl ?_
    refine ex_go (S := (3, [(0, gx_r 15), (1, gx_r 191), (2, .inl 1), (3, .inl v)], [.inl 0], t0, n, 0)) rfl (fun _ => rfl) rfl ?_
    refine ex_go (S := (5, [(4, .inl 0), (0, gx_r 15), (1, gx_r 191), (2, .inl 1), (3, .inl v)], [], t0, n, 0)) rfl (fun _ => rfl) rfl ?_
    refine ex_go (S := (6, [(4, .inl 0), (0, gx_r 15), (1, gx_r 191), (2, .inl 1), (3, .inl v)], [gx_r 191], t0, n, 0)) rfl (fun _ => rfl) rfl ?_
    refine gxo_ref (a := 191) (c := 206) rfl g0 rfl rfl rfl rfl rfl ?_
    refine ex_go (S := (11, [(4, .inl 0), (0, gx_r 15), (1, gx_r 191), (2, .inl 1), (3, .inl v)], [.inl 0, gx_r 206], t0, n, 0)) rfl (fun _ => rfl) rfl ?_
    obtain ⟨_, r121, b121, rfl, hb121, hi121⟩ := pz_holds206 d n (x := 0) (K := w 0 4) g0 (by decide) hC.1.2.2.2.2.2 (by first | decide | omega)
    refine gx_callo (a := 206) rfl rfl g0 rfl rfl rfl r121 rfl ?_
    show en_ex _ _ _ _ (14, [(4, .inl 0), (0, gx_r 15), (1, gx_r 191), (2, .inl 1), (3, .inl v)], [.inl b121], t0, n, 0) _
    refine gx_1t (c := .eq) rfl (by first | decide | omega) (show b121 = 0 from by omega) rfl ?_
    refine ex_go (S := (60, [(4, .inl 0), (0, gx_r 15), (1, gx_r 191), (2, .inl 1), (3, .inl v)], [.inl 4294967295], t0, n, 0)) rfl (fun _ => rfl) rfl ?_
    refine ex_ret (r := (some (.inl 4294967295), t0, n, 0)) rfl (fun _ => rfl) ?_
    exact ⟨_, rfl, _, t0, rfl, g0, (fun _ _ _ => rfl), (fun z => by rw [hml] at z; omega), fun _ => ⟨rfl, rfl⟩⟩
theorem sc_bi15_191_1 (d n : Nat) {t0 : en_H} {w : Nat → Nat → Nat} {L : List Nat} {σ : Nat → Nat} (g0 : ai_HG ah_G t0) (hC : CW t0 191 w L) (hw : WS w) (hb : sbd σ) (hS : SC t0 15 (w 0 2) (w 0 4) σ) (hc : 1 < w 0 4) : ∃ r, en_u (d + 1) 202 [gx_r 15, gx_r 191, .inl 1] t0 n = some r ∧ ∃ y t', r = (some (.inl y), t', n, 0) ∧ ai_HG ah_G t' ∧ (∀ c i, ¬ c = 19 → ai_hv t' c i = ai_hv t0 c i) ∧ y ≤ 1 ∧ (y = 1 → mayM w σ 1 ∧ SC t' 15 (w 0 2) (w 0 4) (sgM' σ 1)) ∧ (y = 0 → ¬ mayM w σ 1 ∧ t' = t0) := by
  have hml : mayM w σ 1 ↔ (σ 12 = 1 ∧ σ 14 = σ (1 + w 3 1)) := Iff.rfl
  have hS9 := hS
  have hb9 := hb
  obtain ⟨hb1, ⟨hb7, hb8⟩, ⟨hb11, hb12⟩, ⟨hb13, hb14⟩, ⟨hb15, hb16⟩, hb0, hbo9, hb10⟩ := hb9
  have hT := hw.1.2.2.1
  have hK := hw.1.2.2.2.2.1
  obtain ⟨x7_1, x9_1, x11_1, x15_1, x13_1⟩ := hS9.2.2 1 (by first | decide | omega)
  have x13_1 : σ 12 = 1 → ai_hv t0 21 1 = some (.inl (σ 14)) := x13_1
  have w3_1 := (hC.2.2.1 1 (by first | decide | omega)).1
  have hs1 := (hw.2.1 1 (by first | decide | omega)).1
  have hp1 := hb1 (w 3 1) (by first | decide | omega)
  refine en_u_ex rfl ?_
  show en_ex _ _ _ _ (0, [(0, gx_r 15), (1, gx_r 191), (2, .inl 1)], [], t0, n, 0) _
  refine ex_go (S := (1, [(0, gx_r 15), (1, gx_r 191), (2, .inl 1)], [gx_r 15], t0, n, 0)) rfl (fun _ => rfl) rfl ?_
  refine gxo_ref (a := 15) (c := 19) rfl g0 rfl rfl rfl rfl rfl ?_
  refine ex_go (S := (5, [(0, gx_r 15), (1, gx_r 191), (2, .inl 1)], [.inl 1, gx_r 19], t0, n, 0)) rfl (fun _ => rfl) rfl ?_
  have k21 : ai_hv t0 19 1 = some (.inl (σ 12)) := x11_1
  refine gx_ag (v := .inl (σ 12)) (cb := fun c => Nat.beq c 2 || Nat.beq c 1) rfl (fun _ => rfl) g0 rfl rfl k21 (by first | decide | omega) rfl ?_
  by_cases hc22 : σ 12 = 0
  · refine gx_1t (c := .eq) rfl (by first | decide | omega) hc22 rfl ?_
    refine ex_go (S := (33, [(0, gx_r 15), (1, gx_r 191), (2, .inl 1)], [.inl 0], t0, n, 0)) rfl (fun _ => rfl) rfl ?_
    refine ex_ret (r := (some (.inl 0), t0, n, 0)) rfl (fun _ => rfl) ?_
    exact ⟨_, rfl, 0, t0, rfl, g0, (fun _ _ _ => rfl), by decide, (fun z => absurd z (by decide)), fun _ => ⟨fun z => by rw [hml] at z; omega, rfl⟩⟩
  · refine gx_1f (c := .eq) rfl (by first | decide | omega) hc22 rfl ?_
    refine ex_go (S := (10, [(0, gx_r 15), (1, gx_r 191), (2, .inl 1)], [gx_r 15], t0, n, 0)) rfl (fun _ => rfl) rfl ?_
    refine gxo_ref (a := 15) (c := 21) rfl g0 rfl rfl rfl rfl rfl ?_
    refine ex_go (S := (14, [(0, gx_r 15), (1, gx_r 191), (2, .inl 1)], [.inl 1, gx_r 21], t0, n, 0)) rfl (fun _ => rfl) rfl ?_
    have k23 : ai_hv t0 21 1 = some (.inl (σ 14)) := x13_1 (by first | decide | omega)
    refine gx_ag (v := .inl (σ 14)) (cb := fun c => Nat.beq c 0) rfl (fun _ => rfl) g0 rfl rfl k23 (by first | decide | omega) rfl ?_
    refine ex_go (S := (16, [(0, gx_r 15), (1, gx_r 191), (2, .inl 1)], [gx_r 15, .inl (σ 14)], t0, n, 0)) rfl (fun _ => rfl) rfl ?_
    refine gxo_ref (a := 15) (c := 16) rfl g0 rfl rfl rfl rfl rfl ?_
    refine ex_go (S := (20, [(0, gx_r 15), (1, gx_r 191), (2, .inl 1)], [gx_r 191, gx_r 16, .inl (σ 14)], t0, n, 0)) rfl (fun _ => rfl) rfl ?_
    refine gxo_ref (a := 191) (c := 206) rfl g0 rfl rfl rfl rfl rfl ?_
    refine gxo_ref (a := 206) (c := 208) rfl g0 rfl rfl rfl rfl rfl ?_
    refine ex_go (S := (27, [(0, gx_r 15), (1, gx_r 191), (2, .inl 1)], [.inl 1, gx_r 208, gx_r 16, .inl (σ 14)], t0, n, 0)) rfl (fun _ => rfl) rfl ?_
    have k24 : ai_hv t0 208 1 = some (.inl (w 3 1)) := w3_1
    refine gx_ag (v := .inl (w 3 1)) (cb := fun c => Nat.beq c 0) rfl (fun _ => rfl) g0 rfl rfl k24 (by first | decide | omega) rfl ?_
    have k25 : ai_hv t0 16 (w 3 1) = some (.inl (σ (1 + w 3 1))) := hS.2.1 _ (by first | decide | omega)
    refine gx_ag (v := .inl (σ (1 + w 3 1))) (cb := fun c => Nat.beq c 0) rfl (fun _ => rfl) g0 rfl rfl k25 (by first | decide | omega) rfl ?_
    by_cases hc26 : σ 14 = σ (1 + w 3 1)
    · refine gx_2t (c := .eq) rfl (by first | decide | omega) (by first | decide | omega) hc26 rfl ?_
      refine ex_go (S := (35, [(0, gx_r 15), (1, gx_r 191), (2, .inl 1)], [gx_r 15], t0, n, 0)) rfl (fun _ => rfl) rfl ?_
      refine gxo_ref (a := 15) (c := 19) rfl g0 rfl rfl rfl rfl rfl ?_
      refine ex_go (S := (39, [(0, gx_r 15), (1, gx_r 191), (2, .inl 1)], [.inl 1, gx_r 19], t0, n, 0)) rfl (fun _ => rfl) rfl ?_
      refine ex_go (S := (40, [(0, gx_r 15), (1, gx_r 191), (2, .inl 1)], [.inl 0, .inl 1, gx_r 19], t0, n, 0)) rfl (fun _ => rfl) rfl ?_
      refine gx_apv (d := 2) rfl (fun _ => rfl) g0 rfl rfl rfl (show 1 < 2 from by omega) rfl (ai_in_h (by first | decide | omega) (by first | decide | omega) (by first | decide | omega)) rfl (fun t127 g127 k127 e127 => ?_)
      have k28 : ai_hv t127 21 1 = some (.inl (σ 14)) := (e127 21 1 (by first | decide | omega)).trans k23
      have k29 : ai_hv t127 208 1 = some (.inl (w 3 1)) := (e127 208 1 (by first | decide | omega)).trans k24
      have k30 : ai_hv t127 16 (w 3 1) = some (.inl (σ (1 + w 3 1))) := (e127 16 (w 3 1) (by first | decide | omega)).trans k25
      refine ex_go (S := (42, [(0, gx_r 15), (1, gx_r 191), (2, .inl 1)], [.inl 1], t127, n, 0)) rfl (fun _ => rfl) rfl ?_
      refine ex_ret (r := (some (.inl 1), t127, n, 0)) rfl (fun _ => rfl) ?_
      refine ⟨_, rfl, 1, t127, rfl, g127, (fun c i h => e127 c i (by first | decide | omega)), by decide, (fun _ => ⟨by rw [hml]; omega, ?_⟩), fun z => absurd z (by decide)⟩
      refine ⟨?_, fun i hi => ?_, fun c9 hc9 => ?_⟩
      · rw [sgM_o (by first | decide | omega)]; exact (e127 15 0 (by first | decide | omega)).trans (hS.1)
      · rw [sgM_o (by first | decide | omega)]; exact (e127 16 i (by first | decide | omega)).trans (hS.2.1 i hi)
      · rcases (show c9 = 0 ∨ c9 = 1 by omega) with rfl | rfl
        · obtain ⟨y7, y9, y11, y15, y13⟩ := hS.2.2 0 hc9
          refine ⟨?_, ?_, ?_, ?_, ?_⟩
          · rw [sgM_o (by first | decide | omega)]; exact (e127 17 0 (by first | decide | omega)).trans (y7)
          · rw [sgM_o (by first | decide | omega)]; exact (e127 18 0 (by first | decide | omega)).trans (y9)
          · rw [sgM_o (by first | decide | omega)]; exact (e127 19 0 (by first | decide | omega)).trans (y11)
          · rw [sgM_o (by first | decide | omega)]; exact (e127 20 0 (by first | decide | omega)).trans (y15)
          · intro z
            rw [sgM_o (by first | decide | omega)] at z
            rw [sgM_o (by first | decide | omega)]; exact (e127 21 0 (by first | decide | omega)).trans (y13 z)
        · obtain ⟨y7, y9, y11, y15, y13⟩ := hS.2.2 1 hc9
          refine ⟨?_, ?_, ?_, ?_, ?_⟩
          · rw [sgM_o (by first | decide | omega)]; exact (e127 17 1 (by first | decide | omega)).trans (y7)
          · rw [sgM_o (by first | decide | omega)]; exact (e127 18 1 (by first | decide | omega)).trans (y9)
          · rw [sgM_11]; exact k127
          · rw [sgM_o (by first | decide | omega)]; exact (e127 20 1 (by first | decide | omega)).trans (y15)
          · intro z; rw [sgM_11] at z; exact absurd z (by decide)
    · refine gx_2f (c := .eq) rfl (by first | decide | omega) (by first | decide | omega) hc26 rfl ?_
      refine ex_go (S := (33, [(0, gx_r 15), (1, gx_r 191), (2, .inl 1)], [.inl 0], t0, n, 0)) rfl (fun _ => rfl) rfl ?_
      refine ex_ret (r := (some (.inl 0), t0, n, 0)) rfl (fun _ => rfl) ?_
      exact ⟨_, rfl, 0, t0, rfl, g0, (fun _ _ _ => rfl), by decide, (fun z => absurd z (by decide)), fun _ => ⟨fun z => by rw [hml] at z; omega, rfl⟩⟩
theorem sc_hs15_191 (d n : Nat) {t0 : en_H} {w : Nat → Nat → Nat} {L : List Nat} {σ : Nat → Nat} {c : Nat} {to : Nat} (g0 : ai_HG ah_G t0) (hC : CW t0 191 w L) (hw : WS w) (hb : sbd σ) (hS : SC t0 15 (w 0 2) (w 0 4) σ) (hX : CX t0 191 w) (hB : σ 0 ≤ 900000) (hc : c < w 0 4) (ht : to < 64) : ∃ r, en_u (d + 4) 200 [gx_r 15, gx_r 191, .inl c, .inl to] t0 n = some r ∧ ∃ v t', r = (some (.inl v), t', n, 0) ∧ ai_HG ah_G t' ∧ (∀ c i, ¬ (c = 19 ∨ c = 20 ∨ c = 21) → ai_hv t' c i = ai_hv t0 c i) ∧ v ≤ 1 ∧ (v = 1 → mayH w σ c to ∧ SC t' 15 (w 0 2) (w 0 4) (sgH σ c to)) ∧ (v = 0 → ¬ mayH w σ c to ∧ t' = t0) := by
  have hK := hw.1.2.2.2.2.1
  rcases (show c = 0 ∨ c = 1 by omega) with rfl | rfl
  · exact sc_hs15_191_0 d n g0 hC hw hb hS hX hB hc ht
  · exact sc_hs15_191_1 d n g0 hC hw hb hS hX hB hc ht
theorem sc_lb15_191 (d n : Nat) {t0 : en_H} {w : Nat → Nat → Nat} {L : List Nat} {σ : Nat → Nat} {c : Nat} {v : Nat} (g0 : ai_HG ah_G t0) (hC : CW t0 191 w L) (hw : WS w) (hb : sbd σ) (hS : SC t0 15 (w 0 2) (w 0 4) σ) (hsum : σ 7 + σ 8 ≤ 19998) (hc : c < w 0 4) (hv : v ≤ 999) : ∃ r, en_u (d + 2) 201 [gx_r 15, gx_r 191, .inl c, .inl v] t0 n = some r ∧ ∃ y t', r = (some (.inl y), t', n, 0) ∧ ai_HG ah_G t' ∧ (∀ c i, ¬ (c = 17 ∨ c = 18) → ai_hv t' c i = ai_hv t0 c i) ∧ (mayL w σ c → y = lnv σ c v ∧ SC t' 15 (w 0 2) (w 0 4) (sgL σ c v)) ∧ (¬ mayL w σ c → y = 4294967295 ∧ t' = t0) := by
  have hK := hw.1.2.2.2.2.1
  rcases (show c = 0 ∨ c = 1 by omega) with rfl | rfl
  · exact sc_lb15_191_0 d n g0 hC hw hb hS hsum hc hv
  · exact sc_lb15_191_1 d n g0 hC hw hb hS hsum hc hv
theorem sc_bi15_191 (d n : Nat) {t0 : en_H} {w : Nat → Nat → Nat} {L : List Nat} {σ : Nat → Nat} {c : Nat} (g0 : ai_HG ah_G t0) (hC : CW t0 191 w L) (hw : WS w) (hb : sbd σ) (hS : SC t0 15 (w 0 2) (w 0 4) σ) (hc : c < w 0 4) : ∃ r, en_u (d + 1) 202 [gx_r 15, gx_r 191, .inl c] t0 n = some r ∧ ∃ y t', r = (some (.inl y), t', n, 0) ∧ ai_HG ah_G t' ∧ (∀ c i, ¬ c = 19 → ai_hv t' c i = ai_hv t0 c i) ∧ y ≤ 1 ∧ (y = 1 → mayM w σ c ∧ SC t' 15 (w 0 2) (w 0 4) (sgM' σ c)) ∧ (y = 0 → ¬ mayM w σ c ∧ t' = t0) := by
  have hK := hw.1.2.2.2.2.1
  rcases (show c = 0 ∨ c = 1 by omega) with rfl | rfl
  · exact sc_bi15_191_0 d n g0 hC hw hb hS hc
  · exact sc_bi15_191_1 d n g0 hC hw hb hS hc
theorem sc_sled15_257_0 (d n : Nat) {t0 : en_H} {w : Nat → Nat → Nat} {L : List Nat} {σ : Nat → Nat} (g0 : ai_HG ah_G t0) (hC : CW t0 257 w L) (hw : WS w) (hb : sbd σ) (hS : SC t0 15 (w 0 2) (w 0 4) σ) (hc : 0 < w 0 4) : ∃ r, en_u (d + 1) 172 [gx_r 15, gx_r 257, .inl 0] t0 n = some r ∧ r = (some (.inl (slp w σ 0)), t0, n, 0) := by
  have hS9 := hS
  have hb9 := hb
  obtain ⟨hb1, ⟨hb7, hb8⟩, ⟨hb11, hb12⟩, ⟨hb13, hb14⟩, ⟨hb15, hb16⟩, hb0, hbo9, hb10⟩ := hb9
  have hT := hw.1.2.2.1
  have hK := hw.1.2.2.2.2.1
  obtain ⟨x7_0, x9_0, x11_0, x15_0, x13_0⟩ := hS9.2.2 0 (by first | decide | omega)
  have x13_0 : σ 11 = 1 → ai_hv t0 21 0 = some (.inl (σ 13)) := x13_0
  have w3_0 := (hC.2.2.1 0 (by first | decide | omega)).1
  have hs0 := (hw.2.1 0 (by first | decide | omega)).1
  have hp0 := hb1 (w 3 0) (by first | decide | omega)
  have hsl : slp w σ 0 = if σ 11 = 1 then σ 13 else σ (1 + w 3 0) := rfl
  refine en_u_ex rfl ?_
  show en_ex _ _ _ _ (0, [(0, gx_r 15), (1, gx_r 257), (2, .inl 0)], [], t0, n, 0) _
  refine ex_go (S := (1, [(0, gx_r 15), (1, gx_r 257), (2, .inl 0)], [gx_r 15], t0, n, 0)) rfl (fun _ => rfl) rfl ?_
  refine gxo_ref (a := 15) (c := 19) rfl g0 rfl rfl rfl rfl rfl ?_
  refine ex_go (S := (5, [(0, gx_r 15), (1, gx_r 257), (2, .inl 0)], [.inl 0, gx_r 19], t0, n, 0)) rfl (fun _ => rfl) rfl ?_
  have k21 : ai_hv t0 19 0 = some (.inl (σ 11)) := x11_0
  refine gx_ag (v := .inl (σ 11)) (cb := fun c => Nat.beq c 2 || Nat.beq c 1) rfl (fun _ => rfl) g0 rfl rfl k21 (by first | decide | omega) rfl ?_
  by_cases hc22 : σ 11 = 0
  · refine gx_1t (c := .eq) rfl (by first | decide | omega) hc22 rfl ?_
    refine ex_go (S := (19, [(0, gx_r 15), (1, gx_r 257), (2, .inl 0)], [gx_r 15], t0, n, 0)) rfl (fun _ => rfl) rfl ?_
    refine gxo_ref (a := 15) (c := 16) rfl g0 rfl rfl rfl rfl rfl ?_
    refine ex_go (S := (23, [(0, gx_r 15), (1, gx_r 257), (2, .inl 0)], [gx_r 257, gx_r 16], t0, n, 0)) rfl (fun _ => rfl) rfl ?_
    refine gxo_ref (a := 257) (c := 272) rfl g0 rfl rfl rfl rfl rfl ?_
    refine gxo_ref (a := 272) (c := 274) rfl g0 rfl rfl rfl rfl rfl ?_
    refine ex_go (S := (30, [(0, gx_r 15), (1, gx_r 257), (2, .inl 0)], [.inl 0, gx_r 274, gx_r 16], t0, n, 0)) rfl (fun _ => rfl) rfl ?_
    have k23 : ai_hv t0 274 0 = some (.inl (w 3 0)) := w3_0
    refine gx_ag (v := .inl (w 3 0)) (cb := fun c => Nat.beq c 0) rfl (fun _ => rfl) g0 rfl rfl k23 (by first | decide | omega) rfl ?_
    have k24 : ai_hv t0 16 (w 3 0) = some (.inl (σ (1 + w 3 0))) := hS.2.1 _ (by first | decide | omega)
    refine gx_ag (v := .inl (σ (1 + w 3 0))) (cb := fun c => Nat.beq c 0) rfl (fun _ => rfl) g0 rfl rfl k24 (by first | decide | omega) rfl ?_
    refine ex_ret (r := (some (.inl (σ (1 + w 3 0))), t0, n, 0)) rfl (fun _ => rfl) ?_
    have e9 : slp w σ 0 = σ (1 + w 3 0) := by rw [hsl, if_neg (by first | decide | omega)]
    exact ⟨_, rfl, by rw [e9]⟩
  · refine gx_1f (c := .eq) rfl (by first | decide | omega) hc22 rfl ?_
    refine ex_go (S := (10, [(0, gx_r 15), (1, gx_r 257), (2, .inl 0)], [gx_r 15], t0, n, 0)) rfl (fun _ => rfl) rfl ?_
    refine gxo_ref (a := 15) (c := 21) rfl g0 rfl rfl rfl rfl rfl ?_
    refine ex_go (S := (14, [(0, gx_r 15), (1, gx_r 257), (2, .inl 0)], [.inl 0, gx_r 21], t0, n, 0)) rfl (fun _ => rfl) rfl ?_
    have k25 : ai_hv t0 21 0 = some (.inl (σ 13)) := x13_0 (by first | decide | omega)
    refine gx_ag (v := .inl (σ 13)) (cb := fun c => Nat.beq c 0) rfl (fun _ => rfl) g0 rfl rfl k25 (by first | decide | omega) rfl ?_
    refine ex_go (S := (32, [(0, gx_r 15), (1, gx_r 257), (2, .inl 0)], [.inl (σ 13)], t0, n, 0)) rfl (fun _ => rfl) rfl ?_
    refine ex_ret (r := (some (.inl (σ 13)), t0, n, 0)) rfl (fun _ => rfl) ?_
    have e9 : slp w σ 0 = σ 13 := by rw [hsl, if_pos (by first | decide | omega)]
    exact ⟨_, rfl, by rw [e9]⟩
theorem sc_hs15_257_0 (d n : Nat) {t0 : en_H} {w : Nat → Nat → Nat} {L : List Nat} {σ : Nat → Nat} {to : Nat} (g0 : ai_HG ah_G t0) (hC : CW t0 257 w L) (hw : WS w) (hb : sbd σ) (hS : SC t0 15 (w 0 2) (w 0 4) σ) (hX : CX t0 257 w) (hB : σ 0 ≤ 900000) (hc : 0 < w 0 4) (ht : to < 64) : ∃ r, en_u (d + 4) 200 [gx_r 15, gx_r 257, .inl 0, .inl to] t0 n = some r ∧ ∃ v t', r = (some (.inl v), t', n, 0) ∧ ai_HG ah_G t' ∧ (∀ c i, ¬ (c = 19 ∨ c = 20 ∨ c = 21) → ai_hv t' c i = ai_hv t0 c i) ∧ v ≤ 1 ∧ (v = 1 → mayH w σ 0 to ∧ SC t' 15 (w 0 2) (w 0 4) (sgH σ 0 to)) ∧ (v = 0 → ¬ mayH w σ 0 to ∧ t' = t0) := by
  have hsp := slp_lt hw hb hc
  have hS9 := hS
  have hb9 := hb
  obtain ⟨hb1, ⟨hb7, hb8⟩, ⟨hb11, hb12⟩, ⟨hb13, hb14⟩, ⟨hb15, hb16⟩, hb0, hbo9, hb10⟩ := hb9
  have hT := hw.1.2.2.1
  have hK := hw.1.2.2.2.2.1
  obtain ⟨x7_0, x9_0, x11_0, x15_0, x13_0⟩ := hS9.2.2 0 (by first | decide | omega)
  have x13_0 : σ 11 = 1 → ai_hv t0 21 0 = some (.inl (σ 13)) := x13_0
  have w3_0 := (hC.2.2.1 0 (by first | decide | omega)).1
  have hs0 := (hw.2.1 0 (by first | decide | omega)).1
  have hp0 := hb1 (w 3 0) (by first | decide | omega)
  refine en_u_ex (d := d + 3) rfl ?_
  show en_ex _ _ _ _ (0, [(0, gx_r 15), (1, gx_r 257), (2, .inl 0), (3, .inl to)], [], t0, n, 0) _
  refine ex_go (S := (1, [(0, gx_r 15), (1, gx_r 257), (2, .inl 0), (3, .inl to)], [gx_r 15], t0, n, 0)) rfl (fun _ => rfl) rfl ?_
  refine ex_go (S := (2, [(0, gx_r 15), (1, gx_r 257), (2, .inl 0), (3, .inl to)], [gx_r 257, gx_r 15], t0, n, 0)) rfl (fun _ => rfl) rfl ?_
  refine ex_go (S := (3, [(0, gx_r 15), (1, gx_r 257), (2, .inl 0), (3, .inl to)], [.inl 0, gx_r 257, gx_r 15], t0, n, 0)) rfl (fun _ => rfl) rfl ?_
  obtain ⟨_, r21, rfl⟩ := sc_sled15_257_0 (d + 2) n g0 hC hw hb hS hc
  refine gx_callo (a := 15) rfl rfl g0 rfl rfl rfl r21 rfl ?_
  show en_ex _ _ _ _ (6, [(0, gx_r 15), (1, gx_r 257), (2, .inl 0), (3, .inl to)], [.inl (slp w σ 0)], t0, n, 0) _
  refine ex_go (S := (8, [(4, .inl (slp w σ 0)), (0, gx_r 15), (1, gx_r 257), (2, .inl 0), (3, .inl to)], [], t0, n, 0)) rfl (fun _ => rfl) rfl ?_
  refine ex_go (S := (9, [(4, .inl (slp w σ 0)), (0, gx_r 15), (1, gx_r 257), (2, .inl 0), (3, .inl to)], [gx_r 15], t0, n, 0)) rfl (fun _ => rfl) rfl ?_
  refine gxo_ref (a := 15) (c := 20) rfl g0 rfl rfl rfl rfl rfl ?_
  refine ex_go (S := (13, [(4, .inl (slp w σ 0)), (0, gx_r 15), (1, gx_r 257), (2, .inl 0), (3, .inl to)], [.inl 0, gx_r 20], t0, n, 0)) rfl (fun _ => rfl) rfl ?_
  have k22 : ai_hv t0 20 0 = some (.inl (σ 15)) := x15_0
  refine gx_ag (v := .inl (σ 15)) (cb := fun c => Nat.beq c 2 || Nat.beq c 1) rfl (fun _ => rfl) g0 rfl rfl k22 (by first | decide | omega) rfl ?_
  by_cases hc23 : σ 15 ≠ 0
  · refine gx_1t (c := .ne) rfl (by first | decide | omega) hc23 rfl ?_
    refine ex_go (S := (44, [(4, .inl (slp w σ 0)), (0, gx_r 15), (1, gx_r 257), (2, .inl 0), (3, .inl to)], [.inl 0], t0, n, 0)) rfl (fun _ => rfl) rfl ?_
    refine ex_ret (r := (some (.inl 0), t0, n, 0)) rfl (fun _ => rfl) ?_
    exact ⟨_, rfl, 0, t0, rfl, g0, (fun _ _ _ => rfl), by decide, (fun z => absurd z (by decide)), fun _ => ⟨fun z => by
      obtain ⟨z1, z2, -⟩ := z
      have z1 : ¬ σ 15 = 1 := z1
      omega, rfl⟩⟩
  · refine gx_1f (c := .ne) rfl (by first | decide | omega) hc23 rfl ?_
    refine ex_go (S := (18, [(4, .inl (slp w σ 0)), (0, gx_r 15), (1, gx_r 257), (2, .inl 0), (3, .inl to)], [.inl to], t0, n, 0)) rfl (fun _ => rfl) rfl ?_
    refine ex_go (S := (20, [(4, .inl (slp w σ 0)), (0, gx_r 15), (1, gx_r 257), (2, .inl 0), (3, .inl to)], [.inl (slp w σ 0), .inl to], t0, n, 0)) rfl (fun _ => rfl) rfl ?_
    by_cases hc24 : to = slp w σ 0
    · refine gx_2t (c := .eq) rfl (by first | decide | omega) (by first | decide | omega) hc24 rfl ?_
      refine ex_go (S := (44, [(4, .inl (slp w σ 0)), (0, gx_r 15), (1, gx_r 257), (2, .inl 0), (3, .inl to)], [.inl 0], t0, n, 0)) rfl (fun _ => rfl) rfl ?_
      refine ex_ret (r := (some (.inl 0), t0, n, 0)) rfl (fun _ => rfl) ?_
      exact ⟨_, rfl, 0, t0, rfl, g0, (fun _ _ _ => rfl), by decide, (fun z => absurd z (by decide)), fun _ => ⟨fun z => by
        obtain ⟨z1, z2, -⟩ := z
        have z1 : ¬ σ 15 = 1 := z1
        omega, rfl⟩⟩
    · refine gx_2f (c := .eq) rfl (by first | decide | omega) (by first | decide | omega) hc24 rfl ?_
      refine ex_go (S := (24, [(4, .inl (slp w σ 0)), (0, gx_r 15), (1, gx_r 257), (2, .inl 0), (3, .inl to)], [gx_r 257], t0, n, 0)) rfl (fun _ => rfl) rfl ?_
      refine ex_go (S := (26, [(4, .inl (slp w σ 0)), (0, gx_r 15), (1, gx_r 257), (2, .inl 0), (3, .inl to)], [.inl (slp w σ 0), gx_r 257], t0, n, 0)) rfl (fun _ => rfl) rfl ?_
      obtain ⟨_, r25, rfl⟩ := pz_bit (d + 2) n (t0 := t0) (x := slp w σ 0) (by first | decide | omega)
      refine ex_stat rfl rfl rfl rfl rfl r25 (Nat.le_refl _) rfl ?_
      show en_ex _ _ _ _ (29, [(4, .inl (slp w σ 0)), (0, gx_r 15), (1, gx_r 257), (2, .inl 0), (3, .inl to)], [.inr (.inl (2 ^ (slp w σ 0))), gx_r 257], t0, n, 0) _
      refine ex_go (S := (30, [(4, .inl (slp w σ 0)), (0, gx_r 15), (1, gx_r 257), (2, .inl 0), (3, .inl to)], [gx_r 15, .inr (.inl (2 ^ (slp w σ 0))), gx_r 257], t0, n, 0)) rfl (fun _ => rfl) rfl ?_
      refine gxo_get (a := 15) rfl g0 rfl rfl hS.1 rfl ?_
      obtain ⟨_, r1, y, rfl, hy⟩ := sc_hauled257 d n (H := fun q => decide (q = slp w σ 0)) (s := σ 0) (x := 2 ^ slp w σ 0) g0 hC hX hw (by first | decide | omega) (bts_mk (sz_two hsp) (fun j hj => by rw [Nat.testBit_two_pow, decide_eq_decide]; exact eq_comm))
      refine gx_callo (a := 257) rfl rfl g0 rfl rfl rfl r1 rfl ?_
      show en_ex _ _ _ _ (36, [(4, .inl (slp w σ 0)), (0, gx_r 15), (1, gx_r 257), (2, .inl 0), (3, .inl to)], [.inr (.inl y)], t0, n, 0) _
      refine ex_go (S := (37, [(4, .inl (slp w σ 0)), (0, gx_r 15), (1, gx_r 257), (2, .inl 0), (3, .inl to)], [.inl to, .inr (.inl y)], t0, n, 0)) rfl (fun _ => rfl) rfl ?_
      obtain ⟨_, r26, rfl⟩ := pz_has (d + 1) n (t0 := t0) (x := y) (k := to) hy.1 ht
      have hbt := bts_at hy ht
      have hbv := bv_le (b := y.testBit to)
      refine ex_stat rfl rfl rfl rfl rfl r26 (Nat.le_refl _) rfl ?_
      show en_ex _ _ _ _ (40, [(4, .inl (slp w σ 0)), (0, gx_r 15), (1, gx_r 257), (2, .inl 0), (3, .inl to)], [.inl (bv (y.testBit to))], t0, n, 0) _
      by_cases hc27 : bv (y.testBit to) ≠ 0
      · refine gx_1t (c := .ne) rfl (by first | decide | omega) hc27 rfl ?_
        refine ex_go (S := (46, [(4, .inl (slp w σ 0)), (0, gx_r 15), (1, gx_r 257), (2, .inl 0), (3, .inl to)], [gx_r 15], t0, n, 0)) rfl (fun _ => rfl) rfl ?_
        refine gxo_ref (a := 15) (c := 19) rfl g0 rfl rfl rfl rfl rfl ?_
        refine ex_go (S := (50, [(4, .inl (slp w σ 0)), (0, gx_r 15), (1, gx_r 257), (2, .inl 0), (3, .inl to)], [.inl 0, gx_r 19], t0, n, 0)) rfl (fun _ => rfl) rfl ?_
        refine ex_go (S := (51, [(4, .inl (slp w σ 0)), (0, gx_r 15), (1, gx_r 257), (2, .inl 0), (3, .inl to)], [.inl 1, .inl 0, gx_r 19], t0, n, 0)) rfl (fun _ => rfl) rfl ?_
        refine gx_apv (d := 2) rfl (fun _ => rfl) g0 rfl rfl rfl (show 0 < 2 from by omega) rfl (ai_in_h (by first | decide | omega) (by first | decide | omega) (by first | decide | omega)) rfl (fun t128 g128 k128 e128 => ?_)
        have k29 : ai_hv t128 15 0 = some (.inl (σ 0)) := (e128 15 0 (by first | decide | omega)).trans hS.1
        have k30 : ai_hv t128 20 0 = some (.inl (σ 15)) := (e128 20 0 (by first | decide | omega)).trans k22
        refine ex_go (S := (53, [(4, .inl (slp w σ 0)), (0, gx_r 15), (1, gx_r 257), (2, .inl 0), (3, .inl to)], [gx_r 15], t128, n, 0)) rfl (fun _ => rfl) rfl ?_
        refine gxo_ref (a := 15) (c := 20) rfl g128 rfl rfl rfl rfl rfl ?_
        refine ex_go (S := (57, [(4, .inl (slp w σ 0)), (0, gx_r 15), (1, gx_r 257), (2, .inl 0), (3, .inl to)], [.inl 0, gx_r 20], t128, n, 0)) rfl (fun _ => rfl) rfl ?_
        refine ex_go (S := (58, [(4, .inl (slp w σ 0)), (0, gx_r 15), (1, gx_r 257), (2, .inl 0), (3, .inl to)], [.inl 1, .inl 0, gx_r 20], t128, n, 0)) rfl (fun _ => rfl) rfl ?_
        refine gx_apv (d := 2) rfl (fun _ => rfl) g128 rfl rfl rfl (show 0 < 2 from by omega) rfl (ai_in_h (by first | decide | omega) (by first | decide | omega) (by first | decide | omega)) rfl (fun t131 g131 k131 e131 => ?_)
        have k32 : ai_hv t131 15 0 = some (.inl (σ 0)) := (e131 15 0 (by first | decide | omega)).trans k29
        have k33 : ai_hv t131 19 0 = some (.inl 1) := (e131 19 0 (by first | decide | omega)).trans k128
        refine ex_go (S := (60, [(4, .inl (slp w σ 0)), (0, gx_r 15), (1, gx_r 257), (2, .inl 0), (3, .inl to)], [gx_r 15], t131, n, 0)) rfl (fun _ => rfl) rfl ?_
        refine gxo_ref (a := 15) (c := 21) rfl g131 rfl rfl rfl rfl rfl ?_
        refine ex_go (S := (64, [(4, .inl (slp w σ 0)), (0, gx_r 15), (1, gx_r 257), (2, .inl 0), (3, .inl to)], [.inl 0, gx_r 21], t131, n, 0)) rfl (fun _ => rfl) rfl ?_
        refine ex_go (S := (65, [(4, .inl (slp w σ 0)), (0, gx_r 15), (1, gx_r 257), (2, .inl 0), (3, .inl to)], [.inl to, .inl 0, gx_r 21], t131, n, 0)) rfl (fun _ => rfl) rfl ?_
        refine gx_ap rfl (fun _ => rfl) g131 rfl rfl rfl (show 0 < 2 from by omega) rfl (ai_in_h (by first | decide | omega) (by first | decide | omega) (by first | decide | omega)) rfl (fun t134 g134 k134 e134 => ?_)
        have k35 : ai_hv t134 15 0 = some (.inl (σ 0)) := (e134 15 0 (by first | decide | omega)).trans k32
        have k36 : ai_hv t134 19 0 = some (.inl 1) := (e134 19 0 (by first | decide | omega)).trans k33
        have k37 : ai_hv t134 20 0 = some (.inl 1) := (e134 20 0 (by first | decide | omega)).trans k131
        refine ex_go (S := (67, [(4, .inl (slp w σ 0)), (0, gx_r 15), (1, gx_r 257), (2, .inl 0), (3, .inl to)], [.inl 1], t134, n, 0)) rfl (fun _ => rfl) rfl ?_
        refine ex_ret (r := (some (.inl 1), t134, n, 0)) rfl (fun _ => rfl) ?_
        refine ⟨_, rfl, 1, t134, rfl, g134, (fun c i h => (e134 c i (by first | decide | omega)).trans ((e131 c i (by first | decide | omega)).trans (e128 c i (by first | decide | omega)))), by decide, (fun _ => ⟨⟨?_, ?_, ?_⟩, ?_⟩), fun z => absurd z (by decide)⟩
        · show ¬ σ 15 = 1
          omega
        · omega
        · rw [← hbt]; exact bv_1 (by first | decide | omega)
        · refine ⟨?_, fun i hi => ?_, fun c9 hc9 => ?_⟩
          · rw [sgH_o (by first | decide | omega) (by first | decide | omega) (by first | decide | omega)]; exact ((e134 15 0 (by first | decide | omega)).trans ((e131 15 0 (by first | decide | omega)).trans (e128 15 0 (by first | decide | omega)))).trans (hS.1)
          · rw [sgH_o (by first | decide | omega) (by first | decide | omega) (by first | decide | omega)]; exact ((e134 16 i (by first | decide | omega)).trans ((e131 16 i (by first | decide | omega)).trans (e128 16 i (by first | decide | omega)))).trans (hS.2.1 i hi)
          · rcases (show c9 = 0 ∨ c9 = 1 by omega) with rfl | rfl
            · obtain ⟨y7, y9, y11, y15, y13⟩ := hS.2.2 0 hc9
              refine ⟨?_, ?_, ?_, ?_, ?_⟩
              · rw [sgH_o (by first | decide | omega) (by first | decide | omega) (by first | decide | omega)]; exact ((e134 17 0 (by first | decide | omega)).trans ((e131 17 0 (by first | decide | omega)).trans (e128 17 0 (by first | decide | omega)))).trans (y7)
              · rw [sgH_o (by first | decide | omega) (by first | decide | omega) (by first | decide | omega)]; exact ((e134 18 0 (by first | decide | omega)).trans ((e131 18 0 (by first | decide | omega)).trans (e128 18 0 (by first | decide | omega)))).trans (y9)
              · rw [sgH_11]; exact k36
              · rw [sgH_15]; exact k37
              · intro _; rw [sgH_13]; exact k134
            · obtain ⟨y7, y9, y11, y15, y13⟩ := hS.2.2 1 hc9
              refine ⟨?_, ?_, ?_, ?_, ?_⟩
              · rw [sgH_o (by first | decide | omega) (by first | decide | omega) (by first | decide | omega)]; exact ((e134 17 1 (by first | decide | omega)).trans ((e131 17 1 (by first | decide | omega)).trans (e128 17 1 (by first | decide | omega)))).trans (y7)
              · rw [sgH_o (by first | decide | omega) (by first | decide | omega) (by first | decide | omega)]; exact ((e134 18 1 (by first | decide | omega)).trans ((e131 18 1 (by first | decide | omega)).trans (e128 18 1 (by first | decide | omega)))).trans (y9)
              · rw [sgH_o (by first | decide | omega) (by first | decide | omega) (by first | decide | omega)]; exact ((e134 19 1 (by first | decide | omega)).trans ((e131 19 1 (by first | decide | omega)).trans (e128 19 1 (by first | decide | omega)))).trans (y11)
              · rw [sgH_o (by first | decide | omega) (by first | decide | omega) (by first | decide | omega)]; exact ((e134 20 1 (by first | decide | omega)).trans ((e131 20 1 (by first | decide | omega)).trans (e128 20 1 (by first | decide | omega)))).trans (y15)
              · intro z
                rw [sgH_o (by first | decide | omega) (by first | decide | omega) (by first | decide | omega)] at z
                rw [sgH_o (by first | decide | omega) (by first | decide | omega) (by first | decide | omega)]; exact ((e134 21 1 (by first | decide | omega)).trans ((e131 21 1 (by first | decide | omega)).trans (e128 21 1 (by first | decide | omega)))).trans (y13 z)
      · refine gx_1f (c := .ne) rfl (by first | decide | omega) hc27 rfl ?_
        refine ex_go (S := (44, [(4, .inl (slp w σ 0)), (0, gx_r 15), (1, gx_r 257), (2, .inl 0), (3, .inl to)], [.inl 0], t0, n, 0)) rfl (fun _ => rfl) rfl ?_
        refine ex_ret (r := (some (.inl 0), t0, n, 0)) rfl (fun _ => rfl) ?_
        exact ⟨_, rfl, 0, t0, rfl, g0, (fun _ _ _ => rfl), by decide, (fun z => absurd z (by decide)), fun _ => ⟨(fun z => by
          have h9 := bv_0 (b := y.testBit to) (by first | decide | omega)
          rw [hbt] at h9
          rw [z.2.2] at h9
          cases h9), rfl⟩⟩
theorem sc_lb15_257_0 (d n : Nat) {t0 : en_H} {w : Nat → Nat → Nat} {L : List Nat} {σ : Nat → Nat} {v : Nat} (g0 : ai_HG ah_G t0) (hC : CW t0 257 w L) (hw : WS w) (hb : sbd σ) (hS : SC t0 15 (w 0 2) (w 0 4) σ) (hsum : σ 7 + σ 8 ≤ 19998) (hc : 0 < w 0 4) (hv : v ≤ 999) : ∃ r, en_u (d + 2) 201 [gx_r 15, gx_r 257, .inl 0, .inl v] t0 n = some r ∧ ∃ y t', r = (some (.inl y), t', n, 0) ∧ ai_HG ah_G t' ∧ (∀ c i, ¬ (c = 17 ∨ c = 18) → ai_hv t' c i = ai_hv t0 c i) ∧ (mayL w σ 0 → y = lnv σ 0 v ∧ SC t' 15 (w 0 2) (w 0 4) (sgL σ 0 v)) ∧ (¬ mayL w σ 0 → y = 4294967295 ∧ t' = t0) := by
  have hml : mayL w σ 0 ↔ (w 0 4 = 2 ∧ σ 11 = 1 ∧ 0 < σ 7 ∧ σ 13 = σ (1 + w 3 1)) := Iff.rfl
  have hlv : lnv σ 0 v = min v (σ 7) := rfl
  by_cases h2 : w 0 4 = 2
  · have hS9 := hS
    have hb9 := hb
    obtain ⟨hb1, ⟨hb7, hb8⟩, ⟨hb11, hb12⟩, ⟨hb13, hb14⟩, ⟨hb15, hb16⟩, hb0, hbo9, hb10⟩ := hb9
    have hT := hw.1.2.2.1
    have hK := hw.1.2.2.2.2.1
    obtain ⟨x7_0, x9_0, x11_0, x15_0, x13_0⟩ := hS9.2.2 0 (by first | decide | omega)
    have x13_0 : σ 11 = 1 → ai_hv t0 21 0 = some (.inl (σ 13)) := x13_0
    have w3_0 := (hC.2.2.1 0 (by first | decide | omega)).1
    have hs0 := (hw.2.1 0 (by first | decide | omega)).1
    have hp0 := hb1 (w 3 0) (by first | decide | omega)
    obtain ⟨x7_1, x9_1, x11_1, x15_1, x13_1⟩ := hS9.2.2 1 (by first | decide | omega)
    have x13_1 : σ 12 = 1 → ai_hv t0 21 1 = some (.inl (σ 14)) := x13_1
    have w3_1 := (hC.2.2.1 1 (by first | decide | omega)).1
    have hs1 := (hw.2.1 1 (by first | decide | omega)).1
    have hp1 := hb1 (w 3 1) (by first | decide | omega)
    refine en_u_ex (d := d + 1) rfl ?_
    show en_ex _ _ _ _ (0, [(0, gx_r 15), (1, gx_r 257), (2, .inl 0), (3, .inl v)], [], t0, n, 0) _
    refine ex_go (S := (1, [(0, gx_r 15), (1, gx_r 257), (2, .inl 0), (3, .inl v)], [.inl 1], t0, n, 0)) rfl (fun _ => rfl) rfl ?_
    refine ex_go (S := (2, [(0, gx_r 15), (1, gx_r 257), (2, .inl 0), (3, .inl v)], [.inl 0, .inl 1], t0, n, 0)) rfl (fun _ => rfl) rfl ?_
    refine ex_go (S := (3, [(0, gx_r 15), (1, gx_r 257), (2, .inl 0), (3, .inl v)], [.inl 1], t0, n, 0)) rfl (fun _ => rfl) rfl ?_
    refine ex_go (S := (5, [(4, .inl 1), (0, gx_r 15), (1, gx_r 257), (2, .inl 0), (3, .inl v)], [], t0, n, 0)) rfl (fun _ => rfl) rfl ?_
    refine ex_go (S := (6, [(4, .inl 1), (0, gx_r 15), (1, gx_r 257), (2, .inl 0), (3, .inl v)], [gx_r 257], t0, n, 0)) rfl (fun _ => rfl) rfl ?_
    refine gxo_ref (a := 257) (c := 272) rfl g0 rfl rfl rfl rfl rfl ?_
    refine ex_go (S := (11, [(4, .inl 1), (0, gx_r 15), (1, gx_r 257), (2, .inl 0), (3, .inl v)], [.inl 1, gx_r 272], t0, n, 0)) rfl (fun _ => rfl) rfl ?_
    obtain ⟨_, r121, b121, rfl, hb121, hi121⟩ := pz_holds272 d n (x := 1) (K := w 0 4) g0 (by decide) hC.1.2.2.2.2.2 (by first | decide | omega)
    refine gx_callo (a := 272) rfl rfl g0 rfl rfl rfl r121 rfl ?_
    show en_ex _ _ _ _ (14, [(4, .inl 1), (0, gx_r 15), (1, gx_r 257), (2, .inl 0), (3, .inl v)], [.inl b121], t0, n, 0) _
    refine gx_1f (c := .eq) rfl (by first | decide | omega) (show ¬ (b121 = 0) from by omega) rfl ?_
    refine ex_go (S := (18, [(4, .inl 1), (0, gx_r 15), (1, gx_r 257), (2, .inl 0), (3, .inl v)], [gx_r 15], t0, n, 0)) rfl (fun _ => rfl) rfl ?_
    refine gxo_ref (a := 15) (c := 19) rfl g0 rfl rfl rfl rfl rfl ?_
    refine ex_go (S := (22, [(4, .inl 1), (0, gx_r 15), (1, gx_r 257), (2, .inl 0), (3, .inl v)], [.inl 0, gx_r 19], t0, n, 0)) rfl (fun _ => rfl) rfl ?_
    have k22 : ai_hv t0 19 0 = some (.inl (σ 11)) := x11_0
    refine gx_ag (v := .inl (σ 11)) (cb := fun c => Nat.beq c 2 || Nat.beq c 1) rfl (fun _ => rfl) g0 rfl rfl k22 (by first | decide | omega) rfl ?_
    by_cases hc23 : σ 11 = 0
    · refine gx_1t (c := .eq) rfl (by first | decide | omega) hc23 rfl ?_
      refine ex_go (S := (60, [(4, .inl 1), (0, gx_r 15), (1, gx_r 257), (2, .inl 0), (3, .inl v)], [.inl 4294967295], t0, n, 0)) rfl (fun _ => rfl) rfl ?_
      refine ex_ret (r := (some (.inl 4294967295), t0, n, 0)) rfl (fun _ => rfl) ?_
      exact ⟨_, rfl, _, t0, rfl, g0, (fun _ _ _ => rfl), (fun z => by rw [hml] at z; omega), fun _ => ⟨rfl, rfl⟩⟩
    · refine gx_1f (c := .eq) rfl (by first | decide | omega) hc23 rfl ?_
      refine ex_go (S := (27, [(4, .inl 1), (0, gx_r 15), (1, gx_r 257), (2, .inl 0), (3, .inl v)], [gx_r 15], t0, n, 0)) rfl (fun _ => rfl) rfl ?_
      refine gxo_ref (a := 15) (c := 17) rfl g0 rfl rfl rfl rfl rfl ?_
      refine ex_go (S := (31, [(4, .inl 1), (0, gx_r 15), (1, gx_r 257), (2, .inl 0), (3, .inl v)], [.inl 0, gx_r 17], t0, n, 0)) rfl (fun _ => rfl) rfl ?_
      have k24 : ai_hv t0 17 0 = some (.inl (σ 7)) := x7_0
      refine gx_ag (v := .inl (σ 7)) (cb := fun c => Nat.beq c 0) rfl (fun _ => rfl) g0 rfl rfl k24 (by first | decide | omega) rfl ?_
      by_cases hc25 : σ 7 = 0
      · refine gx_1t (c := .eq) rfl (by first | decide | omega) hc25 rfl ?_
        refine ex_go (S := (60, [(4, .inl 1), (0, gx_r 15), (1, gx_r 257), (2, .inl 0), (3, .inl v)], [.inl 4294967295], t0, n, 0)) rfl (fun _ => rfl) rfl ?_
        refine ex_ret (r := (some (.inl 4294967295), t0, n, 0)) rfl (fun _ => rfl) ?_
        exact ⟨_, rfl, _, t0, rfl, g0, (fun _ _ _ => rfl), (fun z => by rw [hml] at z; omega), fun _ => ⟨rfl, rfl⟩⟩
      · refine gx_1f (c := .eq) rfl (by first | decide | omega) hc25 rfl ?_
        refine ex_go (S := (36, [(4, .inl 1), (0, gx_r 15), (1, gx_r 257), (2, .inl 0), (3, .inl v)], [gx_r 15], t0, n, 0)) rfl (fun _ => rfl) rfl ?_
        refine gxo_ref (a := 15) (c := 21) rfl g0 rfl rfl rfl rfl rfl ?_
        refine ex_go (S := (40, [(4, .inl 1), (0, gx_r 15), (1, gx_r 257), (2, .inl 0), (3, .inl v)], [.inl 0, gx_r 21], t0, n, 0)) rfl (fun _ => rfl) rfl ?_
        have k26 : ai_hv t0 21 0 = some (.inl (σ 13)) := x13_0 (by first | decide | omega)
        refine gx_ag (v := .inl (σ 13)) (cb := fun c => Nat.beq c 0) rfl (fun _ => rfl) g0 rfl rfl k26 (by first | decide | omega) rfl ?_
        refine ex_go (S := (42, [(4, .inl 1), (0, gx_r 15), (1, gx_r 257), (2, .inl 0), (3, .inl v)], [gx_r 15, .inl (σ 13)], t0, n, 0)) rfl (fun _ => rfl) rfl ?_
        refine gxo_ref (a := 15) (c := 16) rfl g0 rfl rfl rfl rfl rfl ?_
        refine ex_go (S := (46, [(4, .inl 1), (0, gx_r 15), (1, gx_r 257), (2, .inl 0), (3, .inl v)], [gx_r 257, gx_r 16, .inl (σ 13)], t0, n, 0)) rfl (fun _ => rfl) rfl ?_
        refine gxo_ref (a := 257) (c := 272) rfl g0 rfl rfl rfl rfl rfl ?_
        refine gxo_ref (a := 272) (c := 274) rfl g0 rfl rfl rfl rfl rfl ?_
        refine ex_go (S := (54, [(4, .inl 1), (0, gx_r 15), (1, gx_r 257), (2, .inl 0), (3, .inl v)], [.inl 1, gx_r 274, gx_r 16, .inl (σ 13)], t0, n, 0)) rfl (fun _ => rfl) rfl ?_
        have k27 : ai_hv t0 274 1 = some (.inl (w 3 1)) := w3_1
        refine gx_ag (v := .inl (w 3 1)) (cb := fun c => Nat.beq c 0) rfl (fun _ => rfl) g0 rfl rfl k27 (by first | decide | omega) rfl ?_
        have k28 : ai_hv t0 16 (w 3 1) = some (.inl (σ (1 + w 3 1))) := hS.2.1 _ (by first | decide | omega)
        refine gx_ag (v := .inl (σ (1 + w 3 1))) (cb := fun c => Nat.beq c 0) rfl (fun _ => rfl) g0 rfl rfl k28 (by first | decide | omega) rfl ?_
        by_cases hc29 : σ 13 = σ (1 + w 3 1)
        · refine gx_2t (c := .eq) rfl (by first | decide | omega) (by first | decide | omega) hc29 rfl ?_
          refine ex_go (S := (62, [(4, .inl 1), (0, gx_r 15), (1, gx_r 257), (2, .inl 0), (3, .inl v)], [.inl v], t0, n, 0)) rfl (fun _ => rfl) rfl ?_
          refine ex_go (S := (63, [(4, .inl 1), (0, gx_r 15), (1, gx_r 257), (2, .inl 0), (3, .inl v)], [gx_r 15, .inl v], t0, n, 0)) rfl (fun _ => rfl) rfl ?_
          refine gxo_ref (a := 15) (c := 17) rfl g0 rfl rfl rfl rfl rfl ?_
          refine ex_go (S := (67, [(4, .inl 1), (0, gx_r 15), (1, gx_r 257), (2, .inl 0), (3, .inl v)], [.inl 0, gx_r 17, .inl v], t0, n, 0)) rfl (fun _ => rfl) rfl ?_
          refine gx_ag (v := .inl (σ 7)) (cb := fun c => Nat.beq c 0) rfl (fun _ => rfl) g0 rfl rfl k24 (by first | decide | omega) rfl ?_
          refine gx_inn rfl rfl rfl (zk_min (by first | decide | omega) (by first | decide | omega)) rfl rfl ?_
          refine ex_go (S := (73, [(5, .inl (min v (σ 7))), (4, .inl 1), (0, gx_r 15), (1, gx_r 257), (2, .inl 0), (3, .inl v)], [], t0, n, 0)) rfl (fun _ => rfl) rfl ?_
          refine ex_go (S := (74, [(5, .inl (min v (σ 7))), (4, .inl 1), (0, gx_r 15), (1, gx_r 257), (2, .inl 0), (3, .inl v)], [gx_r 15], t0, n, 0)) rfl (fun _ => rfl) rfl ?_
          refine gxo_ref (a := 15) (c := 17) rfl g0 rfl rfl rfl rfl rfl ?_
          refine ex_go (S := (78, [(5, .inl (min v (σ 7))), (4, .inl 1), (0, gx_r 15), (1, gx_r 257), (2, .inl 0), (3, .inl v)], [.inl 0, gx_r 17], t0, n, 0)) rfl (fun _ => rfl) rfl ?_
          refine ex_go (S := (79, [(5, .inl (min v (σ 7))), (4, .inl 1), (0, gx_r 15), (1, gx_r 257), (2, .inl 0), (3, .inl v)], [.inl 0, gx_r 17, .inl 0, gx_r 17], t0, n, 0)) rfl (fun _ => rfl) rfl ?_
          refine gx_ag (v := .inl (σ 7)) (cb := fun c => Nat.beq c 0) rfl (fun _ => rfl) g0 rfl rfl k24 (by first | decide | omega) rfl ?_
          refine ex_go (S := (82, [(5, .inl (min v (σ 7))), (4, .inl 1), (0, gx_r 15), (1, gx_r 257), (2, .inl 0), (3, .inl v)], [.inl (min v (σ 7)), .inl (σ 7), .inl 0, gx_r 17], t0, n, 0)) rfl (fun _ => rfl) rfl ?_
          refine gx_isub rfl (by first | decide | omega) (by first | decide | omega) rfl ?_
          refine gx_ap rfl (fun _ => rfl) g0 rfl rfl rfl (show 0 < 2 from by omega) rfl (gx_full (by first | decide | omega)) rfl (fun t130 g130 k130 e130 => ?_)
          have k31 : ai_hv t130 19 0 = some (.inl (σ 11)) := (e130 19 0 (by first | decide | omega)).trans k22
          have k32 : ai_hv t130 21 0 = some (.inl (σ 13)) := (e130 21 0 (by first | decide | omega)).trans k26
          have k33 : ai_hv t130 274 1 = some (.inl (w 3 1)) := (e130 274 1 (by first | decide | omega)).trans k27
          have k34 : ai_hv t130 16 (w 3 1) = some (.inl (σ (1 + w 3 1))) := (e130 16 (w 3 1) (by first | decide | omega)).trans k28
          refine ex_go (S := (85, [(5, .inl (min v (σ 7))), (4, .inl 1), (0, gx_r 15), (1, gx_r 257), (2, .inl 0), (3, .inl v)], [gx_r 15], t130, n, 0)) rfl (fun _ => rfl) rfl ?_
          refine gxo_ref (a := 15) (c := 17) rfl g130 rfl rfl rfl rfl rfl ?_
          refine ex_go (S := (90, [(5, .inl (min v (σ 7))), (4, .inl 1), (0, gx_r 15), (1, gx_r 257), (2, .inl 0), (3, .inl v)], [.inl 1, gx_r 17], t130, n, 0)) rfl (fun _ => rfl) rfl ?_
          refine ex_go (S := (91, [(5, .inl (min v (σ 7))), (4, .inl 1), (0, gx_r 15), (1, gx_r 257), (2, .inl 0), (3, .inl v)], [.inl 1, gx_r 17, .inl 1, gx_r 17], t130, n, 0)) rfl (fun _ => rfl) rfl ?_
          have k35 : ai_hv t130 17 1 = some (.inl (σ 8)) := (e130 17 1 (by first | decide | omega)).trans (x7_1)
          refine gx_ag (v := .inl (σ 8)) (cb := fun c => Nat.beq c 0) rfl (fun _ => rfl) g130 rfl rfl k35 (by first | decide | omega) rfl ?_
          refine ex_go (S := (94, [(5, .inl (min v (σ 7))), (4, .inl 1), (0, gx_r 15), (1, gx_r 257), (2, .inl 0), (3, .inl v)], [.inl (min v (σ 7)), .inl (σ 8), .inl 1, gx_r 17], t130, n, 0)) rfl (fun _ => rfl) rfl ?_
          refine ex_iadd rfl (by first | decide | omega) rfl ?_
          refine gx_ap rfl (fun _ => rfl) g130 rfl rfl rfl (show 1 < 2 from by omega) rfl (gx_full (by first | decide | omega)) rfl (fun t136 g136 k136 e136 => ?_)
          have k37 : ai_hv t136 19 0 = some (.inl (σ 11)) := (e136 19 0 (by first | decide | omega)).trans k31
          have k38 : ai_hv t136 21 0 = some (.inl (σ 13)) := (e136 21 0 (by first | decide | omega)).trans k32
          have k39 : ai_hv t136 274 1 = some (.inl (w 3 1)) := (e136 274 1 (by first | decide | omega)).trans k33
          have k40 : ai_hv t136 16 (w 3 1) = some (.inl (σ (1 + w 3 1))) := (e136 16 (w 3 1) (by first | decide | omega)).trans k34
          have k41 : ai_hv t136 17 0 = some (.inl ((σ 7) - (min v (σ 7)))) := (e136 17 0 (by first | decide | omega)).trans k130
          refine ex_go (S := (97, [(5, .inl (min v (σ 7))), (4, .inl 1), (0, gx_r 15), (1, gx_r 257), (2, .inl 0), (3, .inl v)], [gx_r 15], t136, n, 0)) rfl (fun _ => rfl) rfl ?_
          refine gxo_ref (a := 15) (c := 18) rfl g136 rfl rfl rfl rfl rfl ?_
          refine ex_go (S := (101, [(5, .inl (min v (σ 7))), (4, .inl 1), (0, gx_r 15), (1, gx_r 257), (2, .inl 0), (3, .inl v)], [.inl 0, gx_r 18], t136, n, 0)) rfl (fun _ => rfl) rfl ?_
          refine ex_go (S := (102, [(5, .inl (min v (σ 7))), (4, .inl 1), (0, gx_r 15), (1, gx_r 257), (2, .inl 0), (3, .inl v)], [.inl 0, gx_r 18, .inl 0, gx_r 18], t136, n, 0)) rfl (fun _ => rfl) rfl ?_
          have k42 : ai_hv t136 18 0 = some (.inl (σ 9)) := ((e136 18 0 (by first | decide | omega)).trans (e130 18 0 (by first | decide | omega))).trans (x9_0)
          refine gx_ag (v := .inl (σ 9)) (cb := fun c => Nat.beq c 0) rfl (fun _ => rfl) g136 rfl rfl k42 (by first | decide | omega) rfl ?_
          refine ex_go (S := (105, [(5, .inl (min v (σ 7))), (4, .inl 1), (0, gx_r 15), (1, gx_r 257), (2, .inl 0), (3, .inl v)], [.inl (min v (σ 7)), .inl (σ 9), .inl 0, gx_r 18], t136, n, 0)) rfl (fun _ => rfl) rfl ?_
          have hw43 : en_wrap ((σ 9) + (min v (σ 7))) < 4294967296 := wrap_lt
          refine gs_iaddx rfl rfl ?_
          refine gx_ap rfl (fun _ => rfl) g136 rfl rfl rfl (show 0 < 2 from by omega) rfl (gx_full (by first | decide | omega)) rfl (fun t144 g144 k144 e144 => ?_)
          have k45 : ai_hv t144 19 0 = some (.inl (σ 11)) := (e144 19 0 (by first | decide | omega)).trans k37
          have k46 : ai_hv t144 21 0 = some (.inl (σ 13)) := (e144 21 0 (by first | decide | omega)).trans k38
          have k47 : ai_hv t144 274 1 = some (.inl (w 3 1)) := (e144 274 1 (by first | decide | omega)).trans k39
          have k48 : ai_hv t144 16 (w 3 1) = some (.inl (σ (1 + w 3 1))) := (e144 16 (w 3 1) (by first | decide | omega)).trans k40
          have k49 : ai_hv t144 17 0 = some (.inl ((σ 7) - (min v (σ 7)))) := (e144 17 0 (by first | decide | omega)).trans k41
          have k50 : ai_hv t144 17 1 = some (.inl ((σ 8) + (min v (σ 7)))) := (e144 17 1 (by first | decide | omega)).trans k136
          refine ex_go (S := (108, [(5, .inl (min v (σ 7))), (4, .inl 1), (0, gx_r 15), (1, gx_r 257), (2, .inl 0), (3, .inl v)], [gx_r 15], t144, n, 0)) rfl (fun _ => rfl) rfl ?_
          refine gxo_ref (a := 15) (c := 18) rfl g144 rfl rfl rfl rfl rfl ?_
          refine ex_go (S := (113, [(5, .inl (min v (σ 7))), (4, .inl 1), (0, gx_r 15), (1, gx_r 257), (2, .inl 0), (3, .inl v)], [.inl 1, gx_r 18], t144, n, 0)) rfl (fun _ => rfl) rfl ?_
          refine ex_go (S := (114, [(5, .inl (min v (σ 7))), (4, .inl 1), (0, gx_r 15), (1, gx_r 257), (2, .inl 0), (3, .inl v)], [.inl 1, gx_r 18, .inl 1, gx_r 18], t144, n, 0)) rfl (fun _ => rfl) rfl ?_
          have k51 : ai_hv t144 18 1 = some (.inl (σ 10)) := ((e144 18 1 (by first | decide | omega)).trans ((e136 18 1 (by first | decide | omega)).trans (e130 18 1 (by first | decide | omega)))).trans (x9_1)
          refine gx_ag (v := .inl (σ 10)) (cb := fun c => Nat.beq c 0) rfl (fun _ => rfl) g144 rfl rfl k51 (by first | decide | omega) rfl ?_
          refine ex_go (S := (117, [(5, .inl (min v (σ 7))), (4, .inl 1), (0, gx_r 15), (1, gx_r 257), (2, .inl 0), (3, .inl v)], [.inl (min v (σ 7)), .inl (σ 10), .inl 1, gx_r 18], t144, n, 0)) rfl (fun _ => rfl) rfl ?_
          have hw52 : isb (σ 10) (min v (σ 7)) < 4294967296 := isb_lt
          refine gx_isbx rfl rfl ?_
          refine gx_ap rfl (fun _ => rfl) g144 rfl rfl rfl (show 1 < 2 from by omega) rfl (gx_full (by first | decide | omega)) rfl (fun t153 g153 k153 e153 => ?_)
          have k54 : ai_hv t153 19 0 = some (.inl (σ 11)) := (e153 19 0 (by first | decide | omega)).trans k45
          have k55 : ai_hv t153 21 0 = some (.inl (σ 13)) := (e153 21 0 (by first | decide | omega)).trans k46
          have k56 : ai_hv t153 274 1 = some (.inl (w 3 1)) := (e153 274 1 (by first | decide | omega)).trans k47
          have k57 : ai_hv t153 16 (w 3 1) = some (.inl (σ (1 + w 3 1))) := (e153 16 (w 3 1) (by first | decide | omega)).trans k48
          have k58 : ai_hv t153 17 0 = some (.inl ((σ 7) - (min v (σ 7)))) := (e153 17 0 (by first | decide | omega)).trans k49
          have k59 : ai_hv t153 17 1 = some (.inl ((σ 8) + (min v (σ 7)))) := (e153 17 1 (by first | decide | omega)).trans k50
          have k60 : ai_hv t153 18 0 = some (.inl (en_wrap ((σ 9) + (min v (σ 7))))) := (e153 18 0 (by first | decide | omega)).trans k144
          refine ex_go (S := (121, [(5, .inl (min v (σ 7))), (4, .inl 1), (0, gx_r 15), (1, gx_r 257), (2, .inl 0), (3, .inl v)], [.inl (min v (σ 7))], t153, n, 0)) rfl (fun _ => rfl) rfl ?_
          refine ex_ret (r := (some (.inl (min v (σ 7))), t153, n, 0)) rfl (fun _ => rfl) ?_
          have hl9 : lnv σ 0 v = min v (σ 7) := by omega
          refine ⟨_, rfl, _, t153, rfl, g153, (fun c i h => (e153 c i (by first | decide | omega)).trans ((e144 c i (by first | decide | omega)).trans ((e136 c i (by first | decide | omega)).trans (e130 c i (by first | decide | omega))))), (fun _ => ⟨hl9.symm, ?_⟩), fun z => absurd (by rw [hml]; omega) z⟩
          refine ⟨?_, fun i hi => ?_, fun c9 hc9 => ?_⟩
          · rw [sgL_o (by first | decide | omega) (by first | decide | omega) (by first | decide | omega) (by first | decide | omega)]; exact ((e153 15 0 (by first | decide | omega)).trans ((e144 15 0 (by first | decide | omega)).trans ((e136 15 0 (by first | decide | omega)).trans (e130 15 0 (by first | decide | omega))))).trans (hS.1)
          · rw [sgL_o (by first | decide | omega) (by first | decide | omega) (by first | decide | omega) (by first | decide | omega)]; exact ((e153 16 i (by first | decide | omega)).trans ((e144 16 i (by first | decide | omega)).trans ((e136 16 i (by first | decide | omega)).trans (e130 16 i (by first | decide | omega))))).trans (hS.2.1 i hi)
          · rcases (show c9 = 0 ∨ c9 = 1 by omega) with rfl | rfl
            · obtain ⟨y7, y9, y11, y15, y13⟩ := hS.2.2 0 hc9
              refine ⟨?_, ?_, ?_, ?_, ?_⟩
              · rw [sgL_7, hl9]; exact k58
              · rw [sgL_9 (by first | decide | omega), hl9]; exact k60
              · rw [sgL_o (by first | decide | omega) (by first | decide | omega) (by first | decide | omega) (by first | decide | omega)]; exact ((e153 19 0 (by first | decide | omega)).trans ((e144 19 0 (by first | decide | omega)).trans ((e136 19 0 (by first | decide | omega)).trans (e130 19 0 (by first | decide | omega))))).trans (y11)
              · rw [sgL_o (by first | decide | omega) (by first | decide | omega) (by first | decide | omega) (by first | decide | omega)]; exact ((e153 20 0 (by first | decide | omega)).trans ((e144 20 0 (by first | decide | omega)).trans ((e136 20 0 (by first | decide | omega)).trans (e130 20 0 (by first | decide | omega))))).trans (y15)
              · intro z
                rw [sgL_o (by first | decide | omega) (by first | decide | omega) (by first | decide | omega) (by first | decide | omega)] at z
                rw [sgL_o (by first | decide | omega) (by first | decide | omega) (by first | decide | omega) (by first | decide | omega)]; exact ((e153 21 0 (by first | decide | omega)).trans ((e144 21 0 (by first | decide | omega)).trans ((e136 21 0 (by first | decide | omega)).trans (e130 21 0 (by first | decide | omega))))).trans (y13 z)
            · obtain ⟨y7, y9, y11, y15, y13⟩ := hS.2.2 1 hc9
              refine ⟨?_, ?_, ?_, ?_, ?_⟩
              · rw [show 7 + 1 = 8 - 0 from rfl, sgL_8 (by first | decide | omega), hl9]; exact k59
              · rw [show 9 + 1 = 10 - 0 from rfl, sgL_10 (by first | decide | omega), hl9]; exact k153
              · rw [sgL_o (by first | decide | omega) (by first | decide | omega) (by first | decide | omega) (by first | decide | omega)]; exact ((e153 19 1 (by first | decide | omega)).trans ((e144 19 1 (by first | decide | omega)).trans ((e136 19 1 (by first | decide | omega)).trans (e130 19 1 (by first | decide | omega))))).trans (y11)
              · rw [sgL_o (by first | decide | omega) (by first | decide | omega) (by first | decide | omega) (by first | decide | omega)]; exact ((e153 20 1 (by first | decide | omega)).trans ((e144 20 1 (by first | decide | omega)).trans ((e136 20 1 (by first | decide | omega)).trans (e130 20 1 (by first | decide | omega))))).trans (y15)
              · intro z
                rw [sgL_o (by first | decide | omega) (by first | decide | omega) (by first | decide | omega) (by first | decide | omega)] at z
                rw [sgL_o (by first | decide | omega) (by first | decide | omega) (by first | decide | omega) (by first | decide | omega)]; exact ((e153 21 1 (by first | decide | omega)).trans ((e144 21 1 (by first | decide | omega)).trans ((e136 21 1 (by first | decide | omega)).trans (e130 21 1 (by first | decide | omega))))).trans (y13 z)
        · refine gx_2f (c := .eq) rfl (by first | decide | omega) (by first | decide | omega) hc29 rfl ?_
          refine ex_go (S := (60, [(4, .inl 1), (0, gx_r 15), (1, gx_r 257), (2, .inl 0), (3, .inl v)], [.inl 4294967295], t0, n, 0)) rfl (fun _ => rfl) rfl ?_
          refine ex_ret (r := (some (.inl 4294967295), t0, n, 0)) rfl (fun _ => rfl) ?_
          exact ⟨_, rfl, _, t0, rfl, g0, (fun _ _ _ => rfl), (fun z => by rw [hml] at z; omega), fun _ => ⟨rfl, rfl⟩⟩
  · have hS9 := hS
    have hb9 := hb
    obtain ⟨hb1, ⟨hb7, hb8⟩, ⟨hb11, hb12⟩, ⟨hb13, hb14⟩, ⟨hb15, hb16⟩, hb0, hbo9, hb10⟩ := hb9
    have hT := hw.1.2.2.1
    have hK := hw.1.2.2.2.2.1
    obtain ⟨x7_0, x9_0, x11_0, x15_0, x13_0⟩ := hS9.2.2 0 (by first | decide | omega)
    have x13_0 : σ 11 = 1 → ai_hv t0 21 0 = some (.inl (σ 13)) := x13_0
    have w3_0 := (hC.2.2.1 0 (by first | decide | omega)).1
    have hs0 := (hw.2.1 0 (by first | decide | omega)).1
    have hp0 := hb1 (w 3 0) (by first | decide | omega)
    refine en_u_ex (d := d + 1) rfl ?_
    show en_ex _ _ _ _ (0, [(0, gx_r 15), (1, gx_r 257), (2, .inl 0), (3, .inl v)], [], t0, n, 0) _
    refine ex_go (S := (1, [(0, gx_r 15), (1, gx_r 257), (2, .inl 0), (3, .inl v)], [.inl 1], t0, n, 0)) rfl (fun _ => rfl) rfl ?_
    refine ex_go (S := (2, [(0, gx_r 15), (1, gx_r 257), (2, .inl 0), (3, .inl v)], [.inl 0, .inl 1], t0, n, 0)) rfl (fun _ => rfl) rfl ?_
    refine ex_go (S := (3, [(0, gx_r 15), (1, gx_r 257), (2, .inl 0), (3, .inl v)], [.inl 1], t0, n, 0)) rfl (fun _ => rfl) rfl ?_
    refine ex_go (S := (5, [(4, .inl 1), (0, gx_r 15), (1, gx_r 257), (2, .inl 0), (3, .inl v)], [], t0, n, 0)) rfl (fun _ => rfl) rfl ?_
    refine ex_go (S := (6, [(4, .inl 1), (0, gx_r 15), (1, gx_r 257), (2, .inl 0), (3, .inl v)], [gx_r 257], t0, n, 0)) rfl (fun _ => rfl) rfl ?_
    refine gxo_ref (a := 257) (c := 272) rfl g0 rfl rfl rfl rfl rfl ?_
    refine ex_go (S := (11, [(4, .inl 1), (0, gx_r 15), (1, gx_r 257), (2, .inl 0), (3, .inl v)], [.inl 1, gx_r 272], t0, n, 0)) rfl (fun _ => rfl) rfl ?_
    obtain ⟨_, r121, b121, rfl, hb121, hi121⟩ := pz_holds272 d n (x := 1) (K := w 0 4) g0 (by decide) hC.1.2.2.2.2.2 (by first | decide | omega)
    refine gx_callo (a := 272) rfl rfl g0 rfl rfl rfl r121 rfl ?_
    show en_ex _ _ _ _ (14, [(4, .inl 1), (0, gx_r 15), (1, gx_r 257), (2, .inl 0), (3, .inl v)], [.inl b121], t0, n, 0) _
    refine gx_1t (c := .eq) rfl (by first | decide | omega) (show b121 = 0 from by omega) rfl ?_
    refine ex_go (S := (60, [(4, .inl 1), (0, gx_r 15), (1, gx_r 257), (2, .inl 0), (3, .inl v)], [.inl 4294967295], t0, n, 0)) rfl (fun _ => rfl) rfl ?_
    refine ex_ret (r := (some (.inl 4294967295), t0, n, 0)) rfl (fun _ => rfl) ?_
    exact ⟨_, rfl, _, t0, rfl, g0, (fun _ _ _ => rfl), (fun z => by rw [hml] at z; omega), fun _ => ⟨rfl, rfl⟩⟩
theorem sc_bi15_257_0 (d n : Nat) {t0 : en_H} {w : Nat → Nat → Nat} {L : List Nat} {σ : Nat → Nat} (g0 : ai_HG ah_G t0) (hC : CW t0 257 w L) (hw : WS w) (hb : sbd σ) (hS : SC t0 15 (w 0 2) (w 0 4) σ) (hc : 0 < w 0 4) : ∃ r, en_u (d + 1) 202 [gx_r 15, gx_r 257, .inl 0] t0 n = some r ∧ ∃ y t', r = (some (.inl y), t', n, 0) ∧ ai_HG ah_G t' ∧ (∀ c i, ¬ c = 19 → ai_hv t' c i = ai_hv t0 c i) ∧ y ≤ 1 ∧ (y = 1 → mayM w σ 0 ∧ SC t' 15 (w 0 2) (w 0 4) (sgM' σ 0)) ∧ (y = 0 → ¬ mayM w σ 0 ∧ t' = t0) := by
  have hml : mayM w σ 0 ↔ (σ 11 = 1 ∧ σ 13 = σ (1 + w 3 0)) := Iff.rfl
  have hS9 := hS
  have hb9 := hb
  obtain ⟨hb1, ⟨hb7, hb8⟩, ⟨hb11, hb12⟩, ⟨hb13, hb14⟩, ⟨hb15, hb16⟩, hb0, hbo9, hb10⟩ := hb9
  have hT := hw.1.2.2.1
  have hK := hw.1.2.2.2.2.1
  obtain ⟨x7_0, x9_0, x11_0, x15_0, x13_0⟩ := hS9.2.2 0 (by first | decide | omega)
  have x13_0 : σ 11 = 1 → ai_hv t0 21 0 = some (.inl (σ 13)) := x13_0
  have w3_0 := (hC.2.2.1 0 (by first | decide | omega)).1
  have hs0 := (hw.2.1 0 (by first | decide | omega)).1
  have hp0 := hb1 (w 3 0) (by first | decide | omega)
  refine en_u_ex rfl ?_
  show en_ex _ _ _ _ (0, [(0, gx_r 15), (1, gx_r 257), (2, .inl 0)], [], t0, n, 0) _
  refine ex_go (S := (1, [(0, gx_r 15), (1, gx_r 257), (2, .inl 0)], [gx_r 15], t0, n, 0)) rfl (fun _ => rfl) rfl ?_
  refine gxo_ref (a := 15) (c := 19) rfl g0 rfl rfl rfl rfl rfl ?_
  refine ex_go (S := (5, [(0, gx_r 15), (1, gx_r 257), (2, .inl 0)], [.inl 0, gx_r 19], t0, n, 0)) rfl (fun _ => rfl) rfl ?_
  have k21 : ai_hv t0 19 0 = some (.inl (σ 11)) := x11_0
  refine gx_ag (v := .inl (σ 11)) (cb := fun c => Nat.beq c 2 || Nat.beq c 1) rfl (fun _ => rfl) g0 rfl rfl k21 (by first | decide | omega) rfl ?_
  by_cases hc22 : σ 11 = 0
  · refine gx_1t (c := .eq) rfl (by first | decide | omega) hc22 rfl ?_
    refine ex_go (S := (33, [(0, gx_r 15), (1, gx_r 257), (2, .inl 0)], [.inl 0], t0, n, 0)) rfl (fun _ => rfl) rfl ?_
    refine ex_ret (r := (some (.inl 0), t0, n, 0)) rfl (fun _ => rfl) ?_
    exact ⟨_, rfl, 0, t0, rfl, g0, (fun _ _ _ => rfl), by decide, (fun z => absurd z (by decide)), fun _ => ⟨fun z => by rw [hml] at z; omega, rfl⟩⟩
  · refine gx_1f (c := .eq) rfl (by first | decide | omega) hc22 rfl ?_
    refine ex_go (S := (10, [(0, gx_r 15), (1, gx_r 257), (2, .inl 0)], [gx_r 15], t0, n, 0)) rfl (fun _ => rfl) rfl ?_
    refine gxo_ref (a := 15) (c := 21) rfl g0 rfl rfl rfl rfl rfl ?_
    refine ex_go (S := (14, [(0, gx_r 15), (1, gx_r 257), (2, .inl 0)], [.inl 0, gx_r 21], t0, n, 0)) rfl (fun _ => rfl) rfl ?_
    have k23 : ai_hv t0 21 0 = some (.inl (σ 13)) := x13_0 (by first | decide | omega)
    refine gx_ag (v := .inl (σ 13)) (cb := fun c => Nat.beq c 0) rfl (fun _ => rfl) g0 rfl rfl k23 (by first | decide | omega) rfl ?_
    refine ex_go (S := (16, [(0, gx_r 15), (1, gx_r 257), (2, .inl 0)], [gx_r 15, .inl (σ 13)], t0, n, 0)) rfl (fun _ => rfl) rfl ?_
    refine gxo_ref (a := 15) (c := 16) rfl g0 rfl rfl rfl rfl rfl ?_
    refine ex_go (S := (20, [(0, gx_r 15), (1, gx_r 257), (2, .inl 0)], [gx_r 257, gx_r 16, .inl (σ 13)], t0, n, 0)) rfl (fun _ => rfl) rfl ?_
    refine gxo_ref (a := 257) (c := 272) rfl g0 rfl rfl rfl rfl rfl ?_
    refine gxo_ref (a := 272) (c := 274) rfl g0 rfl rfl rfl rfl rfl ?_
    refine ex_go (S := (27, [(0, gx_r 15), (1, gx_r 257), (2, .inl 0)], [.inl 0, gx_r 274, gx_r 16, .inl (σ 13)], t0, n, 0)) rfl (fun _ => rfl) rfl ?_
    have k24 : ai_hv t0 274 0 = some (.inl (w 3 0)) := w3_0
    refine gx_ag (v := .inl (w 3 0)) (cb := fun c => Nat.beq c 0) rfl (fun _ => rfl) g0 rfl rfl k24 (by first | decide | omega) rfl ?_
    have k25 : ai_hv t0 16 (w 3 0) = some (.inl (σ (1 + w 3 0))) := hS.2.1 _ (by first | decide | omega)
    refine gx_ag (v := .inl (σ (1 + w 3 0))) (cb := fun c => Nat.beq c 0) rfl (fun _ => rfl) g0 rfl rfl k25 (by first | decide | omega) rfl ?_
    by_cases hc26 : σ 13 = σ (1 + w 3 0)
    · refine gx_2t (c := .eq) rfl (by first | decide | omega) (by first | decide | omega) hc26 rfl ?_
      refine ex_go (S := (35, [(0, gx_r 15), (1, gx_r 257), (2, .inl 0)], [gx_r 15], t0, n, 0)) rfl (fun _ => rfl) rfl ?_
      refine gxo_ref (a := 15) (c := 19) rfl g0 rfl rfl rfl rfl rfl ?_
      refine ex_go (S := (39, [(0, gx_r 15), (1, gx_r 257), (2, .inl 0)], [.inl 0, gx_r 19], t0, n, 0)) rfl (fun _ => rfl) rfl ?_
      refine ex_go (S := (40, [(0, gx_r 15), (1, gx_r 257), (2, .inl 0)], [.inl 0, .inl 0, gx_r 19], t0, n, 0)) rfl (fun _ => rfl) rfl ?_
      refine gx_apv (d := 2) rfl (fun _ => rfl) g0 rfl rfl rfl (show 0 < 2 from by omega) rfl (ai_in_h (by first | decide | omega) (by first | decide | omega) (by first | decide | omega)) rfl (fun t127 g127 k127 e127 => ?_)
      have k28 : ai_hv t127 21 0 = some (.inl (σ 13)) := (e127 21 0 (by first | decide | omega)).trans k23
      have k29 : ai_hv t127 274 0 = some (.inl (w 3 0)) := (e127 274 0 (by first | decide | omega)).trans k24
      have k30 : ai_hv t127 16 (w 3 0) = some (.inl (σ (1 + w 3 0))) := (e127 16 (w 3 0) (by first | decide | omega)).trans k25
      refine ex_go (S := (42, [(0, gx_r 15), (1, gx_r 257), (2, .inl 0)], [.inl 1], t127, n, 0)) rfl (fun _ => rfl) rfl ?_
      refine ex_ret (r := (some (.inl 1), t127, n, 0)) rfl (fun _ => rfl) ?_
      refine ⟨_, rfl, 1, t127, rfl, g127, (fun c i h => e127 c i (by first | decide | omega)), by decide, (fun _ => ⟨by rw [hml]; omega, ?_⟩), fun z => absurd z (by decide)⟩
      refine ⟨?_, fun i hi => ?_, fun c9 hc9 => ?_⟩
      · rw [sgM_o (by first | decide | omega)]; exact (e127 15 0 (by first | decide | omega)).trans (hS.1)
      · rw [sgM_o (by first | decide | omega)]; exact (e127 16 i (by first | decide | omega)).trans (hS.2.1 i hi)
      · rcases (show c9 = 0 ∨ c9 = 1 by omega) with rfl | rfl
        · obtain ⟨y7, y9, y11, y15, y13⟩ := hS.2.2 0 hc9
          refine ⟨?_, ?_, ?_, ?_, ?_⟩
          · rw [sgM_o (by first | decide | omega)]; exact (e127 17 0 (by first | decide | omega)).trans (y7)
          · rw [sgM_o (by first | decide | omega)]; exact (e127 18 0 (by first | decide | omega)).trans (y9)
          · rw [sgM_11]; exact k127
          · rw [sgM_o (by first | decide | omega)]; exact (e127 20 0 (by first | decide | omega)).trans (y15)
          · intro z; rw [sgM_11] at z; exact absurd z (by decide)
        · obtain ⟨y7, y9, y11, y15, y13⟩ := hS.2.2 1 hc9
          refine ⟨?_, ?_, ?_, ?_, ?_⟩
          · rw [sgM_o (by first | decide | omega)]; exact (e127 17 1 (by first | decide | omega)).trans (y7)
          · rw [sgM_o (by first | decide | omega)]; exact (e127 18 1 (by first | decide | omega)).trans (y9)
          · rw [sgM_o (by first | decide | omega)]; exact (e127 19 1 (by first | decide | omega)).trans (y11)
          · rw [sgM_o (by first | decide | omega)]; exact (e127 20 1 (by first | decide | omega)).trans (y15)
          · intro z
            rw [sgM_o (by first | decide | omega)] at z
            rw [sgM_o (by first | decide | omega)]; exact (e127 21 1 (by first | decide | omega)).trans (y13 z)
    · refine gx_2f (c := .eq) rfl (by first | decide | omega) (by first | decide | omega) hc26 rfl ?_
      refine ex_go (S := (33, [(0, gx_r 15), (1, gx_r 257), (2, .inl 0)], [.inl 0], t0, n, 0)) rfl (fun _ => rfl) rfl ?_
      refine ex_ret (r := (some (.inl 0), t0, n, 0)) rfl (fun _ => rfl) ?_
      exact ⟨_, rfl, 0, t0, rfl, g0, (fun _ _ _ => rfl), by decide, (fun z => absurd z (by decide)), fun _ => ⟨fun z => by rw [hml] at z; omega, rfl⟩⟩
theorem sc_sled15_257_1 (d n : Nat) {t0 : en_H} {w : Nat → Nat → Nat} {L : List Nat} {σ : Nat → Nat} (g0 : ai_HG ah_G t0) (hC : CW t0 257 w L) (hw : WS w) (hb : sbd σ) (hS : SC t0 15 (w 0 2) (w 0 4) σ) (hc : 1 < w 0 4) : ∃ r, en_u (d + 1) 172 [gx_r 15, gx_r 257, .inl 1] t0 n = some r ∧ r = (some (.inl (slp w σ 1)), t0, n, 0) := by
  have hS9 := hS
  have hb9 := hb
  obtain ⟨hb1, ⟨hb7, hb8⟩, ⟨hb11, hb12⟩, ⟨hb13, hb14⟩, ⟨hb15, hb16⟩, hb0, hbo9, hb10⟩ := hb9
  have hT := hw.1.2.2.1
  have hK := hw.1.2.2.2.2.1
  obtain ⟨x7_1, x9_1, x11_1, x15_1, x13_1⟩ := hS9.2.2 1 (by first | decide | omega)
  have x13_1 : σ 12 = 1 → ai_hv t0 21 1 = some (.inl (σ 14)) := x13_1
  have w3_1 := (hC.2.2.1 1 (by first | decide | omega)).1
  have hs1 := (hw.2.1 1 (by first | decide | omega)).1
  have hp1 := hb1 (w 3 1) (by first | decide | omega)
  have hsl : slp w σ 1 = if σ 12 = 1 then σ 14 else σ (1 + w 3 1) := rfl
  refine en_u_ex rfl ?_
  show en_ex _ _ _ _ (0, [(0, gx_r 15), (1, gx_r 257), (2, .inl 1)], [], t0, n, 0) _
  refine ex_go (S := (1, [(0, gx_r 15), (1, gx_r 257), (2, .inl 1)], [gx_r 15], t0, n, 0)) rfl (fun _ => rfl) rfl ?_
  refine gxo_ref (a := 15) (c := 19) rfl g0 rfl rfl rfl rfl rfl ?_
  refine ex_go (S := (5, [(0, gx_r 15), (1, gx_r 257), (2, .inl 1)], [.inl 1, gx_r 19], t0, n, 0)) rfl (fun _ => rfl) rfl ?_
  have k21 : ai_hv t0 19 1 = some (.inl (σ 12)) := x11_1
  refine gx_ag (v := .inl (σ 12)) (cb := fun c => Nat.beq c 2 || Nat.beq c 1) rfl (fun _ => rfl) g0 rfl rfl k21 (by first | decide | omega) rfl ?_
  by_cases hc22 : σ 12 = 0
  · refine gx_1t (c := .eq) rfl (by first | decide | omega) hc22 rfl ?_
    refine ex_go (S := (19, [(0, gx_r 15), (1, gx_r 257), (2, .inl 1)], [gx_r 15], t0, n, 0)) rfl (fun _ => rfl) rfl ?_
    refine gxo_ref (a := 15) (c := 16) rfl g0 rfl rfl rfl rfl rfl ?_
    refine ex_go (S := (23, [(0, gx_r 15), (1, gx_r 257), (2, .inl 1)], [gx_r 257, gx_r 16], t0, n, 0)) rfl (fun _ => rfl) rfl ?_
    refine gxo_ref (a := 257) (c := 272) rfl g0 rfl rfl rfl rfl rfl ?_
    refine gxo_ref (a := 272) (c := 274) rfl g0 rfl rfl rfl rfl rfl ?_
    refine ex_go (S := (30, [(0, gx_r 15), (1, gx_r 257), (2, .inl 1)], [.inl 1, gx_r 274, gx_r 16], t0, n, 0)) rfl (fun _ => rfl) rfl ?_
    have k23 : ai_hv t0 274 1 = some (.inl (w 3 1)) := w3_1
    refine gx_ag (v := .inl (w 3 1)) (cb := fun c => Nat.beq c 0) rfl (fun _ => rfl) g0 rfl rfl k23 (by first | decide | omega) rfl ?_
    have k24 : ai_hv t0 16 (w 3 1) = some (.inl (σ (1 + w 3 1))) := hS.2.1 _ (by first | decide | omega)
    refine gx_ag (v := .inl (σ (1 + w 3 1))) (cb := fun c => Nat.beq c 0) rfl (fun _ => rfl) g0 rfl rfl k24 (by first | decide | omega) rfl ?_
    refine ex_ret (r := (some (.inl (σ (1 + w 3 1))), t0, n, 0)) rfl (fun _ => rfl) ?_
    have e9 : slp w σ 1 = σ (1 + w 3 1) := by rw [hsl, if_neg (by first | decide | omega)]
    exact ⟨_, rfl, by rw [e9]⟩
  · refine gx_1f (c := .eq) rfl (by first | decide | omega) hc22 rfl ?_
    refine ex_go (S := (10, [(0, gx_r 15), (1, gx_r 257), (2, .inl 1)], [gx_r 15], t0, n, 0)) rfl (fun _ => rfl) rfl ?_
    refine gxo_ref (a := 15) (c := 21) rfl g0 rfl rfl rfl rfl rfl ?_
    refine ex_go (S := (14, [(0, gx_r 15), (1, gx_r 257), (2, .inl 1)], [.inl 1, gx_r 21], t0, n, 0)) rfl (fun _ => rfl) rfl ?_
    have k25 : ai_hv t0 21 1 = some (.inl (σ 14)) := x13_1 (by first | decide | omega)
    refine gx_ag (v := .inl (σ 14)) (cb := fun c => Nat.beq c 0) rfl (fun _ => rfl) g0 rfl rfl k25 (by first | decide | omega) rfl ?_
    refine ex_go (S := (32, [(0, gx_r 15), (1, gx_r 257), (2, .inl 1)], [.inl (σ 14)], t0, n, 0)) rfl (fun _ => rfl) rfl ?_
    refine ex_ret (r := (some (.inl (σ 14)), t0, n, 0)) rfl (fun _ => rfl) ?_
    have e9 : slp w σ 1 = σ 14 := by rw [hsl, if_pos (by first | decide | omega)]
    exact ⟨_, rfl, by rw [e9]⟩
theorem sc_hs15_257_1 (d n : Nat) {t0 : en_H} {w : Nat → Nat → Nat} {L : List Nat} {σ : Nat → Nat} {to : Nat} (g0 : ai_HG ah_G t0) (hC : CW t0 257 w L) (hw : WS w) (hb : sbd σ) (hS : SC t0 15 (w 0 2) (w 0 4) σ) (hX : CX t0 257 w) (hB : σ 0 ≤ 900000) (hc : 1 < w 0 4) (ht : to < 64) : ∃ r, en_u (d + 4) 200 [gx_r 15, gx_r 257, .inl 1, .inl to] t0 n = some r ∧ ∃ v t', r = (some (.inl v), t', n, 0) ∧ ai_HG ah_G t' ∧ (∀ c i, ¬ (c = 19 ∨ c = 20 ∨ c = 21) → ai_hv t' c i = ai_hv t0 c i) ∧ v ≤ 1 ∧ (v = 1 → mayH w σ 1 to ∧ SC t' 15 (w 0 2) (w 0 4) (sgH σ 1 to)) ∧ (v = 0 → ¬ mayH w σ 1 to ∧ t' = t0) := by
  have hsp := slp_lt hw hb hc
  have hS9 := hS
  have hb9 := hb
  obtain ⟨hb1, ⟨hb7, hb8⟩, ⟨hb11, hb12⟩, ⟨hb13, hb14⟩, ⟨hb15, hb16⟩, hb0, hbo9, hb10⟩ := hb9
  have hT := hw.1.2.2.1
  have hK := hw.1.2.2.2.2.1
  obtain ⟨x7_1, x9_1, x11_1, x15_1, x13_1⟩ := hS9.2.2 1 (by first | decide | omega)
  have x13_1 : σ 12 = 1 → ai_hv t0 21 1 = some (.inl (σ 14)) := x13_1
  have w3_1 := (hC.2.2.1 1 (by first | decide | omega)).1
  have hs1 := (hw.2.1 1 (by first | decide | omega)).1
  have hp1 := hb1 (w 3 1) (by first | decide | omega)
  refine en_u_ex (d := d + 3) rfl ?_
  show en_ex _ _ _ _ (0, [(0, gx_r 15), (1, gx_r 257), (2, .inl 1), (3, .inl to)], [], t0, n, 0) _
  refine ex_go (S := (1, [(0, gx_r 15), (1, gx_r 257), (2, .inl 1), (3, .inl to)], [gx_r 15], t0, n, 0)) rfl (fun _ => rfl) rfl ?_
  refine ex_go (S := (2, [(0, gx_r 15), (1, gx_r 257), (2, .inl 1), (3, .inl to)], [gx_r 257, gx_r 15], t0, n, 0)) rfl (fun _ => rfl) rfl ?_
  refine ex_go (S := (3, [(0, gx_r 15), (1, gx_r 257), (2, .inl 1), (3, .inl to)], [.inl 1, gx_r 257, gx_r 15], t0, n, 0)) rfl (fun _ => rfl) rfl ?_
  obtain ⟨_, r21, rfl⟩ := sc_sled15_257_1 (d + 2) n g0 hC hw hb hS hc
  refine gx_callo (a := 15) rfl rfl g0 rfl rfl rfl r21 rfl ?_
  show en_ex _ _ _ _ (6, [(0, gx_r 15), (1, gx_r 257), (2, .inl 1), (3, .inl to)], [.inl (slp w σ 1)], t0, n, 0) _
  refine ex_go (S := (8, [(4, .inl (slp w σ 1)), (0, gx_r 15), (1, gx_r 257), (2, .inl 1), (3, .inl to)], [], t0, n, 0)) rfl (fun _ => rfl) rfl ?_
  refine ex_go (S := (9, [(4, .inl (slp w σ 1)), (0, gx_r 15), (1, gx_r 257), (2, .inl 1), (3, .inl to)], [gx_r 15], t0, n, 0)) rfl (fun _ => rfl) rfl ?_
  refine gxo_ref (a := 15) (c := 20) rfl g0 rfl rfl rfl rfl rfl ?_
  refine ex_go (S := (13, [(4, .inl (slp w σ 1)), (0, gx_r 15), (1, gx_r 257), (2, .inl 1), (3, .inl to)], [.inl 1, gx_r 20], t0, n, 0)) rfl (fun _ => rfl) rfl ?_
  have k22 : ai_hv t0 20 1 = some (.inl (σ 16)) := x15_1
  refine gx_ag (v := .inl (σ 16)) (cb := fun c => Nat.beq c 2 || Nat.beq c 1) rfl (fun _ => rfl) g0 rfl rfl k22 (by first | decide | omega) rfl ?_
  by_cases hc23 : σ 16 ≠ 0
  · refine gx_1t (c := .ne) rfl (by first | decide | omega) hc23 rfl ?_
    refine ex_go (S := (44, [(4, .inl (slp w σ 1)), (0, gx_r 15), (1, gx_r 257), (2, .inl 1), (3, .inl to)], [.inl 0], t0, n, 0)) rfl (fun _ => rfl) rfl ?_
    refine ex_ret (r := (some (.inl 0), t0, n, 0)) rfl (fun _ => rfl) ?_
    exact ⟨_, rfl, 0, t0, rfl, g0, (fun _ _ _ => rfl), by decide, (fun z => absurd z (by decide)), fun _ => ⟨fun z => by
      obtain ⟨z1, z2, -⟩ := z
      have z1 : ¬ σ 16 = 1 := z1
      omega, rfl⟩⟩
  · refine gx_1f (c := .ne) rfl (by first | decide | omega) hc23 rfl ?_
    refine ex_go (S := (18, [(4, .inl (slp w σ 1)), (0, gx_r 15), (1, gx_r 257), (2, .inl 1), (3, .inl to)], [.inl to], t0, n, 0)) rfl (fun _ => rfl) rfl ?_
    refine ex_go (S := (20, [(4, .inl (slp w σ 1)), (0, gx_r 15), (1, gx_r 257), (2, .inl 1), (3, .inl to)], [.inl (slp w σ 1), .inl to], t0, n, 0)) rfl (fun _ => rfl) rfl ?_
    by_cases hc24 : to = slp w σ 1
    · refine gx_2t (c := .eq) rfl (by first | decide | omega) (by first | decide | omega) hc24 rfl ?_
      refine ex_go (S := (44, [(4, .inl (slp w σ 1)), (0, gx_r 15), (1, gx_r 257), (2, .inl 1), (3, .inl to)], [.inl 0], t0, n, 0)) rfl (fun _ => rfl) rfl ?_
      refine ex_ret (r := (some (.inl 0), t0, n, 0)) rfl (fun _ => rfl) ?_
      exact ⟨_, rfl, 0, t0, rfl, g0, (fun _ _ _ => rfl), by decide, (fun z => absurd z (by decide)), fun _ => ⟨fun z => by
        obtain ⟨z1, z2, -⟩ := z
        have z1 : ¬ σ 16 = 1 := z1
        omega, rfl⟩⟩
    · refine gx_2f (c := .eq) rfl (by first | decide | omega) (by first | decide | omega) hc24 rfl ?_
      refine ex_go (S := (24, [(4, .inl (slp w σ 1)), (0, gx_r 15), (1, gx_r 257), (2, .inl 1), (3, .inl to)], [gx_r 257], t0, n, 0)) rfl (fun _ => rfl) rfl ?_
      refine ex_go (S := (26, [(4, .inl (slp w σ 1)), (0, gx_r 15), (1, gx_r 257), (2, .inl 1), (3, .inl to)], [.inl (slp w σ 1), gx_r 257], t0, n, 0)) rfl (fun _ => rfl) rfl ?_
      obtain ⟨_, r25, rfl⟩ := pz_bit (d + 2) n (t0 := t0) (x := slp w σ 1) (by first | decide | omega)
      refine ex_stat rfl rfl rfl rfl rfl r25 (Nat.le_refl _) rfl ?_
      show en_ex _ _ _ _ (29, [(4, .inl (slp w σ 1)), (0, gx_r 15), (1, gx_r 257), (2, .inl 1), (3, .inl to)], [.inr (.inl (2 ^ (slp w σ 1))), gx_r 257], t0, n, 0) _
      refine ex_go (S := (30, [(4, .inl (slp w σ 1)), (0, gx_r 15), (1, gx_r 257), (2, .inl 1), (3, .inl to)], [gx_r 15, .inr (.inl (2 ^ (slp w σ 1))), gx_r 257], t0, n, 0)) rfl (fun _ => rfl) rfl ?_
      refine gxo_get (a := 15) rfl g0 rfl rfl hS.1 rfl ?_
      obtain ⟨_, r1, y, rfl, hy⟩ := sc_hauled257 d n (H := fun q => decide (q = slp w σ 1)) (s := σ 0) (x := 2 ^ slp w σ 1) g0 hC hX hw (by first | decide | omega) (bts_mk (sz_two hsp) (fun j hj => by rw [Nat.testBit_two_pow, decide_eq_decide]; exact eq_comm))
      refine gx_callo (a := 257) rfl rfl g0 rfl rfl rfl r1 rfl ?_
      show en_ex _ _ _ _ (36, [(4, .inl (slp w σ 1)), (0, gx_r 15), (1, gx_r 257), (2, .inl 1), (3, .inl to)], [.inr (.inl y)], t0, n, 0) _
      refine ex_go (S := (37, [(4, .inl (slp w σ 1)), (0, gx_r 15), (1, gx_r 257), (2, .inl 1), (3, .inl to)], [.inl to, .inr (.inl y)], t0, n, 0)) rfl (fun _ => rfl) rfl ?_
      obtain ⟨_, r26, rfl⟩ := pz_has (d + 1) n (t0 := t0) (x := y) (k := to) hy.1 ht
      have hbt := bts_at hy ht
      have hbv := bv_le (b := y.testBit to)
      refine ex_stat rfl rfl rfl rfl rfl r26 (Nat.le_refl _) rfl ?_
      show en_ex _ _ _ _ (40, [(4, .inl (slp w σ 1)), (0, gx_r 15), (1, gx_r 257), (2, .inl 1), (3, .inl to)], [.inl (bv (y.testBit to))], t0, n, 0) _
      by_cases hc27 : bv (y.testBit to) ≠ 0
      · refine gx_1t (c := .ne) rfl (by first | decide | omega) hc27 rfl ?_
        refine ex_go (S := (46, [(4, .inl (slp w σ 1)), (0, gx_r 15), (1, gx_r 257), (2, .inl 1), (3, .inl to)], [gx_r 15], t0, n, 0)) rfl (fun _ => rfl) rfl ?_
        refine gxo_ref (a := 15) (c := 19) rfl g0 rfl rfl rfl rfl rfl ?_
        refine ex_go (S := (50, [(4, .inl (slp w σ 1)), (0, gx_r 15), (1, gx_r 257), (2, .inl 1), (3, .inl to)], [.inl 1, gx_r 19], t0, n, 0)) rfl (fun _ => rfl) rfl ?_
        refine ex_go (S := (51, [(4, .inl (slp w σ 1)), (0, gx_r 15), (1, gx_r 257), (2, .inl 1), (3, .inl to)], [.inl 1, .inl 1, gx_r 19], t0, n, 0)) rfl (fun _ => rfl) rfl ?_
        refine gx_apv (d := 2) rfl (fun _ => rfl) g0 rfl rfl rfl (show 1 < 2 from by omega) rfl (ai_in_h (by first | decide | omega) (by first | decide | omega) (by first | decide | omega)) rfl (fun t128 g128 k128 e128 => ?_)
        have k29 : ai_hv t128 15 0 = some (.inl (σ 0)) := (e128 15 0 (by first | decide | omega)).trans hS.1
        have k30 : ai_hv t128 20 1 = some (.inl (σ 16)) := (e128 20 1 (by first | decide | omega)).trans k22
        refine ex_go (S := (53, [(4, .inl (slp w σ 1)), (0, gx_r 15), (1, gx_r 257), (2, .inl 1), (3, .inl to)], [gx_r 15], t128, n, 0)) rfl (fun _ => rfl) rfl ?_
        refine gxo_ref (a := 15) (c := 20) rfl g128 rfl rfl rfl rfl rfl ?_
        refine ex_go (S := (57, [(4, .inl (slp w σ 1)), (0, gx_r 15), (1, gx_r 257), (2, .inl 1), (3, .inl to)], [.inl 1, gx_r 20], t128, n, 0)) rfl (fun _ => rfl) rfl ?_
        refine ex_go (S := (58, [(4, .inl (slp w σ 1)), (0, gx_r 15), (1, gx_r 257), (2, .inl 1), (3, .inl to)], [.inl 1, .inl 1, gx_r 20], t128, n, 0)) rfl (fun _ => rfl) rfl ?_
        refine gx_apv (d := 2) rfl (fun _ => rfl) g128 rfl rfl rfl (show 1 < 2 from by omega) rfl (ai_in_h (by first | decide | omega) (by first | decide | omega) (by first | decide | omega)) rfl (fun t131 g131 k131 e131 => ?_)
        have k32 : ai_hv t131 15 0 = some (.inl (σ 0)) := (e131 15 0 (by first | decide | omega)).trans k29
        have k33 : ai_hv t131 19 1 = some (.inl 1) := (e131 19 1 (by first | decide | omega)).trans k128
        refine ex_go (S := (60, [(4, .inl (slp w σ 1)), (0, gx_r 15), (1, gx_r 257), (2, .inl 1), (3, .inl to)], [gx_r 15], t131, n, 0)) rfl (fun _ => rfl) rfl ?_
        refine gxo_ref (a := 15) (c := 21) rfl g131 rfl rfl rfl rfl rfl ?_
        refine ex_go (S := (64, [(4, .inl (slp w σ 1)), (0, gx_r 15), (1, gx_r 257), (2, .inl 1), (3, .inl to)], [.inl 1, gx_r 21], t131, n, 0)) rfl (fun _ => rfl) rfl ?_
        refine ex_go (S := (65, [(4, .inl (slp w σ 1)), (0, gx_r 15), (1, gx_r 257), (2, .inl 1), (3, .inl to)], [.inl to, .inl 1, gx_r 21], t131, n, 0)) rfl (fun _ => rfl) rfl ?_
        refine gx_ap rfl (fun _ => rfl) g131 rfl rfl rfl (show 1 < 2 from by omega) rfl (ai_in_h (by first | decide | omega) (by first | decide | omega) (by first | decide | omega)) rfl (fun t134 g134 k134 e134 => ?_)
        have k35 : ai_hv t134 15 0 = some (.inl (σ 0)) := (e134 15 0 (by first | decide | omega)).trans k32
        have k36 : ai_hv t134 19 1 = some (.inl 1) := (e134 19 1 (by first | decide | omega)).trans k33
        have k37 : ai_hv t134 20 1 = some (.inl 1) := (e134 20 1 (by first | decide | omega)).trans k131
        refine ex_go (S := (67, [(4, .inl (slp w σ 1)), (0, gx_r 15), (1, gx_r 257), (2, .inl 1), (3, .inl to)], [.inl 1], t134, n, 0)) rfl (fun _ => rfl) rfl ?_
        refine ex_ret (r := (some (.inl 1), t134, n, 0)) rfl (fun _ => rfl) ?_
        refine ⟨_, rfl, 1, t134, rfl, g134, (fun c i h => (e134 c i (by first | decide | omega)).trans ((e131 c i (by first | decide | omega)).trans (e128 c i (by first | decide | omega)))), by decide, (fun _ => ⟨⟨?_, ?_, ?_⟩, ?_⟩), fun z => absurd z (by decide)⟩
        · show ¬ σ 16 = 1
          omega
        · omega
        · rw [← hbt]; exact bv_1 (by first | decide | omega)
        · refine ⟨?_, fun i hi => ?_, fun c9 hc9 => ?_⟩
          · rw [sgH_o (by first | decide | omega) (by first | decide | omega) (by first | decide | omega)]; exact ((e134 15 0 (by first | decide | omega)).trans ((e131 15 0 (by first | decide | omega)).trans (e128 15 0 (by first | decide | omega)))).trans (hS.1)
          · rw [sgH_o (by first | decide | omega) (by first | decide | omega) (by first | decide | omega)]; exact ((e134 16 i (by first | decide | omega)).trans ((e131 16 i (by first | decide | omega)).trans (e128 16 i (by first | decide | omega)))).trans (hS.2.1 i hi)
          · rcases (show c9 = 0 ∨ c9 = 1 by omega) with rfl | rfl
            · obtain ⟨y7, y9, y11, y15, y13⟩ := hS.2.2 0 hc9
              refine ⟨?_, ?_, ?_, ?_, ?_⟩
              · rw [sgH_o (by first | decide | omega) (by first | decide | omega) (by first | decide | omega)]; exact ((e134 17 0 (by first | decide | omega)).trans ((e131 17 0 (by first | decide | omega)).trans (e128 17 0 (by first | decide | omega)))).trans (y7)
              · rw [sgH_o (by first | decide | omega) (by first | decide | omega) (by first | decide | omega)]; exact ((e134 18 0 (by first | decide | omega)).trans ((e131 18 0 (by first | decide | omega)).trans (e128 18 0 (by first | decide | omega)))).trans (y9)
              · rw [sgH_o (by first | decide | omega) (by first | decide | omega) (by first | decide | omega)]; exact ((e134 19 0 (by first | decide | omega)).trans ((e131 19 0 (by first | decide | omega)).trans (e128 19 0 (by first | decide | omega)))).trans (y11)
              · rw [sgH_o (by first | decide | omega) (by first | decide | omega) (by first | decide | omega)]; exact ((e134 20 0 (by first | decide | omega)).trans ((e131 20 0 (by first | decide | omega)).trans (e128 20 0 (by first | decide | omega)))).trans (y15)
              · intro z
                rw [sgH_o (by first | decide | omega) (by first | decide | omega) (by first | decide | omega)] at z
                rw [sgH_o (by first | decide | omega) (by first | decide | omega) (by first | decide | omega)]; exact ((e134 21 0 (by first | decide | omega)).trans ((e131 21 0 (by first | decide | omega)).trans (e128 21 0 (by first | decide | omega)))).trans (y13 z)
            · obtain ⟨y7, y9, y11, y15, y13⟩ := hS.2.2 1 hc9
              refine ⟨?_, ?_, ?_, ?_, ?_⟩
              · rw [sgH_o (by first | decide | omega) (by first | decide | omega) (by first | decide | omega)]; exact ((e134 17 1 (by first | decide | omega)).trans ((e131 17 1 (by first | decide | omega)).trans (e128 17 1 (by first | decide | omega)))).trans (y7)
              · rw [sgH_o (by first | decide | omega) (by first | decide | omega) (by first | decide | omega)]; exact ((e134 18 1 (by first | decide | omega)).trans ((e131 18 1 (by first | decide | omega)).trans (e128 18 1 (by first | decide | omega)))).trans (y9)
              · rw [sgH_11]; exact k36
              · rw [sgH_15]; exact k37
              · intro _; rw [sgH_13]; exact k134
      · refine gx_1f (c := .ne) rfl (by first | decide | omega) hc27 rfl ?_
        refine ex_go (S := (44, [(4, .inl (slp w σ 1)), (0, gx_r 15), (1, gx_r 257), (2, .inl 1), (3, .inl to)], [.inl 0], t0, n, 0)) rfl (fun _ => rfl) rfl ?_
        refine ex_ret (r := (some (.inl 0), t0, n, 0)) rfl (fun _ => rfl) ?_
        exact ⟨_, rfl, 0, t0, rfl, g0, (fun _ _ _ => rfl), by decide, (fun z => absurd z (by decide)), fun _ => ⟨(fun z => by
          have h9 := bv_0 (b := y.testBit to) (by first | decide | omega)
          rw [hbt] at h9
          rw [z.2.2] at h9
          cases h9), rfl⟩⟩
theorem sc_lb15_257_1 (d n : Nat) {t0 : en_H} {w : Nat → Nat → Nat} {L : List Nat} {σ : Nat → Nat} {v : Nat} (g0 : ai_HG ah_G t0) (hC : CW t0 257 w L) (hw : WS w) (hb : sbd σ) (hS : SC t0 15 (w 0 2) (w 0 4) σ) (hsum : σ 7 + σ 8 ≤ 19998) (hc : 1 < w 0 4) (hv : v ≤ 999) : ∃ r, en_u (d + 2) 201 [gx_r 15, gx_r 257, .inl 1, .inl v] t0 n = some r ∧ ∃ y t', r = (some (.inl y), t', n, 0) ∧ ai_HG ah_G t' ∧ (∀ c i, ¬ (c = 17 ∨ c = 18) → ai_hv t' c i = ai_hv t0 c i) ∧ (mayL w σ 1 → y = lnv σ 1 v ∧ SC t' 15 (w 0 2) (w 0 4) (sgL σ 1 v)) ∧ (¬ mayL w σ 1 → y = 4294967295 ∧ t' = t0) := by
  have hml : mayL w σ 1 ↔ (w 0 4 = 2 ∧ σ 12 = 1 ∧ 0 < σ 8 ∧ σ 14 = σ (1 + w 3 0)) := Iff.rfl
  have hlv : lnv σ 1 v = min v (σ 8) := rfl
  by_cases h2 : w 0 4 = 2
  · have hS9 := hS
    have hb9 := hb
    obtain ⟨hb1, ⟨hb7, hb8⟩, ⟨hb11, hb12⟩, ⟨hb13, hb14⟩, ⟨hb15, hb16⟩, hb0, hbo9, hb10⟩ := hb9
    have hT := hw.1.2.2.1
    have hK := hw.1.2.2.2.2.1
    obtain ⟨x7_0, x9_0, x11_0, x15_0, x13_0⟩ := hS9.2.2 0 (by first | decide | omega)
    have x13_0 : σ 11 = 1 → ai_hv t0 21 0 = some (.inl (σ 13)) := x13_0
    have w3_0 := (hC.2.2.1 0 (by first | decide | omega)).1
    have hs0 := (hw.2.1 0 (by first | decide | omega)).1
    have hp0 := hb1 (w 3 0) (by first | decide | omega)
    obtain ⟨x7_1, x9_1, x11_1, x15_1, x13_1⟩ := hS9.2.2 1 (by first | decide | omega)
    have x13_1 : σ 12 = 1 → ai_hv t0 21 1 = some (.inl (σ 14)) := x13_1
    have w3_1 := (hC.2.2.1 1 (by first | decide | omega)).1
    have hs1 := (hw.2.1 1 (by first | decide | omega)).1
    have hp1 := hb1 (w 3 1) (by first | decide | omega)
    refine en_u_ex (d := d + 1) rfl ?_
    show en_ex _ _ _ _ (0, [(0, gx_r 15), (1, gx_r 257), (2, .inl 1), (3, .inl v)], [], t0, n, 0) _
    refine ex_go (S := (1, [(0, gx_r 15), (1, gx_r 257), (2, .inl 1), (3, .inl v)], [.inl 1], t0, n, 0)) rfl (fun _ => rfl) rfl ?_
    refine ex_go (S := (2, [(0, gx_r 15), (1, gx_r 257), (2, .inl 1), (3, .inl v)], [.inl 1, .inl 1], t0, n, 0)) rfl (fun _ => rfl) rfl ?_
    refine ex_go (S := (3, [(0, gx_r 15), (1, gx_r 257), (2, .inl 1), (3, .inl v)], [.inl 0], t0, n, 0)) rfl (fun _ => rfl) rfl ?_
    refine ex_go (S := (5, [(4, .inl 0), (0, gx_r 15), (1, gx_r 257), (2, .inl 1), (3, .inl v)], [], t0, n, 0)) rfl (fun _ => rfl) rfl ?_
    refine ex_go (S := (6, [(4, .inl 0), (0, gx_r 15), (1, gx_r 257), (2, .inl 1), (3, .inl v)], [gx_r 257], t0, n, 0)) rfl (fun _ => rfl) rfl ?_
    refine gxo_ref (a := 257) (c := 272) rfl g0 rfl rfl rfl rfl rfl ?_
    refine ex_go (S := (11, [(4, .inl 0), (0, gx_r 15), (1, gx_r 257), (2, .inl 1), (3, .inl v)], [.inl 0, gx_r 272], t0, n, 0)) rfl (fun _ => rfl) rfl ?_
    obtain ⟨_, r121, b121, rfl, hb121, hi121⟩ := pz_holds272 d n (x := 0) (K := w 0 4) g0 (by decide) hC.1.2.2.2.2.2 (by first | decide | omega)
    refine gx_callo (a := 272) rfl rfl g0 rfl rfl rfl r121 rfl ?_
    show en_ex _ _ _ _ (14, [(4, .inl 0), (0, gx_r 15), (1, gx_r 257), (2, .inl 1), (3, .inl v)], [.inl b121], t0, n, 0) _
    refine gx_1f (c := .eq) rfl (by first | decide | omega) (show ¬ (b121 = 0) from by omega) rfl ?_
    refine ex_go (S := (18, [(4, .inl 0), (0, gx_r 15), (1, gx_r 257), (2, .inl 1), (3, .inl v)], [gx_r 15], t0, n, 0)) rfl (fun _ => rfl) rfl ?_
    refine gxo_ref (a := 15) (c := 19) rfl g0 rfl rfl rfl rfl rfl ?_
    refine ex_go (S := (22, [(4, .inl 0), (0, gx_r 15), (1, gx_r 257), (2, .inl 1), (3, .inl v)], [.inl 1, gx_r 19], t0, n, 0)) rfl (fun _ => rfl) rfl ?_
    have k22 : ai_hv t0 19 1 = some (.inl (σ 12)) := x11_1
    refine gx_ag (v := .inl (σ 12)) (cb := fun c => Nat.beq c 2 || Nat.beq c 1) rfl (fun _ => rfl) g0 rfl rfl k22 (by first | decide | omega) rfl ?_
    by_cases hc23 : σ 12 = 0
    · refine gx_1t (c := .eq) rfl (by first | decide | omega) hc23 rfl ?_
      refine ex_go (S := (60, [(4, .inl 0), (0, gx_r 15), (1, gx_r 257), (2, .inl 1), (3, .inl v)], [.inl 4294967295], t0, n, 0)) rfl (fun _ => rfl) rfl ?_
      refine ex_ret (r := (some (.inl 4294967295), t0, n, 0)) rfl (fun _ => rfl) ?_
      exact ⟨_, rfl, _, t0, rfl, g0, (fun _ _ _ => rfl), (fun z => by rw [hml] at z; omega), fun _ => ⟨rfl, rfl⟩⟩
    · refine gx_1f (c := .eq) rfl (by first | decide | omega) hc23 rfl ?_
      refine ex_go (S := (27, [(4, .inl 0), (0, gx_r 15), (1, gx_r 257), (2, .inl 1), (3, .inl v)], [gx_r 15], t0, n, 0)) rfl (fun _ => rfl) rfl ?_
      refine gxo_ref (a := 15) (c := 17) rfl g0 rfl rfl rfl rfl rfl ?_
      refine ex_go (S := (31, [(4, .inl 0), (0, gx_r 15), (1, gx_r 257), (2, .inl 1), (3, .inl v)], [.inl 1, gx_r 17], t0, n, 0)) rfl (fun _ => rfl) rfl ?_
      have k24 : ai_hv t0 17 1 = some (.inl (σ 8)) := x7_1
      refine gx_ag (v := .inl (σ 8)) (cb := fun c => Nat.beq c 0) rfl (fun _ => rfl) g0 rfl rfl k24 (by first | decide | omega) rfl ?_
      by_cases hc25 : σ 8 = 0
      · refine gx_1t (c := .eq) rfl (by first | decide | omega) hc25 rfl ?_
        refine ex_go (S := (60, [(4, .inl 0), (0, gx_r 15), (1, gx_r 257), (2, .inl 1), (3, .inl v)], [.inl 4294967295], t0, n, 0)) rfl (fun _ => rfl) rfl ?_
        refine ex_ret (r := (some (.inl 4294967295), t0, n, 0)) rfl (fun _ => rfl) ?_
        exact ⟨_, rfl, _, t0, rfl, g0, (fun _ _ _ => rfl), (fun z => by rw [hml] at z; omega), fun _ => ⟨rfl, rfl⟩⟩
      · refine gx_1f (c := .eq) rfl (by first | decide | omega) hc25 rfl ?_
        refine ex_go (S := (36, [(4, .inl 0), (0, gx_r 15), (1, gx_r 257), (2, .inl 1), (3, .inl v)], [gx_r 15], t0, n, 0)) rfl (fun _ => rfl) rfl ?_
        refine gxo_ref (a := 15) (c := 21) rfl g0 rfl rfl rfl rfl rfl ?_
        refine ex_go (S := (40, [(4, .inl 0), (0, gx_r 15), (1, gx_r 257), (2, .inl 1), (3, .inl v)], [.inl 1, gx_r 21], t0, n, 0)) rfl (fun _ => rfl) rfl ?_
        have k26 : ai_hv t0 21 1 = some (.inl (σ 14)) := x13_1 (by first | decide | omega)
        refine gx_ag (v := .inl (σ 14)) (cb := fun c => Nat.beq c 0) rfl (fun _ => rfl) g0 rfl rfl k26 (by first | decide | omega) rfl ?_
        refine ex_go (S := (42, [(4, .inl 0), (0, gx_r 15), (1, gx_r 257), (2, .inl 1), (3, .inl v)], [gx_r 15, .inl (σ 14)], t0, n, 0)) rfl (fun _ => rfl) rfl ?_
        refine gxo_ref (a := 15) (c := 16) rfl g0 rfl rfl rfl rfl rfl ?_
        refine ex_go (S := (46, [(4, .inl 0), (0, gx_r 15), (1, gx_r 257), (2, .inl 1), (3, .inl v)], [gx_r 257, gx_r 16, .inl (σ 14)], t0, n, 0)) rfl (fun _ => rfl) rfl ?_
        refine gxo_ref (a := 257) (c := 272) rfl g0 rfl rfl rfl rfl rfl ?_
        refine gxo_ref (a := 272) (c := 274) rfl g0 rfl rfl rfl rfl rfl ?_
        refine ex_go (S := (54, [(4, .inl 0), (0, gx_r 15), (1, gx_r 257), (2, .inl 1), (3, .inl v)], [.inl 0, gx_r 274, gx_r 16, .inl (σ 14)], t0, n, 0)) rfl (fun _ => rfl) rfl ?_
        have k27 : ai_hv t0 274 0 = some (.inl (w 3 0)) := w3_0
        refine gx_ag (v := .inl (w 3 0)) (cb := fun c => Nat.beq c 0) rfl (fun _ => rfl) g0 rfl rfl k27 (by first | decide | omega) rfl ?_
        have k28 : ai_hv t0 16 (w 3 0) = some (.inl (σ (1 + w 3 0))) := hS.2.1 _ (by first | decide | omega)
        refine gx_ag (v := .inl (σ (1 + w 3 0))) (cb := fun c => Nat.beq c 0) rfl (fun _ => rfl) g0 rfl rfl k28 (by first | decide | omega) rfl ?_
        by_cases hc29 : σ 14 = σ (1 + w 3 0)
        · refine gx_2t (c := .eq) rfl (by first | decide | omega) (by first | decide | omega) hc29 rfl ?_
          refine ex_go (S := (62, [(4, .inl 0), (0, gx_r 15), (1, gx_r 257), (2, .inl 1), (3, .inl v)], [.inl v], t0, n, 0)) rfl (fun _ => rfl) rfl ?_
          refine ex_go (S := (63, [(4, .inl 0), (0, gx_r 15), (1, gx_r 257), (2, .inl 1), (3, .inl v)], [gx_r 15, .inl v], t0, n, 0)) rfl (fun _ => rfl) rfl ?_
          refine gxo_ref (a := 15) (c := 17) rfl g0 rfl rfl rfl rfl rfl ?_
          refine ex_go (S := (67, [(4, .inl 0), (0, gx_r 15), (1, gx_r 257), (2, .inl 1), (3, .inl v)], [.inl 1, gx_r 17, .inl v], t0, n, 0)) rfl (fun _ => rfl) rfl ?_
          refine gx_ag (v := .inl (σ 8)) (cb := fun c => Nat.beq c 0) rfl (fun _ => rfl) g0 rfl rfl k24 (by first | decide | omega) rfl ?_
          refine gx_inn rfl rfl rfl (zk_min (by first | decide | omega) (by first | decide | omega)) rfl rfl ?_
          refine ex_go (S := (73, [(5, .inl (min v (σ 8))), (4, .inl 0), (0, gx_r 15), (1, gx_r 257), (2, .inl 1), (3, .inl v)], [], t0, n, 0)) rfl (fun _ => rfl) rfl ?_
          refine ex_go (S := (74, [(5, .inl (min v (σ 8))), (4, .inl 0), (0, gx_r 15), (1, gx_r 257), (2, .inl 1), (3, .inl v)], [gx_r 15], t0, n, 0)) rfl (fun _ => rfl) rfl ?_
          refine gxo_ref (a := 15) (c := 17) rfl g0 rfl rfl rfl rfl rfl ?_
          refine ex_go (S := (78, [(5, .inl (min v (σ 8))), (4, .inl 0), (0, gx_r 15), (1, gx_r 257), (2, .inl 1), (3, .inl v)], [.inl 1, gx_r 17], t0, n, 0)) rfl (fun _ => rfl) rfl ?_
          refine ex_go (S := (79, [(5, .inl (min v (σ 8))), (4, .inl 0), (0, gx_r 15), (1, gx_r 257), (2, .inl 1), (3, .inl v)], [.inl 1, gx_r 17, .inl 1, gx_r 17], t0, n, 0)) rfl (fun _ => rfl) rfl ?_
          refine gx_ag (v := .inl (σ 8)) (cb := fun c => Nat.beq c 0) rfl (fun _ => rfl) g0 rfl rfl k24 (by first | decide | omega) rfl ?_
          refine ex_go (S := (82, [(5, .inl (min v (σ 8))), (4, .inl 0), (0, gx_r 15), (1, gx_r 257), (2, .inl 1), (3, .inl v)], [.inl (min v (σ 8)), .inl (σ 8), .inl 1, gx_r 17], t0, n, 0)) rfl (fun _ => rfl) rfl ?_
          refine gx_isub rfl (by first | decide | omega) (by first | decide | omega) rfl ?_
          refine gx_ap rfl (fun _ => rfl) g0 rfl rfl rfl (show 1 < 2 from by omega) rfl (gx_full (by first | decide | omega)) rfl (fun t130 g130 k130 e130 => ?_)
          have k31 : ai_hv t130 19 1 = some (.inl (σ 12)) := (e130 19 1 (by first | decide | omega)).trans k22
          have k32 : ai_hv t130 21 1 = some (.inl (σ 14)) := (e130 21 1 (by first | decide | omega)).trans k26
          have k33 : ai_hv t130 274 0 = some (.inl (w 3 0)) := (e130 274 0 (by first | decide | omega)).trans k27
          have k34 : ai_hv t130 16 (w 3 0) = some (.inl (σ (1 + w 3 0))) := (e130 16 (w 3 0) (by first | decide | omega)).trans k28
          refine ex_go (S := (85, [(5, .inl (min v (σ 8))), (4, .inl 0), (0, gx_r 15), (1, gx_r 257), (2, .inl 1), (3, .inl v)], [gx_r 15], t130, n, 0)) rfl (fun _ => rfl) rfl ?_
          refine gxo_ref (a := 15) (c := 17) rfl g130 rfl rfl rfl rfl rfl ?_
          refine ex_go (S := (90, [(5, .inl (min v (σ 8))), (4, .inl 0), (0, gx_r 15), (1, gx_r 257), (2, .inl 1), (3, .inl v)], [.inl 0, gx_r 17], t130, n, 0)) rfl (fun _ => rfl) rfl ?_
          refine ex_go (S := (91, [(5, .inl (min v (σ 8))), (4, .inl 0), (0, gx_r 15), (1, gx_r 257), (2, .inl 1), (3, .inl v)], [.inl 0, gx_r 17, .inl 0, gx_r 17], t130, n, 0)) rfl (fun _ => rfl) rfl ?_
          have k35 : ai_hv t130 17 0 = some (.inl (σ 7)) := (e130 17 0 (by first | decide | omega)).trans (x7_0)
          refine gx_ag (v := .inl (σ 7)) (cb := fun c => Nat.beq c 0) rfl (fun _ => rfl) g130 rfl rfl k35 (by first | decide | omega) rfl ?_
          refine ex_go (S := (94, [(5, .inl (min v (σ 8))), (4, .inl 0), (0, gx_r 15), (1, gx_r 257), (2, .inl 1), (3, .inl v)], [.inl (min v (σ 8)), .inl (σ 7), .inl 0, gx_r 17], t130, n, 0)) rfl (fun _ => rfl) rfl ?_
          refine ex_iadd rfl (by first | decide | omega) rfl ?_
          refine gx_ap rfl (fun _ => rfl) g130 rfl rfl rfl (show 0 < 2 from by omega) rfl (gx_full (by first | decide | omega)) rfl (fun t136 g136 k136 e136 => ?_)
          have k37 : ai_hv t136 19 1 = some (.inl (σ 12)) := (e136 19 1 (by first | decide | omega)).trans k31
          have k38 : ai_hv t136 21 1 = some (.inl (σ 14)) := (e136 21 1 (by first | decide | omega)).trans k32
          have k39 : ai_hv t136 274 0 = some (.inl (w 3 0)) := (e136 274 0 (by first | decide | omega)).trans k33
          have k40 : ai_hv t136 16 (w 3 0) = some (.inl (σ (1 + w 3 0))) := (e136 16 (w 3 0) (by first | decide | omega)).trans k34
          have k41 : ai_hv t136 17 1 = some (.inl ((σ 8) - (min v (σ 8)))) := (e136 17 1 (by first | decide | omega)).trans k130
          refine ex_go (S := (97, [(5, .inl (min v (σ 8))), (4, .inl 0), (0, gx_r 15), (1, gx_r 257), (2, .inl 1), (3, .inl v)], [gx_r 15], t136, n, 0)) rfl (fun _ => rfl) rfl ?_
          refine gxo_ref (a := 15) (c := 18) rfl g136 rfl rfl rfl rfl rfl ?_
          refine ex_go (S := (101, [(5, .inl (min v (σ 8))), (4, .inl 0), (0, gx_r 15), (1, gx_r 257), (2, .inl 1), (3, .inl v)], [.inl 1, gx_r 18], t136, n, 0)) rfl (fun _ => rfl) rfl ?_
          refine ex_go (S := (102, [(5, .inl (min v (σ 8))), (4, .inl 0), (0, gx_r 15), (1, gx_r 257), (2, .inl 1), (3, .inl v)], [.inl 1, gx_r 18, .inl 1, gx_r 18], t136, n, 0)) rfl (fun _ => rfl) rfl ?_
          have k42 : ai_hv t136 18 1 = some (.inl (σ 10)) := ((e136 18 1 (by first | decide | omega)).trans (e130 18 1 (by first | decide | omega))).trans (x9_1)
          refine gx_ag (v := .inl (σ 10)) (cb := fun c => Nat.beq c 0) rfl (fun _ => rfl) g136 rfl rfl k42 (by first | decide | omega) rfl ?_
          refine ex_go (S := (105, [(5, .inl (min v (σ 8))), (4, .inl 0), (0, gx_r 15), (1, gx_r 257), (2, .inl 1), (3, .inl v)], [.inl (min v (σ 8)), .inl (σ 10), .inl 1, gx_r 18], t136, n, 0)) rfl (fun _ => rfl) rfl ?_
          have hw43 : en_wrap ((σ 10) + (min v (σ 8))) < 4294967296 := wrap_lt
          refine gs_iaddx rfl rfl ?_
          refine gx_ap rfl (fun _ => rfl) g136 rfl rfl rfl (show 1 < 2 from by omega) rfl (gx_full (by first | decide | omega)) rfl (fun t144 g144 k144 e144 => ?_)
          have k45 : ai_hv t144 19 1 = some (.inl (σ 12)) := (e144 19 1 (by first | decide | omega)).trans k37
          have k46 : ai_hv t144 21 1 = some (.inl (σ 14)) := (e144 21 1 (by first | decide | omega)).trans k38
          have k47 : ai_hv t144 274 0 = some (.inl (w 3 0)) := (e144 274 0 (by first | decide | omega)).trans k39
          have k48 : ai_hv t144 16 (w 3 0) = some (.inl (σ (1 + w 3 0))) := (e144 16 (w 3 0) (by first | decide | omega)).trans k40
          have k49 : ai_hv t144 17 1 = some (.inl ((σ 8) - (min v (σ 8)))) := (e144 17 1 (by first | decide | omega)).trans k41
          have k50 : ai_hv t144 17 0 = some (.inl ((σ 7) + (min v (σ 8)))) := (e144 17 0 (by first | decide | omega)).trans k136
          refine ex_go (S := (108, [(5, .inl (min v (σ 8))), (4, .inl 0), (0, gx_r 15), (1, gx_r 257), (2, .inl 1), (3, .inl v)], [gx_r 15], t144, n, 0)) rfl (fun _ => rfl) rfl ?_
          refine gxo_ref (a := 15) (c := 18) rfl g144 rfl rfl rfl rfl rfl ?_
          refine ex_go (S := (113, [(5, .inl (min v (σ 8))), (4, .inl 0), (0, gx_r 15), (1, gx_r 257), (2, .inl 1), (3, .inl v)], [.inl 0, gx_r 18], t144, n, 0)) rfl (fun _ => rfl) rfl ?_
          refine ex_go (S := (114, [(5, .inl (min v (σ 8))), (4, .inl 0), (0, gx_r 15), (1, gx_r 257), (2, .inl 1), (3, .inl v)], [.inl 0, gx_r 18, .inl 0, gx_r 18], t144, n, 0)) rfl (fun _ => rfl) rfl ?_
          have k51 : ai_hv t144 18 0 = some (.inl (σ 9)) := ((e144 18 0 (by first | decide | omega)).trans ((e136 18 0 (by first | decide | omega)).trans (e130 18 0 (by first | decide | omega)))).trans (x9_0)
          refine gx_ag (v := .inl (σ 9)) (cb := fun c => Nat.beq c 0) rfl (fun _ => rfl) g144 rfl rfl k51 (by first | decide | omega) rfl ?_
          refine ex_go (S := (117, [(5, .inl (min v (σ 8))), (4, .inl 0), (0, gx_r 15), (1, gx_r 257), (2, .inl 1), (3, .inl v)], [.inl (min v (σ 8)), .inl (σ 9), .inl 0, gx_r 18], t144, n, 0)) rfl (fun _ => rfl) rfl ?_
          have hw52 : isb (σ 9) (min v (σ 8)) < 4294967296 := isb_lt
          refine gx_isbx rfl rfl ?_
          refine gx_ap rfl (fun _ => rfl) g144 rfl rfl rfl (show 0 < 2 from by omega) rfl (gx_full (by first | decide | omega)) rfl (fun t153 g153 k153 e153 => ?_)
          have k54 : ai_hv t153 19 1 = some (.inl (σ 12)) := (e153 19 1 (by first | decide | omega)).trans k45
          have k55 : ai_hv t153 21 1 = some (.inl (σ 14)) := (e153 21 1 (by first | decide | omega)).trans k46
          have k56 : ai_hv t153 274 0 = some (.inl (w 3 0)) := (e153 274 0 (by first | decide | omega)).trans k47
          have k57 : ai_hv t153 16 (w 3 0) = some (.inl (σ (1 + w 3 0))) := (e153 16 (w 3 0) (by first | decide | omega)).trans k48
          have k58 : ai_hv t153 17 1 = some (.inl ((σ 8) - (min v (σ 8)))) := (e153 17 1 (by first | decide | omega)).trans k49
          have k59 : ai_hv t153 17 0 = some (.inl ((σ 7) + (min v (σ 8)))) := (e153 17 0 (by first | decide | omega)).trans k50
          have k60 : ai_hv t153 18 1 = some (.inl (en_wrap ((σ 10) + (min v (σ 8))))) := (e153 18 1 (by first | decide | omega)).trans k144
          refine ex_go (S := (121, [(5, .inl (min v (σ 8))), (4, .inl 0), (0, gx_r 15), (1, gx_r 257), (2, .inl 1), (3, .inl v)], [.inl (min v (σ 8))], t153, n, 0)) rfl (fun _ => rfl) rfl ?_
          refine ex_ret (r := (some (.inl (min v (σ 8))), t153, n, 0)) rfl (fun _ => rfl) ?_
          have hl9 : lnv σ 1 v = min v (σ 8) := by omega
          refine ⟨_, rfl, _, t153, rfl, g153, (fun c i h => (e153 c i (by first | decide | omega)).trans ((e144 c i (by first | decide | omega)).trans ((e136 c i (by first | decide | omega)).trans (e130 c i (by first | decide | omega))))), (fun _ => ⟨hl9.symm, ?_⟩), fun z => absurd (by rw [hml]; omega) z⟩
          refine ⟨?_, fun i hi => ?_, fun c9 hc9 => ?_⟩
          · rw [sgL_o (by first | decide | omega) (by first | decide | omega) (by first | decide | omega) (by first | decide | omega)]; exact ((e153 15 0 (by first | decide | omega)).trans ((e144 15 0 (by first | decide | omega)).trans ((e136 15 0 (by first | decide | omega)).trans (e130 15 0 (by first | decide | omega))))).trans (hS.1)
          · rw [sgL_o (by first | decide | omega) (by first | decide | omega) (by first | decide | omega) (by first | decide | omega)]; exact ((e153 16 i (by first | decide | omega)).trans ((e144 16 i (by first | decide | omega)).trans ((e136 16 i (by first | decide | omega)).trans (e130 16 i (by first | decide | omega))))).trans (hS.2.1 i hi)
          · rcases (show c9 = 0 ∨ c9 = 1 by omega) with rfl | rfl
            · obtain ⟨y7, y9, y11, y15, y13⟩ := hS.2.2 0 hc9
              refine ⟨?_, ?_, ?_, ?_, ?_⟩
              · rw [show 7 + 0 = 8 - 1 from rfl, sgL_8 (by first | decide | omega), hl9]; exact k59
              · rw [show 9 + 0 = 10 - 1 from rfl, sgL_10 (by first | decide | omega), hl9]; exact k153
              · rw [sgL_o (by first | decide | omega) (by first | decide | omega) (by first | decide | omega) (by first | decide | omega)]; exact ((e153 19 0 (by first | decide | omega)).trans ((e144 19 0 (by first | decide | omega)).trans ((e136 19 0 (by first | decide | omega)).trans (e130 19 0 (by first | decide | omega))))).trans (y11)
              · rw [sgL_o (by first | decide | omega) (by first | decide | omega) (by first | decide | omega) (by first | decide | omega)]; exact ((e153 20 0 (by first | decide | omega)).trans ((e144 20 0 (by first | decide | omega)).trans ((e136 20 0 (by first | decide | omega)).trans (e130 20 0 (by first | decide | omega))))).trans (y15)
              · intro z
                rw [sgL_o (by first | decide | omega) (by first | decide | omega) (by first | decide | omega) (by first | decide | omega)] at z
                rw [sgL_o (by first | decide | omega) (by first | decide | omega) (by first | decide | omega) (by first | decide | omega)]; exact ((e153 21 0 (by first | decide | omega)).trans ((e144 21 0 (by first | decide | omega)).trans ((e136 21 0 (by first | decide | omega)).trans (e130 21 0 (by first | decide | omega))))).trans (y13 z)
            · obtain ⟨y7, y9, y11, y15, y13⟩ := hS.2.2 1 hc9
              refine ⟨?_, ?_, ?_, ?_, ?_⟩
              · rw [sgL_7, hl9]; exact k58
              · rw [sgL_9 (by first | decide | omega), hl9]; exact k60
              · rw [sgL_o (by first | decide | omega) (by first | decide | omega) (by first | decide | omega) (by first | decide | omega)]; exact ((e153 19 1 (by first | decide | omega)).trans ((e144 19 1 (by first | decide | omega)).trans ((e136 19 1 (by first | decide | omega)).trans (e130 19 1 (by first | decide | omega))))).trans (y11)
              · rw [sgL_o (by first | decide | omega) (by first | decide | omega) (by first | decide | omega) (by first | decide | omega)]; exact ((e153 20 1 (by first | decide | omega)).trans ((e144 20 1 (by first | decide | omega)).trans ((e136 20 1 (by first | decide | omega)).trans (e130 20 1 (by first | decide | omega))))).trans (y15)
              · intro z
                rw [sgL_o (by first | decide | omega) (by first | decide | omega) (by first | decide | omega) (by first | decide | omega)] at z
                rw [sgL_o (by first | decide | omega) (by first | decide | omega) (by first | decide | omega) (by first | decide | omega)]; exact ((e153 21 1 (by first | decide | omega)).trans ((e144 21 1 (by first | decide | omega)).trans ((e136 21 1 (by first | decide | omega)).trans (e130 21 1 (by first | decide | omega))))).trans (y13 z)
        · refine gx_2f (c := .eq) rfl (by first | decide | omega) (by first | decide | omega) hc29 rfl ?_
          refine ex_go (S := (60, [(4, .inl 0), (0, gx_r 15), (1, gx_r 257), (2, .inl 1), (3, .inl v)], [.inl 4294967295], t0, n, 0)) rfl (fun _ => rfl) rfl ?_
          refine ex_ret (r := (some (.inl 4294967295), t0, n, 0)) rfl (fun _ => rfl) ?_
          exact ⟨_, rfl, _, t0, rfl, g0, (fun _ _ _ => rfl), (fun z => by rw [hml] at z; omega), fun _ => ⟨rfl, rfl⟩⟩
  · have hS9 := hS
    have hb9 := hb
    obtain ⟨hb1, ⟨hb7, hb8⟩, ⟨hb11, hb12⟩, ⟨hb13, hb14⟩, ⟨hb15, hb16⟩, hb0, hbo9, hb10⟩ := hb9
    have hT := hw.1.2.2.1
    have hK := hw.1.2.2.2.2.1
    obtain ⟨x7_1, x9_1, x11_1, x15_1, x13_1⟩ := hS9.2.2 1 (by first | decide | omega)
    have x13_1 : σ 12 = 1 → ai_hv t0 21 1 = some (.inl (σ 14)) := x13_1
    have w3_1 := (hC.2.2.1 1 (by first | decide | omega)).1
    have hs1 := (hw.2.1 1 (by first | decide | omega)).1
    have hp1 := hb1 (w 3 1) (by first | decide | omega)
    refine en_u_ex (d := d + 1) rfl ?_
    show en_ex _ _ _ _ (0, [(0, gx_r 15), (1, gx_r 257), (2, .inl 1), (3, .inl v)], [], t0, n, 0) _
    refine ex_go (S := (1, [(0, gx_r 15), (1, gx_r 257), (2, .inl 1), (3, .inl v)], [.inl 1], t0, n, 0)) rfl (fun _ => rfl) rfl ?_
    refine ex_go (S := (2, [(0, gx_r 15), (1, gx_r 257), (2, .inl 1), (3, .inl v)], [.inl 1, .inl 1], t0, n, 0)) rfl (fun _ => rfl) rfl ?_
    refine ex_go (S := (3, [(0, gx_r 15), (1, gx_r 257), (2, .inl 1), (3, .inl v)], [.inl 0], t0, n, 0)) rfl (fun _ => rfl) rfl ?_
    refine ex_go (S := (5, [(4, .inl 0), (0, gx_r 15), (1, gx_r 257), (2, .inl 1), (3, .inl v)], [], t0, n, 0)) rfl (fun _ => rfl) rfl ?_
    refine ex_go (S := (6, [(4, .inl 0), (0, gx_r 15), (1, gx_r 257), (2, .inl 1), (3, .inl v)], [gx_r 257], t0, n, 0)) rfl (fun _ => rfl) rfl ?_
    refine gxo_ref (a := 257) (c := 272) rfl g0 rfl rfl rfl rfl rfl ?_
    refine ex_go (S := (11, [(4, .inl 0), (0, gx_r 15), (1, gx_r 257), (2, .inl 1), (3, .inl v)], [.inl 0, gx_r 272], t0, n, 0)) rfl (fun _ => rfl) rfl ?_
    obtain ⟨_, r121, b121, rfl, hb121, hi121⟩ := pz_holds272 d n (x := 0) (K := w 0 4) g0 (by decide) hC.1.2.2.2.2.2 (by first | decide | omega)
    refine gx_callo (a := 272) rfl rfl g0 rfl rfl rfl r121 rfl ?_
    show en_ex _ _ _ _ (14, [(4, .inl 0), (0, gx_r 15), (1, gx_r 257), (2, .inl 1), (3, .inl v)], [.inl b121], t0, n, 0) _
    refine gx_1t (c := .eq) rfl (by first | decide | omega) (show b121 = 0 from by omega) rfl ?_
    refine ex_go (S := (60, [(4, .inl 0), (0, gx_r 15), (1, gx_r 257), (2, .inl 1), (3, .inl v)], [.inl 4294967295], t0, n, 0)) rfl (fun _ => rfl) rfl ?_
    refine ex_ret (r := (some (.inl 4294967295), t0, n, 0)) rfl (fun _ => rfl) ?_
    exact ⟨_, rfl, _, t0, rfl, g0, (fun _ _ _ => rfl), (fun z => by rw [hml] at z; omega), fun _ => ⟨rfl, rfl⟩⟩
theorem sc_bi15_257_1 (d n : Nat) {t0 : en_H} {w : Nat → Nat → Nat} {L : List Nat} {σ : Nat → Nat} (g0 : ai_HG ah_G t0) (hC : CW t0 257 w L) (hw : WS w) (hb : sbd σ) (hS : SC t0 15 (w 0 2) (w 0 4) σ) (hc : 1 < w 0 4) : ∃ r, en_u (d + 1) 202 [gx_r 15, gx_r 257, .inl 1] t0 n = some r ∧ ∃ y t', r = (some (.inl y), t', n, 0) ∧ ai_HG ah_G t' ∧ (∀ c i, ¬ c = 19 → ai_hv t' c i = ai_hv t0 c i) ∧ y ≤ 1 ∧ (y = 1 → mayM w σ 1 ∧ SC t' 15 (w 0 2) (w 0 4) (sgM' σ 1)) ∧ (y = 0 → ¬ mayM w σ 1 ∧ t' = t0) := by
  have hml : mayM w σ 1 ↔ (σ 12 = 1 ∧ σ 14 = σ (1 + w 3 1)) := Iff.rfl
  have hS9 := hS
  have hb9 := hb
  obtain ⟨hb1, ⟨hb7, hb8⟩, ⟨hb11, hb12⟩, ⟨hb13, hb14⟩, ⟨hb15, hb16⟩, hb0, hbo9, hb10⟩ := hb9
  have hT := hw.1.2.2.1
  have hK := hw.1.2.2.2.2.1
  obtain ⟨x7_1, x9_1, x11_1, x15_1, x13_1⟩ := hS9.2.2 1 (by first | decide | omega)
  have x13_1 : σ 12 = 1 → ai_hv t0 21 1 = some (.inl (σ 14)) := x13_1
  have w3_1 := (hC.2.2.1 1 (by first | decide | omega)).1
  have hs1 := (hw.2.1 1 (by first | decide | omega)).1
  have hp1 := hb1 (w 3 1) (by first | decide | omega)
  refine en_u_ex rfl ?_
  show en_ex _ _ _ _ (0, [(0, gx_r 15), (1, gx_r 257), (2, .inl 1)], [], t0, n, 0) _
  refine ex_go (S := (1, [(0, gx_r 15), (1, gx_r 257), (2, .inl 1)], [gx_r 15], t0, n, 0)) rfl (fun _ => rfl) rfl ?_
  refine gxo_ref (a := 15) (c := 19) rfl g0 rfl rfl rfl rfl rfl ?_
  refine ex_go (S := (5, [(0, gx_r 15), (1, gx_r 257), (2, .inl 1)], [.inl 1, gx_r 19], t0, n, 0)) rfl (fun _ => rfl) rfl ?_
  have k21 : ai_hv t0 19 1 = some (.inl (σ 12)) := x11_1
  refine gx_ag (v := .inl (σ 12)) (cb := fun c => Nat.beq c 2 || Nat.beq c 1) rfl (fun _ => rfl) g0 rfl rfl k21 (by first | decide | omega) rfl ?_
  by_cases hc22 : σ 12 = 0
  · refine gx_1t (c := .eq) rfl (by first | decide | omega) hc22 rfl ?_
    refine ex_go (S := (33, [(0, gx_r 15), (1, gx_r 257), (2, .inl 1)], [.inl 0], t0, n, 0)) rfl (fun _ => rfl) rfl ?_
    refine ex_ret (r := (some (.inl 0), t0, n, 0)) rfl (fun _ => rfl) ?_
    exact ⟨_, rfl, 0, t0, rfl, g0, (fun _ _ _ => rfl), by decide, (fun z => absurd z (by decide)), fun _ => ⟨fun z => by rw [hml] at z; omega, rfl⟩⟩
  · refine gx_1f (c := .eq) rfl (by first | decide | omega) hc22 rfl ?_
    refine ex_go (S := (10, [(0, gx_r 15), (1, gx_r 257), (2, .inl 1)], [gx_r 15], t0, n, 0)) rfl (fun _ => rfl) rfl ?_
    refine gxo_ref (a := 15) (c := 21) rfl g0 rfl rfl rfl rfl rfl ?_
    refine ex_go (S := (14, [(0, gx_r 15), (1, gx_r 257), (2, .inl 1)], [.inl 1, gx_r 21], t0, n, 0)) rfl (fun _ => rfl) rfl ?_
    have k23 : ai_hv t0 21 1 = some (.inl (σ 14)) := x13_1 (by first | decide | omega)
    refine gx_ag (v := .inl (σ 14)) (cb := fun c => Nat.beq c 0) rfl (fun _ => rfl) g0 rfl rfl k23 (by first | decide | omega) rfl ?_
    refine ex_go (S := (16, [(0, gx_r 15), (1, gx_r 257), (2, .inl 1)], [gx_r 15, .inl (σ 14)], t0, n, 0)) rfl (fun _ => rfl) rfl ?_
    refine gxo_ref (a := 15) (c := 16) rfl g0 rfl rfl rfl rfl rfl ?_
    refine ex_go (S := (20, [(0, gx_r 15), (1, gx_r 257), (2, .inl 1)], [gx_r 257, gx_r 16, .inl (σ 14)], t0, n, 0)) rfl (fun _ => rfl) rfl ?_
    refine gxo_ref (a := 257) (c := 272) rfl g0 rfl rfl rfl rfl rfl ?_
    refine gxo_ref (a := 272) (c := 274) rfl g0 rfl rfl rfl rfl rfl ?_
    refine ex_go (S := (27, [(0, gx_r 15), (1, gx_r 257), (2, .inl 1)], [.inl 1, gx_r 274, gx_r 16, .inl (σ 14)], t0, n, 0)) rfl (fun _ => rfl) rfl ?_
    have k24 : ai_hv t0 274 1 = some (.inl (w 3 1)) := w3_1
    refine gx_ag (v := .inl (w 3 1)) (cb := fun c => Nat.beq c 0) rfl (fun _ => rfl) g0 rfl rfl k24 (by first | decide | omega) rfl ?_
    have k25 : ai_hv t0 16 (w 3 1) = some (.inl (σ (1 + w 3 1))) := hS.2.1 _ (by first | decide | omega)
    refine gx_ag (v := .inl (σ (1 + w 3 1))) (cb := fun c => Nat.beq c 0) rfl (fun _ => rfl) g0 rfl rfl k25 (by first | decide | omega) rfl ?_
    by_cases hc26 : σ 14 = σ (1 + w 3 1)
    · refine gx_2t (c := .eq) rfl (by first | decide | omega) (by first | decide | omega) hc26 rfl ?_
      refine ex_go (S := (35, [(0, gx_r 15), (1, gx_r 257), (2, .inl 1)], [gx_r 15], t0, n, 0)) rfl (fun _ => rfl) rfl ?_
      refine gxo_ref (a := 15) (c := 19) rfl g0 rfl rfl rfl rfl rfl ?_
      refine ex_go (S := (39, [(0, gx_r 15), (1, gx_r 257), (2, .inl 1)], [.inl 1, gx_r 19], t0, n, 0)) rfl (fun _ => rfl) rfl ?_
      refine ex_go (S := (40, [(0, gx_r 15), (1, gx_r 257), (2, .inl 1)], [.inl 0, .inl 1, gx_r 19], t0, n, 0)) rfl (fun _ => rfl) rfl ?_
      refine gx_apv (d := 2) rfl (fun _ => rfl) g0 rfl rfl rfl (show 1 < 2 from by omega) rfl (ai_in_h (by first | decide | omega) (by first | decide | omega) (by first | decide | omega)) rfl (fun t127 g127 k127 e127 => ?_)
      have k28 : ai_hv t127 21 1 = some (.inl (σ 14)) := (e127 21 1 (by first | decide | omega)).trans k23
      have k29 : ai_hv t127 274 1 = some (.inl (w 3 1)) := (e127 274 1 (by first | decide | omega)).trans k24
      have k30 : ai_hv t127 16 (w 3 1) = some (.inl (σ (1 + w 3 1))) := (e127 16 (w 3 1) (by first | decide | omega)).trans k25
      refine ex_go (S := (42, [(0, gx_r 15), (1, gx_r 257), (2, .inl 1)], [.inl 1], t127, n, 0)) rfl (fun _ => rfl) rfl ?_
      refine ex_ret (r := (some (.inl 1), t127, n, 0)) rfl (fun _ => rfl) ?_
      refine ⟨_, rfl, 1, t127, rfl, g127, (fun c i h => e127 c i (by first | decide | omega)), by decide, (fun _ => ⟨by rw [hml]; omega, ?_⟩), fun z => absurd z (by decide)⟩
      refine ⟨?_, fun i hi => ?_, fun c9 hc9 => ?_⟩
      · rw [sgM_o (by first | decide | omega)]; exact (e127 15 0 (by first | decide | omega)).trans (hS.1)
      · rw [sgM_o (by first | decide | omega)]; exact (e127 16 i (by first | decide | omega)).trans (hS.2.1 i hi)
      · rcases (show c9 = 0 ∨ c9 = 1 by omega) with rfl | rfl
        · obtain ⟨y7, y9, y11, y15, y13⟩ := hS.2.2 0 hc9
          refine ⟨?_, ?_, ?_, ?_, ?_⟩
          · rw [sgM_o (by first | decide | omega)]; exact (e127 17 0 (by first | decide | omega)).trans (y7)
          · rw [sgM_o (by first | decide | omega)]; exact (e127 18 0 (by first | decide | omega)).trans (y9)
          · rw [sgM_o (by first | decide | omega)]; exact (e127 19 0 (by first | decide | omega)).trans (y11)
          · rw [sgM_o (by first | decide | omega)]; exact (e127 20 0 (by first | decide | omega)).trans (y15)
          · intro z
            rw [sgM_o (by first | decide | omega)] at z
            rw [sgM_o (by first | decide | omega)]; exact (e127 21 0 (by first | decide | omega)).trans (y13 z)
        · obtain ⟨y7, y9, y11, y15, y13⟩ := hS.2.2 1 hc9
          refine ⟨?_, ?_, ?_, ?_, ?_⟩
          · rw [sgM_o (by first | decide | omega)]; exact (e127 17 1 (by first | decide | omega)).trans (y7)
          · rw [sgM_o (by first | decide | omega)]; exact (e127 18 1 (by first | decide | omega)).trans (y9)
          · rw [sgM_11]; exact k127
          · rw [sgM_o (by first | decide | omega)]; exact (e127 20 1 (by first | decide | omega)).trans (y15)
          · intro z; rw [sgM_11] at z; exact absurd z (by decide)
    · refine gx_2f (c := .eq) rfl (by first | decide | omega) (by first | decide | omega) hc26 rfl ?_
      refine ex_go (S := (33, [(0, gx_r 15), (1, gx_r 257), (2, .inl 1)], [.inl 0], t0, n, 0)) rfl (fun _ => rfl) rfl ?_
      refine ex_ret (r := (some (.inl 0), t0, n, 0)) rfl (fun _ => rfl) ?_
      exact ⟨_, rfl, 0, t0, rfl, g0, (fun _ _ _ => rfl), by decide, (fun z => absurd z (by decide)), fun _ => ⟨fun z => by rw [hml] at z; omega, rfl⟩⟩
theorem sc_hs15_257 (d n : Nat) {t0 : en_H} {w : Nat → Nat → Nat} {L : List Nat} {σ : Nat → Nat} {c : Nat} {to : Nat} (g0 : ai_HG ah_G t0) (hC : CW t0 257 w L) (hw : WS w) (hb : sbd σ) (hS : SC t0 15 (w 0 2) (w 0 4) σ) (hX : CX t0 257 w) (hB : σ 0 ≤ 900000) (hc : c < w 0 4) (ht : to < 64) : ∃ r, en_u (d + 4) 200 [gx_r 15, gx_r 257, .inl c, .inl to] t0 n = some r ∧ ∃ v t', r = (some (.inl v), t', n, 0) ∧ ai_HG ah_G t' ∧ (∀ c i, ¬ (c = 19 ∨ c = 20 ∨ c = 21) → ai_hv t' c i = ai_hv t0 c i) ∧ v ≤ 1 ∧ (v = 1 → mayH w σ c to ∧ SC t' 15 (w 0 2) (w 0 4) (sgH σ c to)) ∧ (v = 0 → ¬ mayH w σ c to ∧ t' = t0) := by
  have hK := hw.1.2.2.2.2.1
  rcases (show c = 0 ∨ c = 1 by omega) with rfl | rfl
  · exact sc_hs15_257_0 d n g0 hC hw hb hS hX hB hc ht
  · exact sc_hs15_257_1 d n g0 hC hw hb hS hX hB hc ht
theorem sc_lb15_257 (d n : Nat) {t0 : en_H} {w : Nat → Nat → Nat} {L : List Nat} {σ : Nat → Nat} {c : Nat} {v : Nat} (g0 : ai_HG ah_G t0) (hC : CW t0 257 w L) (hw : WS w) (hb : sbd σ) (hS : SC t0 15 (w 0 2) (w 0 4) σ) (hsum : σ 7 + σ 8 ≤ 19998) (hc : c < w 0 4) (hv : v ≤ 999) : ∃ r, en_u (d + 2) 201 [gx_r 15, gx_r 257, .inl c, .inl v] t0 n = some r ∧ ∃ y t', r = (some (.inl y), t', n, 0) ∧ ai_HG ah_G t' ∧ (∀ c i, ¬ (c = 17 ∨ c = 18) → ai_hv t' c i = ai_hv t0 c i) ∧ (mayL w σ c → y = lnv σ c v ∧ SC t' 15 (w 0 2) (w 0 4) (sgL σ c v)) ∧ (¬ mayL w σ c → y = 4294967295 ∧ t' = t0) := by
  have hK := hw.1.2.2.2.2.1
  rcases (show c = 0 ∨ c = 1 by omega) with rfl | rfl
  · exact sc_lb15_257_0 d n g0 hC hw hb hS hsum hc hv
  · exact sc_lb15_257_1 d n g0 hC hw hb hS hsum hc hv
theorem sc_bi15_257 (d n : Nat) {t0 : en_H} {w : Nat → Nat → Nat} {L : List Nat} {σ : Nat → Nat} {c : Nat} (g0 : ai_HG ah_G t0) (hC : CW t0 257 w L) (hw : WS w) (hb : sbd σ) (hS : SC t0 15 (w 0 2) (w 0 4) σ) (hc : c < w 0 4) : ∃ r, en_u (d + 1) 202 [gx_r 15, gx_r 257, .inl c] t0 n = some r ∧ ∃ y t', r = (some (.inl y), t', n, 0) ∧ ai_HG ah_G t' ∧ (∀ c i, ¬ c = 19 → ai_hv t' c i = ai_hv t0 c i) ∧ y ≤ 1 ∧ (y = 1 → mayM w σ c ∧ SC t' 15 (w 0 2) (w 0 4) (sgM' σ c)) ∧ (y = 0 → ¬ mayM w σ c ∧ t' = t0) := by
  have hK := hw.1.2.2.2.2.1
  rcases (show c = 0 ∨ c = 1 by omega) with rfl | rfl
  · exact sc_bi15_257_0 d n g0 hC hw hb hS hc
  · exact sc_bi15_257_1 d n g0 hC hw hb hS hc
end SSL
