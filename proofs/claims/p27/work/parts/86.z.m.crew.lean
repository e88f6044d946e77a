section SPN
theorem pe_within (d n : Nat) {t0 : en_H} {x lo hi : Nat} (hx : x < 2147483648) (h1 : lo < 2147483648) (h2 : hi < 2147483648) : ∃ r, en_u (d + 1) 107 [.inl x, .inl lo, .inl hi] t0 n = some r ∧ ∃ b, r = (some (.inl b), t0, n, 0) ∧ b ≤ 1 ∧ (b = 1 ↔ lo ≤ x ∧ x ≤ hi) := by
  refine en_u_ex rfl ?_
  show en_ex _ _ _ _ (0, [(0, .inl x), (1, .inl lo), (2, .inl hi)], [], t0, n, 0) _
  refine ex_go (S := (1, [(0, .inl x), (1, .inl lo), (2, .inl hi)], [.inl x], t0, n, 0)) rfl (fun _ => rfl) rfl ?_
  refine ex_go (S := (2, [(0, .inl x), (1, .inl lo), (2, .inl hi)], [.inl lo, .inl x], t0, n, 0)) rfl (fun _ => rfl) rfl ?_
  by_cases hc1 : x < lo
  · refine gx_2t (c := .lt) rfl (by first | decide | omega) (by first | decide | omega) hc1 rfl ?_
    refine ex_go (S := (15, [(0, .inl x), (1, .inl lo), (2, .inl hi)], [.inl 0], t0, n, 0)) rfl (fun _ => rfl) rfl ?_
    refine ex_ret (r := (some (.inl 0), t0, n, 0)) rfl (fun _ => rfl) ?_
    exact ⟨_, rfl, 0, rfl, by omega⟩
  · refine gx_2f (c := .lt) rfl (by first | decide | omega) (by first | decide | omega) hc1 rfl ?_
    refine ex_go (S := (6, [(0, .inl x), (1, .inl lo), (2, .inl hi)], [.inl x], t0, n, 0)) rfl (fun _ => rfl) rfl ?_
    refine ex_go (S := (7, [(0, .inl x), (1, .inl lo), (2, .inl hi)], [.inl hi, .inl x], t0, n, 0)) rfl (fun _ => rfl) rfl ?_
    by_cases hc2 : hi < x
    · refine gx_2t (c := .gt) rfl (by first | decide | omega) (by first | decide | omega) hc2 rfl ?_
      refine ex_go (S := (15, [(0, .inl x), (1, .inl lo), (2, .inl hi)], [.inl 0], t0, n, 0)) rfl (fun _ => rfl) rfl ?_
      refine ex_ret (r := (some (.inl 0), t0, n, 0)) rfl (fun _ => rfl) ?_
      exact ⟨_, rfl, 0, rfl, by omega⟩
    · refine gx_2f (c := .gt) rfl (by first | decide | omega) (by first | decide | omega) hc2 rfl ?_
      refine ex_go (S := (11, [(0, .inl x), (1, .inl lo), (2, .inl hi)], [.inl 1], t0, n, 0)) rfl (fun _ => rfl) rfl ?_
      refine ex_go (S := (15, [(0, .inl x), (1, .inl lo), (2, .inl hi)], [.inl 1], t0, n, 0)) rfl (fun _ => rfl) rfl ?_
      refine ex_ret (r := (some (.inl 1), t0, n, 0)) rfl (fun _ => rfl) ?_
      exact ⟨_, rfl, 1, rfl, by omega⟩
theorem pe_readCrew (d n : Nat) {t0 : en_H} {a : Nat} {S : Nat → Nat} {m N : Nat} {σ : Nat → Nat → Nat} (s0 : px_S t0 a 0) (hT : rT t0 S m N) (ha : a < N) (hA : RA t0 S m σ) (hB : WB σ) (hK : NK S m N σ) : ∃ r, en_u (d + 5) 189 [gx_r 383] t0 n = some r ∧ ∃ t' a' f', r = (none, t', n, 0) ∧ px_S t' a' f' ∧ rT t' S m N ∧ (a', f') = sl_crew S m N σ a ∧ a' ≤ N ∧ (f' = 0 → a < a' ∧ RA t' S m (sn_crew S m σ a)) := by
  have b0 := s0.2.2.2
  have hN := hT.2.2.2.2.1
  obtain ⟨⟨kk0, kk1, kk2, kk3, kk4, kk5, kk6, kk7, kk8, kk9⟩, hRL, hRk, hRl, hRs, hRN, hb0, hb1, hb2, hb3, hb4, hb5, hb6, hb7, hb8, hb9, hb10, hb11, hb12, hb13⟩ := hA
  have hBB := hB.1
  refine en_u_ex (d := d + 4) rfl ?_
  show en_ex _ _ _ _ (0, [(0, gx_r 383)], [], t0, n, 0) _
  refine ex_go (S := (1, [(0, gx_r 383)], [gx_r 383], t0, n, 0)) rfl (fun _ => rfl) rfl ?_
  refine gx_ref (c := 389) rfl s0.1 rfl rfl rfl rfl ?_
  refine ex_go (S := (7, [(0, gx_r 383)], [.inl 164, gx_r 389], t0, n, 0)) rfl (fun _ => rfl) rfl ?_
  refine gx_ag (v := .inl (σ 4 0)) (cb := fun c => Nat.beq c 0) rfl (fun _ => rfl) s0.1 rfl rfl kk4 (by first | decide | omega) rfl ?_
  refine ex_go (S := (9, [(1, .inl (σ 4 0)), (0, gx_r 383)], [], t0, n, 0)) rfl (fun _ => rfl) rfl ?_
  refine ex_go (S := (10, [(1, .inl (σ 4 0)), (0, gx_r 383)], [.inl (σ 4 0)], t0, n, 0)) rfl (fun _ => rfl) rfl ?_
  refine ex_go (S := (11, [(1, .inl (σ 4 0)), (0, gx_r 383)], [.inl 2, .inl (σ 4 0)], t0, n, 0)) rfl (fun _ => rfl) rfl ?_
  by_cases hful : σ 4 0 = 2
  · refine gx_2f (c := .ne) rfl (by first | decide | omega) (by first | decide | omega) (show ¬ (σ 4 0 ≠ 2) from by omega) rfl ?_
    refine ex_go (S := (15, [(1, .inl (σ 4 0)), (0, gx_r 383)], [gx_r 383], t0, n, 0)) rfl (fun _ => rfl) rfl ?_
    refine ex_go (S := (16, [(1, .inl (σ 4 0)), (0, gx_r 383)], [.inl 5, gx_r 383], t0, n, 0)) rfl (fun _ => rfl) rfl ?_
    obtain ⟨_, r101, t101, a101, f101, rfl, s101, e101, q101⟩ := pe_wrong (d + 3) n (s0) hT (by first | decide | omega) (w := 5) (by first | decide | omega)
    have b101 := s101.2.2.2
    have hT101 := rT_keep hT (fun c i h => e101 c i (by first | decide | omega))
    refine gx_call0 rfl rfl s0.1 rfl rfl r101 rfl ?_
    have k2 : ai_hv t101 389 160 = some (.inl (σ 0 0)) := (e101 389 160 (by first | decide | omega)).trans kk0
    have k3 : ai_hv t101 389 161 = some (.inl (σ 1 0)) := (e101 389 161 (by first | decide | omega)).trans kk1
    have k4 : ai_hv t101 389 162 = some (.inl (σ 2 0)) := (e101 389 162 (by first | decide | omega)).trans kk2
    have k5 : ai_hv t101 389 163 = some (.inl (σ 3 0)) := (e101 389 163 (by first | decide | omega)).trans kk3
    have k6 : ai_hv t101 389 164 = some (.inl (σ 4 0)) := (e101 389 164 (by first | decide | omega)).trans kk4
    have k7 : ai_hv t101 389 166 = some (.inl (σ 5 0)) := (e101 389 166 (by first | decide | omega)).trans kk5
    have k8 : ai_hv t101 389 167 = some (.inl (σ 6 0)) := (e101 389 167 (by first | decide | omega)).trans kk6
    have k9 : ai_hv t101 389 168 = some (.inl (σ 7 0)) := (e101 389 168 (by first | decide | omega)).trans kk7
    have k10 : ai_hv t101 383 20 = some (.inl (σ 8 0)) := (e101 383 20 (by first | decide | omega)).trans kk8
    have k11 : ai_hv t101 383 19 = some (.inl (σ 15 0)) := (e101 383 19 (by first | decide | omega)).trans kk9
    refine ex_ret (r := (none, t101, n, 0)) rfl (fun _ => rfl) ?_
    have hT12 := rT_keep (t' := t101) hT (fun c i h => e101 c i (by first | decide | omega))
    refine ⟨_, rfl, t101, a101, f101, rfl, s101, hT12, ?_, by omega, fun h0 => by omega⟩
    rw [show a101 = a by omega, show f101 = 5 + 16 * sp_st S m a by omega]
    unfold sl_crew
    have h5 : 5 + 16 * sp_st S m a ≠ 0 := by omega
    rw [fr_w hful, fc_no h5, fw_no h5, fn_no h5, fw_no h5, fn_no h5]
  · refine gx_2t (c := .ne) rfl (by first | decide | omega) (by first | decide | omega) (show σ 4 0 ≠ 2 from by omega) rfl ?_
    refine ex_go (S := (21, [(1, .inl (σ 4 0)), (0, gx_r 383)], [gx_r 383], t0, n, 0)) rfl (fun _ => rfl) rfl ?_
    refine ex_go (S := (22, [(1, .inl (σ 4 0)), (0, gx_r 383)], [gx_r 383, gx_r 383], t0, n, 0)) rfl (fun _ => rfl) rfl ?_
    refine gx_get rfl s0.1 rfl s0.2.1 rfl ?_
    refine ex_go (S := (26, [(1, .inl (σ 4 0)), (0, gx_r 383)], [.inl 1, .inl a, gx_r 383], t0, n, 0)) rfl (fun _ => rfl) rfl ?_
    refine ex_iadd rfl (by first | decide | omega) rfl ?_
    refine gx_put rfl s0.1 rfl rfl (ai_in_h (by first | decide | omega) (by first | decide | omega) (by first | decide | omega)) rfl (fun t113 g113 k113 e113 => ?_)
    have k14 : ai_hv t113 389 160 = some (.inl (σ 0 0)) := (e113 389 160 (by first | decide | omega)).trans kk0
    have k15 : ai_hv t113 389 161 = some (.inl (σ 1 0)) := (e113 389 161 (by first | decide | omega)).trans kk1
    have k16 : ai_hv t113 389 162 = some (.inl (σ 2 0)) := (e113 389 162 (by first | decide | omega)).trans kk2
    have k17 : ai_hv t113 389 163 = some (.inl (σ 3 0)) := (e113 389 163 (by first | decide | omega)).trans kk3
    have k18 : ai_hv t113 389 164 = some (.inl (σ 4 0)) := (e113 389 164 (by first | decide | omega)).trans kk4
    have k19 : ai_hv t113 389 166 = some (.inl (σ 5 0)) := (e113 389 166 (by first | decide | omega)).trans kk5
    have k20 : ai_hv t113 389 167 = some (.inl (σ 6 0)) := (e113 389 167 (by first | decide | omega)).trans kk6
    have k21 : ai_hv t113 389 168 = some (.inl (σ 7 0)) := (e113 389 168 (by first | decide | omega)).trans kk7
    have k22 : ai_hv t113 383 20 = some (.inl (σ 8 0)) := (e113 383 20 (by first | decide | omega)).trans kk8
    have k23 : ai_hv t113 383 19 = some (.inl (σ 15 0)) := (e113 383 19 (by first | decide | omega)).trans kk9
    have s113 : px_S t113 (a + 1) 0 := ⟨g113, k113, (e113 383 8 (by first | decide | omega)).trans s0.2.2.1, by omega, s0.2.2.2.2⟩
    refine ex_go (S := (31, [(1, .inl (σ 4 0)), (0, gx_r 383)], [gx_r 383], t113, n, 0)) rfl (fun _ => rfl) rfl ?_
    have hT27 := rT_keep (t' := t113) hT (fun c i h => e113 c i (by first | decide | omega))
    obtain ⟨_, r26, b24, rfl, q25⟩ := pe_isName (d + 1) n (s113) hT27 (by first | decide | omega) 
    refine gx_call1 rfl rfl s113.1 rfl rfl r26 rfl ?_
    by_cases hc28 : b24 ≠ 0
    · refine gx_1t (c := .ne) rfl (by first | decide | omega) hc28 rfl ?_
      refine ex_go (S := (44, [(1, .inl (σ 4 0)), (0, gx_r 383)], [gx_r 383], t113, n, 0)) rfl (fun _ => rfl) rfl ?_
      refine ex_go (S := (45, [(1, .inl (σ 4 0)), (0, gx_r 383)], [.inl 1, gx_r 383], t113, n, 0)) rfl (fun _ => rfl) rfl ?_
      have hR9 : RN t113 S m σ := fun k hk => ⟨(e113 393 k (by first | decide | omega)).trans (hRN k hk).1, (e113 395 k (by first | decide | omega)).trans (hRN k hk).2⟩
      have hnm := (q25.2.mp (by first | decide | omega)).2
      have hlt9 := sp_kt_lt (S := S) (m := m) (N := N) (a := a + 1) (by have := hnm.1; omega)
      obtain ⟨_, r31, b29, rfl, q30⟩ := pe_find (d + 3) n (s113) hT27 hnm.1 k23 hR9 hK
      refine gx_call1 rfl rfl s113.1 rfl rfl r31 rfl ?_
      rcases q30 with ⟨hta, htb⟩ | ⟨hta, htb⟩
      · have htc := (hK.2 _ hta).2
        rw [← htb] at htc
        refine ex_go (S := (49, [(2, .inl b29), (1, .inl (σ 4 0)), (0, gx_r 383)], [], t113, n, 0)) rfl (fun _ => rfl) rfl ?_
        refine ex_go (S := (50, [(2, .inl b29), (1, .inl (σ 4 0)), (0, gx_r 383)], [.inl b29], t113, n, 0)) rfl (fun _ => rfl) rfl ?_
        refine ex_go (S := (51, [(2, .inl b29), (1, .inl (σ 4 0)), (0, gx_r 383)], [.inl 0, .inl b29], t113, n, 0)) rfl (fun _ => rfl) rfl ?_
        refine ex_go (S := (52, [(2, .inl b29), (1, .inl (σ 4 0)), (0, gx_r 383)], [.inl 5, .inl 0, .inl b29], t113, n, 0)) rfl (fun _ => rfl) rfl ?_
        obtain ⟨_, r32, b33, rfl, q34⟩ := pe_within (d + 3) n (t0 := t113) (x := b29) (lo := 0) (hi := 5) (by first | decide | omega) (by first | decide | omega) (by first | decide | omega)
        refine ex_stat rfl rfl rfl rfl rfl r32 (Nat.le_refl _) rfl ?_
        show en_ex _ _ _ _ (55, [(2, .inl b29), (1, .inl (σ 4 0)), (0, gx_r 383)], [.inl b33], t113, n, 0) _
        by_cases hc35 : b33 = 0
        · refine gx_1t (c := .eq) rfl (by first | decide | omega) hc35 rfl ?_
          refine ex_go (S := (74, [(2, .inl b29), (1, .inl (σ 4 0)), (0, gx_r 383)], [gx_r 383], t113, n, 0)) rfl (fun _ => rfl) rfl ?_
          refine ex_go (S := (75, [(2, .inl b29), (1, .inl (σ 4 0)), (0, gx_r 383)], [.inl 2, gx_r 383], t113, n, 0)) rfl (fun _ => rfl) rfl ?_
          obtain ⟨_, r136, t136, a136, f136, rfl, s136, e136, q136⟩ := pe_wrong (d + 3) n (s113) hT27 (by first | decide | omega) (w := 2) (by first | decide | omega)
          have b136 := s136.2.2.2
          have hT136 := rT_keep hT27 (fun c i h => e136 c i (by first | decide | omega))
          refine gx_call0 rfl rfl s113.1 rfl rfl r136 rfl ?_
          have k37 : ai_hv t136 389 160 = some (.inl (σ 0 0)) := (e136 389 160 (by first | decide | omega)).trans k14
          have k38 : ai_hv t136 389 161 = some (.inl (σ 1 0)) := (e136 389 161 (by first | decide | omega)).trans k15
          have k39 : ai_hv t136 389 162 = some (.inl (σ 2 0)) := (e136 389 162 (by first | decide | omega)).trans k16
          have k40 : ai_hv t136 389 163 = some (.inl (σ 3 0)) := (e136 389 163 (by first | decide | omega)).trans k17
          have k41 : ai_hv t136 389 164 = some (.inl (σ 4 0)) := (e136 389 164 (by first | decide | omega)).trans k18
          have k42 : ai_hv t136 389 166 = some (.inl (σ 5 0)) := (e136 389 166 (by first | decide | omega)).trans k19
          have k43 : ai_hv t136 389 167 = some (.inl (σ 6 0)) := (e136 389 167 (by first | decide | omega)).trans k20
          have k44 : ai_hv t136 389 168 = some (.inl (σ 7 0)) := (e136 389 168 (by first | decide | omega)).trans k21
          have k45 : ai_hv t136 383 20 = some (.inl (σ 8 0)) := (e136 383 20 (by first | decide | omega)).trans k22
          have k46 : ai_hv t136 383 19 = some (.inl (σ 15 0)) := (e136 383 19 (by first | decide | omega)).trans k23
          refine ex_go (S := (103, [(2, .inl b29), (1, .inl (σ 4 0)), (0, gx_r 383)], [], t136, n, 0)) rfl (fun _ => rfl) rfl ?_
          refine ex_go (S := (104, [(2, .inl b29), (1, .inl (σ 4 0)), (0, gx_r 383)], [gx_r 383], t136, n, 0)) rfl (fun _ => rfl) rfl ?_
          refine gx_get rfl s136.1 rfl s136.2.2.1 rfl ?_
          refine gx_1f (c := .le) rfl (by first | decide | omega) (show ¬ (f136 ≤ 0) from by omega) rfl ?_
          refine ex_ret (r := (none, t136, n, 0)) rfl (fun _ => rfl) ?_
          have hT47 := rT_keep (t' := t136) hT (fun c i h => (e136 c i (by first | decide | omega)).trans (e113 c i (by first | decide | omega)))
          refine ⟨_, rfl, t136, a136, f136, rfl, s136, hT47, ?_, by omega, fun h0 => by omega⟩
          rw [show a136 = a + 1 by omega, show f136 = 2 + 16 * sp_st S m (a + 1) by omega]
          unfold sl_crew
          have h5 : 2 + 16 * sp_st S m (a + 1) ≠ 0 := by omega
          rw [fr_yes hful, fc_2 hnm (fun z => by have z1 := z.2.1; rw [← htb] at z1; omega), fw_no h5, fn_no h5, fw_no h5, fn_no h5]
        · refine gx_1f (c := .eq) rfl (by first | decide | omega) hc35 rfl ?_
          refine ex_go (S := (59, [(2, .inl b29), (1, .inl (σ 4 0)), (0, gx_r 383)], [gx_r 383], t113, n, 0)) rfl (fun _ => rfl) rfl ?_
          refine gx_ref (c := 389) rfl s113.1 rfl rfl rfl rfl ?_
          refine ex_go (S := (65, [(2, .inl b29), (1, .inl (σ 4 0)), (0, gx_r 383)], [.inl 236, gx_r 389], t113, n, 0)) rfl (fun _ => rfl) rfl ?_
          refine ex_go (S := (66, [(2, .inl b29), (1, .inl (σ 4 0)), (0, gx_r 383)], [.inl 3, .inl 236, gx_r 389], t113, n, 0)) rfl (fun _ => rfl) rfl ?_
          refine ex_go (S := (67, [(2, .inl b29), (1, .inl (σ 4 0)), (0, gx_r 383)], [.inl b29, .inl 3, .inl 236, gx_r 389], t113, n, 0)) rfl (fun _ => rfl) rfl ?_
          refine gx_imul rfl (by first | decide | omega) rfl ?_
          refine ex_iadd rfl (by first | decide | omega) rfl ?_
          have k48 : ai_hv t113 389 (236 + (3 * b29)) = some (.inl (σ 10 b29)) := (e113 389 (236 + (3 * b29)) (by first | decide | omega)).trans (hRk b29 (by first | decide | omega))
          have hkb := hB.2 b29 (by first | decide | omega)
          refine gx_ag (v := .inl (σ 10 b29)) (cb := fun c => Nat.beq c 0) rfl (fun _ => rfl) s113.1 rfl rfl k48 (by first | decide | omega) rfl ?_
          by_cases hc49 : σ 10 b29 = 0
          · refine gx_1t (c := .eq) rfl (by first | decide | omega) hc49 rfl ?_
            refine ex_go (S := (82, [(2, .inl b29), (1, .inl (σ 4 0)), (0, gx_r 383)], [.inl (σ 4 0)], t113, n, 0)) rfl (fun _ => rfl) rfl ?_
            refine ex_go (S := (83, [(2, .inl b29), (1, .inl (σ 4 0)), (0, gx_r 383)], [.inl 1, .inl (σ 4 0)], t113, n, 0)) rfl (fun _ => rfl) rfl ?_
            by_cases hc50 : σ 4 0 ≠ 1
            · refine gx_2t (c := .ne) rfl (by first | decide | omega) (by first | decide | omega) hc50 rfl ?_
              refine ex_go (S := (104, [(2, .inl b29), (1, .inl (σ 4 0)), (0, gx_r 383)], [gx_r 383], t113, n, 0)) rfl (fun _ => rfl) rfl ?_
              refine gx_get rfl s113.1 rfl s113.2.2.1 rfl ?_
              refine ex_go (S := (111, [(2, .inl b29), (1, .inl (σ 4 0)), (0, gx_r 383)], [], t113, n, 0)) rfl (fun _ => rfl) rfl ?_
              have hsh : sg_ship S m σ (a + 1) := ⟨hta, by rw [← htb]; omega, by rw [← htb]; omega⟩
              have hnc : ¬ sg_crew S m σ (a + 1) := fun ⟨i, z1, z2⟩ => by omega
              have y4 : (a + 1 + 1, 0) = fc S m N (sg_ship S m σ) (sg_crew S m σ) (fr S m (σ 4 0 = 2) 5 (a, 0)) := (fc_yes hnm hsh hnc).symm.trans (congrArg _ (fr_yes (S := S) (m := m) (w := 5) (a := a) hful).symm)
              refine ex_go (S := (112, [(2, .inl b29), (1, .inl (σ 4 0)), (0, gx_r 383)], [gx_r 383], t113, n, 0)) rfl (fun _ => rfl) rfl ?_
              refine ex_go (S := (113, [(2, .inl b29), (1, .inl (σ 4 0)), (0, gx_r 383)], [gx_r 383, gx_r 383], t113, n, 0)) rfl (fun _ => rfl) rfl ?_
              refine gx_get rfl s113.1 rfl s113.2.1 rfl ?_
              refine ex_go (S := (117, [(2, .inl b29), (1, .inl (σ 4 0)), (0, gx_r 383)], [.inl 1, .inl (a + 1), gx_r 383], t113, n, 0)) rfl (fun _ => rfl) rfl ?_
              refine ex_iadd rfl (by first | decide | omega) rfl ?_
              refine gx_put rfl s113.1 rfl rfl (ai_in_h (by first | decide | omega) (by first | decide | omega) (by first | decide | omega)) rfl (fun t151 g151 k151 e151 => ?_)
              have k52 : ai_hv t151 389 160 = some (.inl (σ 0 0)) := (e151 389 160 (by first | decide | omega)).trans k14
              have k53 : ai_hv t151 389 161 = some (.inl (σ 1 0)) := (e151 389 161 (by first | decide | omega)).trans k15
              have k54 : ai_hv t151 389 162 = some (.inl (σ 2 0)) := (e151 389 162 (by first | decide | omega)).trans k16
              have k55 : ai_hv t151 389 163 = some (.inl (σ 3 0)) := (e151 389 163 (by first | decide | omega)).trans k17
              have k56 : ai_hv t151 389 164 = some (.inl (σ 4 0)) := (e151 389 164 (by first | decide | omega)).trans k18
              have k57 : ai_hv t151 389 166 = some (.inl (σ 5 0)) := (e151 389 166 (by first | decide | omega)).trans k19
              have k58 : ai_hv t151 389 167 = some (.inl (σ 6 0)) := (e151 389 167 (by first | decide | omega)).trans k20
              have k59 : ai_hv t151 389 168 = some (.inl (σ 7 0)) := (e151 389 168 (by first | decide | omega)).trans k21
              have k60 : ai_hv t151 383 20 = some (.inl (σ 8 0)) := (e151 383 20 (by first | decide | omega)).trans k22
              have k61 : ai_hv t151 383 19 = some (.inl (σ 15 0)) := (e151 383 19 (by first | decide | omega)).trans k23
              have k62 : ai_hv t151 389 (236 + (3 * b29)) = some (.inl (σ 10 b29)) := (e151 389 (236 + (3 * b29)) (by first | decide | omega)).trans k48
              have s151 : px_S t151 ((a + 1) + 1) 0 := ⟨g151, k151, (e151 383 8 (by first | decide | omega)).trans s113.2.2.1, by omega, s113.2.2.2.2⟩
              refine ex_go (S := (124, [(2, .inl b29), (1, .inl (σ 4 0)), (0, gx_r 383)], [.inl 278], t151, n, 0)) rfl (fun _ => rfl) rfl ?_
              refine ex_go (S := (125, [(2, .inl b29), (1, .inl (σ 4 0)), (0, gx_r 383)], [.inl 3, .inl 278], t151, n, 0)) rfl (fun _ => rfl) rfl ?_
              refine ex_go (S := (126, [(2, .inl b29), (1, .inl (σ 4 0)), (0, gx_r 383)], [.inl (σ 4 0), .inl 3, .inl 278], t151, n, 0)) rfl (fun _ => rfl) rfl ?_
              refine gx_imul rfl (by first | decide | omega) rfl ?_
              refine ex_iadd rfl (by first | decide | omega) rfl ?_
              refine ex_go (S := (129, [(3, .inl (278 + (3 * (σ 4 0)))), (2, .inl b29), (1, .inl (σ 4 0)), (0, gx_r 383)], [], t151, n, 0)) rfl (fun _ => rfl) rfl ?_
              refine ex_go (S := (130, [(3, .inl (278 + (3 * (σ 4 0)))), (2, .inl b29), (1, .inl (σ 4 0)), (0, gx_r 383)], [gx_r 383], t151, n, 0)) rfl (fun _ => rfl) rfl ?_
              refine gx_ref (c := 389) rfl s151.1 rfl rfl rfl rfl ?_
              refine ex_go (S := (134, [(3, .inl (278 + (3 * (σ 4 0)))), (2, .inl b29), (1, .inl (σ 4 0)), (0, gx_r 383)], [.inl (278 + (3 * (σ 4 0))), gx_r 389], t151, n, 0)) rfl (fun _ => rfl) rfl ?_
              refine ex_go (S := (135, [(3, .inl (278 + (3 * (σ 4 0)))), (2, .inl b29), (1, .inl (σ 4 0)), (0, gx_r 383)], [.inl b29, .inl (278 + (3 * (σ 4 0))), gx_r 389], t151, n, 0)) rfl (fun _ => rfl) rfl ?_
              refine gx_ap rfl (fun _ => rfl) s151.1 rfl rfl rfl (show 278 + (3 * (σ 4 0)) < 320 from by omega) (px_run_crew0 ((σ 4 0)) (by first | decide | omega) (by first | decide | omega)) (ai_in_h (by first | decide | omega) (by first | decide | omega) (by first | decide | omega)) rfl (fun t163 g163 k163 e163 => ?_)
              have k64 : ai_hv t163 389 160 = some (.inl (σ 0 0)) := (e163 389 160 (by first | decide | omega)).trans k52
              have k65 : ai_hv t163 389 161 = some (.inl (σ 1 0)) := (e163 389 161 (by first | decide | omega)).trans k53
              have k66 : ai_hv t163 389 162 = some (.inl (σ 2 0)) := (e163 389 162 (by first | decide | omega)).trans k54
              have k67 : ai_hv t163 389 163 = some (.inl (σ 3 0)) := (e163 389 163 (by first | decide | omega)).trans k55
              have k68 : ai_hv t163 389 164 = some (.inl (σ 4 0)) := (e163 389 164 (by first | decide | omega)).trans k56
              have k69 : ai_hv t163 389 166 = some (.inl (σ 5 0)) := (e163 389 166 (by first | decide | omega)).trans k57
              have k70 : ai_hv t163 389 167 = some (.inl (σ 6 0)) := (e163 389 167 (by first | decide | omega)).trans k58
              have k71 : ai_hv t163 389 168 = some (.inl (σ 7 0)) := (e163 389 168 (by first | decide | omega)).trans k59
              have k72 : ai_hv t163 383 20 = some (.inl (σ 8 0)) := (e163 383 20 (by first | decide | omega)).trans k60
              have k73 : ai_hv t163 383 19 = some (.inl (σ 15 0)) := (e163 383 19 (by first | decide | omega)).trans k61
              have k74 : ai_hv t163 389 (236 + (3 * b29)) = some (.inl (σ 10 b29)) := (e163 389 (236 + (3 * b29)) (by first | decide | omega)).trans k62
              have s163 : px_S t163 ((a + 1) + 1) 0 := ⟨g163, (e163 383 7 (by first | decide | omega)).trans s151.2.1, (e163 383 8 (by first | decide | omega)).trans s151.2.2.1, s151.2.2.2⟩
              refine ex_go (S := (137, [(3, .inl (278 + (3 * (σ 4 0)))), (2, .inl b29), (1, .inl (σ 4 0)), (0, gx_r 383)], [gx_r 383], t163, n, 0)) rfl (fun _ => rfl) rfl ?_
              refine gx_ref (c := 389) rfl s163.1 rfl rfl rfl rfl ?_
              refine ex_go (S := (141, [(3, .inl (278 + (3 * (σ 4 0)))), (2, .inl b29), (1, .inl (σ 4 0)), (0, gx_r 383)], [.inl (278 + (3 * (σ 4 0))), gx_r 389], t163, n, 0)) rfl (fun _ => rfl) rfl ?_
              refine ex_go (S := (142, [(3, .inl (278 + (3 * (σ 4 0)))), (2, .inl b29), (1, .inl (σ 4 0)), (0, gx_r 383)], [.inl 1, .inl (278 + (3 * (σ 4 0))), gx_r 389], t163, n, 0)) rfl (fun _ => rfl) rfl ?_
              refine ex_iadd rfl (by first | decide | omega) rfl ?_
              refine ex_go (S := (144, [(3, .inl (278 + (3 * (σ 4 0)))), (2, .inl b29), (1, .inl (σ 4 0)), (0, gx_r 383)], [gx_r 383, .inl ((278 + (3 * (σ 4 0))) + 1), gx_r 389], t163, n, 0)) rfl (fun _ => rfl) rfl ?_
              refine ex_go (S := (146, [(3, .inl (278 + (3 * (σ 4 0)))), (2, .inl b29), (1, .inl (σ 4 0)), (0, gx_r 383)], [.inl 9, gx_r 383, .inl ((278 + (3 * (σ 4 0))) + 1), gx_r 389], t163, n, 0)) rfl (fun _ => rfl) rfl ?_
              refine ex_go (S := (147, [(3, .inl (278 + (3 * (σ 4 0)))), (2, .inl b29), (1, .inl (σ 4 0)), (0, gx_r 383)], [.inl 1, .inl 9, gx_r 383, .inl ((278 + (3 * (σ 4 0))) + 1), gx_r 389], t163, n, 0)) rfl (fun _ => rfl) rfl ?_
              refine ex_go (S := (149, [(3, .inl (278 + (3 * (σ 4 0)))), (2, .inl b29), (1, .inl (σ 4 0)), (0, gx_r 383)], [.inl 30, .inl 1, .inl 9, gx_r 383, .inl ((278 + (3 * (σ 4 0))) + 1), gx_r 389], t163, n, 0)) rfl (fun _ => rfl) rfl ?_
              have hT76 := rT_keep (t' := t163) hT (fun c i h => (e163 c i (by first | decide | omega)).trans ((e151 c i (by first | decide | omega)).trans (e113 c i (by first | decide | omega))))
              obtain ⟨_, r175, v175, t175, a175, f175, rfl, s175, e175, z175, q175⟩ := pf_takeAfter d n (s163) hT76 (by first | decide | omega) (w := 9) (lo := 1) (hi := 30) (by first | decide | omega) (by first | decide | omega) (by first | decide | omega)
              have b175 := s175.2.2.2
              have y175 := z175.trans (congrArg (fun p9 => fn S m N 1 30 (fw S m N 9 p9)) y4)
              refine gx_call1 rfl rfl s163.1 rfl rfl r175 rfl ?_
              have k77 : ai_hv t175 389 160 = some (.inl (σ 0 0)) := (e175 389 160 (by first | decide | omega)).trans k64
              have k78 : ai_hv t175 389 161 = some (.inl (σ 1 0)) := (e175 389 161 (by first | decide | omega)).trans k65
              have k79 : ai_hv t175 389 162 = some (.inl (σ 2 0)) := (e175 389 162 (by first | decide | omega)).trans k66
              have k80 : ai_hv t175 389 163 = some (.inl (σ 3 0)) := (e175 389 163 (by first | decide | omega)).trans k67
              have k81 : ai_hv t175 389 164 = some (.inl (σ 4 0)) := (e175 389 164 (by first | decide | omega)).trans k68
              have k82 : ai_hv t175 389 166 = some (.inl (σ 5 0)) := (e175 389 166 (by first | decide | omega)).trans k69
              have k83 : ai_hv t175 389 167 = some (.inl (σ 6 0)) := (e175 389 167 (by first | decide | omega)).trans k70
              have k84 : ai_hv t175 389 168 = some (.inl (σ 7 0)) := (e175 389 168 (by first | decide | omega)).trans k71
              have k85 : ai_hv t175 383 20 = some (.inl (σ 8 0)) := (e175 383 20 (by first | decide | omega)).trans k72
              have k86 : ai_hv t175 383 19 = some (.inl (σ 15 0)) := (e175 383 19 (by first | decide | omega)).trans k73
              have k87 : ai_hv t175 389 (236 + (3 * b29)) = some (.inl (σ 10 b29)) := (e175 389 (236 + (3 * b29)) (by first | decide | omega)).trans k74
              have k88 : ai_hv t175 389 (278 + (3 * (σ 4 0))) = some (.inl b29) := (e175 389 (278 + (3 * (σ 4 0))) (by first | decide | omega)).trans k163
              refine gx_ap rfl (fun _ => rfl) s175.1 rfl rfl rfl (show (278 + (3 * (σ 4 0))) + 1 < 320 from by omega) (px_run_crew1 ((σ 4 0)) (by first | decide | omega) (by first | decide | omega)) (ai_in_h (by first | decide | omega) (by first | decide | omega) (by first | decide | omega)) rfl (fun t189 g189 k189 e189 => ?_)
              have k90 : ai_hv t189 389 160 = some (.inl (σ 0 0)) := (e189 389 160 (by first | decide | omega)).trans k77
              have k91 : ai_hv t189 389 161 = some (.inl (σ 1 0)) := (e189 389 161 (by first | decide | omega)).trans k78
              have k92 : ai_hv t189 389 162 = some (.inl (σ 2 0)) := (e189 389 162 (by first | decide | omega)).trans k79
              have k93 : ai_hv t189 389 163 = some (.inl (σ 3 0)) := (e189 389 163 (by first | decide | omega)).trans k80
              have k94 : ai_hv t189 389 164 = some (.inl (σ 4 0)) := (e189 389 164 (by first | decide | omega)).trans k81
              have k95 : ai_hv t189 389 166 = some (.inl (σ 5 0)) := (e189 389 166 (by first | decide | omega)).trans k82
              have k96 : ai_hv t189 389 167 = some (.inl (σ 6 0)) := (e189 389 167 (by first | decide | omega)).trans k83
              have k97 : ai_hv t189 389 168 = some (.inl (σ 7 0)) := (e189 389 168 (by first | decide | omega)).trans k84
              have k98 : ai_hv t189 383 20 = some (.inl (σ 8 0)) := (e189 383 20 (by first | decide | omega)).trans k85
              have k99 : ai_hv t189 383 19 = some (.inl (σ 15 0)) := (e189 383 19 (by first | decide | omega)).trans k86
              have k100 : ai_hv t189 389 (236 + (3 * b29)) = some (.inl (σ 10 b29)) := (e189 389 (236 + (3 * b29)) (by first | decide | omega)).trans k87
              have k101 : ai_hv t189 389 (278 + (3 * (σ 4 0))) = some (.inl b29) := (e189 389 (278 + (3 * (σ 4 0))) (by first | decide | omega)).trans k88
              have s189 : px_S t189 a175 f175 := ⟨g189, (e189 383 7 (by first | decide | omega)).trans s175.2.1, (e189 383 8 (by first | decide | omega)).trans s175.2.2.1, s175.2.2.2⟩
              refine ex_go (S := (154, [(3, .inl (278 + (3 * (σ 4 0)))), (2, .inl b29), (1, .inl (σ 4 0)), (0, gx_r 383)], [gx_r 383], t189, n, 0)) rfl (fun _ => rfl) rfl ?_
              refine gx_ref (c := 389) rfl s189.1 rfl rfl rfl rfl ?_
              refine ex_go (S := (158, [(3, .inl (278 + (3 * (σ 4 0)))), (2, .inl b29), (1, .inl (σ 4 0)), (0, gx_r 383)], [.inl (278 + (3 * (σ 4 0))), gx_r 389], t189, n, 0)) rfl (fun _ => rfl) rfl ?_
              refine ex_go (S := (159, [(3, .inl (278 + (3 * (σ 4 0)))), (2, .inl b29), (1, .inl (σ 4 0)), (0, gx_r 383)], [.inl 2, .inl (278 + (3 * (σ 4 0))), gx_r 389], t189, n, 0)) rfl (fun _ => rfl) rfl ?_
              refine ex_iadd rfl (by first | decide | omega) rfl ?_
              refine ex_go (S := (161, [(3, .inl (278 + (3 * (σ 4 0)))), (2, .inl b29), (1, .inl (σ 4 0)), (0, gx_r 383)], [gx_r 383, .inl ((278 + (3 * (σ 4 0))) + 2), gx_r 389], t189, n, 0)) rfl (fun _ => rfl) rfl ?_
              refine ex_go (S := (163, [(3, .inl (278 + (3 * (σ 4 0)))), (2, .inl b29), (1, .inl (σ 4 0)), (0, gx_r 383)], [.inl 10, gx_r 383, .inl ((278 + (3 * (σ 4 0))) + 2), gx_r 389], t189, n, 0)) rfl (fun _ => rfl) rfl ?_
              refine ex_go (S := (164, [(3, .inl (278 + (3 * (σ 4 0)))), (2, .inl b29), (1, .inl (σ 4 0)), (0, gx_r 383)], [.inl 0, .inl 10, gx_r 383, .inl ((278 + (3 * (σ 4 0))) + 2), gx_r 389], t189, n, 0)) rfl (fun _ => rfl) rfl ?_
              refine ex_go (S := (167, [(3, .inl (278 + (3 * (σ 4 0)))), (2, .inl b29), (1, .inl (σ 4 0)), (0, gx_r 383)], [.inl 9999, .inl 0, .inl 10, gx_r 383, .inl ((278 + (3 * (σ 4 0))) + 2), gx_r 389], t189, n, 0)) rfl (fun _ => rfl) rfl ?_
              have hT103 := rT_keep (t' := t189) hT (fun c i h => (e189 c i (by first | decide | omega)).trans ((e175 c i (by first | decide | omega)).trans ((e163 c i (by first | decide | omega)).trans ((e151 c i (by first | decide | omega)).trans (e113 c i (by first | decide | omega))))))
              obtain ⟨_, r202, v202, t202, a202, f202, rfl, s202, e202, z202, q202⟩ := pf_takeAfter d n (s189) hT103 (by first | decide | omega) (w := 10) (lo := 0) (hi := 9999) (by first | decide | omega) (by first | decide | omega) (by first | decide | omega)
              have b202 := s202.2.2.2
              have y202 := z202.trans (congrArg (fun p9 => fn S m N 0 9999 (fw S m N 10 p9)) y175)
              refine gx_call1 rfl rfl s189.1 rfl rfl r202 rfl ?_
              have k104 : ai_hv t202 389 160 = some (.inl (σ 0 0)) := (e202 389 160 (by first | decide | omega)).trans k90
              have k105 : ai_hv t202 389 161 = some (.inl (σ 1 0)) := (e202 389 161 (by first | decide | omega)).trans k91
              have k106 : ai_hv t202 389 162 = some (.inl (σ 2 0)) := (e202 389 162 (by first | decide | omega)).trans k92
              have k107 : ai_hv t202 389 163 = some (.inl (σ 3 0)) := (e202 389 163 (by first | decide | omega)).trans k93
              have k108 : ai_hv t202 389 164 = some (.inl (σ 4 0)) := (e202 389 164 (by first | decide | omega)).trans k94
              have k109 : ai_hv t202 389 166 = some (.inl (σ 5 0)) := (e202 389 166 (by first | decide | omega)).trans k95
              have k110 : ai_hv t202 389 167 = some (.inl (σ 6 0)) := (e202 389 167 (by first | decide | omega)).trans k96
              have k111 : ai_hv t202 389 168 = some (.inl (σ 7 0)) := (e202 389 168 (by first | decide | omega)).trans k97
              have k112 : ai_hv t202 383 20 = some (.inl (σ 8 0)) := (e202 383 20 (by first | decide | omega)).trans k98
              have k113 : ai_hv t202 383 19 = some (.inl (σ 15 0)) := (e202 383 19 (by first | decide | omega)).trans k99
              have k114 : ai_hv t202 389 (236 + (3 * b29)) = some (.inl (σ 10 b29)) := (e202 389 (236 + (3 * b29)) (by first | decide | omega)).trans k100
              have k115 : ai_hv t202 389 (278 + (3 * (σ 4 0))) = some (.inl b29) := (e202 389 (278 + (3 * (σ 4 0))) (by first | decide | omega)).trans k101
              have k116 : ai_hv t202 389 ((278 + (3 * (σ 4 0))) + 1) = some (.inl v175) := (e202 389 ((278 + (3 * (σ 4 0))) + 1) (by first | decide | omega)).trans k189
              refine gx_ap rfl (fun _ => rfl) s202.1 rfl rfl rfl (show (278 + (3 * (σ 4 0))) + 2 < 320 from by omega) (px_run_crew2 ((σ 4 0)) (by first | decide | omega) (by first | decide | omega)) (ai_in_h (by first | decide | omega) (by first | decide | omega) (by first | decide | omega)) rfl (fun t217 g217 k217 e217 => ?_)
              have k118 : ai_hv t217 389 160 = some (.inl (σ 0 0)) := (e217 389 160 (by first | decide | omega)).trans k104
              have k119 : ai_hv t217 389 161 = some (.inl (σ 1 0)) := (e217 389 161 (by first | decide | omega)).trans k105
              have k120 : ai_hv t217 389 162 = some (.inl (σ 2 0)) := (e217 389 162 (by first | decide | omega)).trans k106
              have k121 : ai_hv t217 389 163 = some (.inl (σ 3 0)) := (e217 389 163 (by first | decide | omega)).trans k107
              have k122 : ai_hv t217 389 164 = some (.inl (σ 4 0)) := (e217 389 164 (by first | decide | omega)).trans k108
              have k123 : ai_hv t217 389 166 = some (.inl (σ 5 0)) := (e217 389 166 (by first | decide | omega)).trans k109
              have k124 : ai_hv t217 389 167 = some (.inl (σ 6 0)) := (e217 389 167 (by first | decide | omega)).trans k110
              have k125 : ai_hv t217 389 168 = some (.inl (σ 7 0)) := (e217 389 168 (by first | decide | omega)).trans k111
              have k126 : ai_hv t217 383 20 = some (.inl (σ 8 0)) := (e217 383 20 (by first | decide | omega)).trans k112
              have k127 : ai_hv t217 383 19 = some (.inl (σ 15 0)) := (e217 383 19 (by first | decide | omega)).trans k113
              have k128 : ai_hv t217 389 (236 + (3 * b29)) = some (.inl (σ 10 b29)) := (e217 389 (236 + (3 * b29)) (by first | decide | omega)).trans k114
              have k129 : ai_hv t217 389 (278 + (3 * (σ 4 0))) = some (.inl b29) := (e217 389 (278 + (3 * (σ 4 0))) (by first | decide | omega)).trans k115
              have k130 : ai_hv t217 389 ((278 + (3 * (σ 4 0))) + 1) = some (.inl v175) := (e217 389 ((278 + (3 * (σ 4 0))) + 1) (by first | decide | omega)).trans k116
              have s217 : px_S t217 a202 f202 := ⟨g217, (e217 383 7 (by first | decide | omega)).trans s202.2.1, (e217 383 8 (by first | decide | omega)).trans s202.2.2.1, s202.2.2.2⟩
              refine ex_go (S := (172, [(3, .inl (278 + (3 * (σ 4 0)))), (2, .inl b29), (1, .inl (σ 4 0)), (0, gx_r 383)], [gx_r 383], t217, n, 0)) rfl (fun _ => rfl) rfl ?_
              refine gx_ref (c := 389) rfl s217.1 rfl rfl rfl rfl ?_
              refine ex_go (S := (178, [(3, .inl (278 + (3 * (σ 4 0)))), (2, .inl b29), (1, .inl (σ 4 0)), (0, gx_r 383)], [.inl 164, gx_r 389], t217, n, 0)) rfl (fun _ => rfl) rfl ?_
              refine ex_go (S := (179, [(3, .inl (278 + (3 * (σ 4 0)))), (2, .inl b29), (1, .inl (σ 4 0)), (0, gx_r 383)], [.inl 164, gx_r 389, .inl 164, gx_r 389], t217, n, 0)) rfl (fun _ => rfl) rfl ?_
              refine gx_ag (v := .inl (σ 4 0)) (cb := fun c => Nat.beq c 0) rfl (fun _ => rfl) s217.1 rfl rfl k122 (by first | decide | omega) rfl ?_
              refine ex_go (S := (181, [(3, .inl (278 + (3 * (σ 4 0)))), (2, .inl b29), (1, .inl (σ 4 0)), (0, gx_r 383)], [.inl 1, .inl (σ 4 0), .inl 164, gx_r 389], t217, n, 0)) rfl (fun _ => rfl) rfl ?_
              refine ex_iadd rfl (by first | decide | omega) rfl ?_
              refine gx_ap rfl (fun _ => rfl) s217.1 rfl rfl rfl (show 164 < 320 from by omega) rfl (ai_in_h (by first | decide | omega) (by first | decide | omega) (by first | decide | omega)) rfl (fun t231 g231 k231 e231 => ?_)
              have k132 : ai_hv t231 389 160 = some (.inl (σ 0 0)) := (e231 389 160 (by first | decide | omega)).trans k118
              have k133 : ai_hv t231 389 161 = some (.inl (σ 1 0)) := (e231 389 161 (by first | decide | omega)).trans k119
              have k134 : ai_hv t231 389 162 = some (.inl (σ 2 0)) := (e231 389 162 (by first | decide | omega)).trans k120
              have k135 : ai_hv t231 389 163 = some (.inl (σ 3 0)) := (e231 389 163 (by first | decide | omega)).trans k121
              have k136 : ai_hv t231 389 166 = some (.inl (σ 5 0)) := (e231 389 166 (by first | decide | omega)).trans k123
              have k137 : ai_hv t231 389 167 = some (.inl (σ 6 0)) := (e231 389 167 (by first | decide | omega)).trans k124
              have k138 : ai_hv t231 389 168 = some (.inl (σ 7 0)) := (e231 389 168 (by first | decide | omega)).trans k125
              have k139 : ai_hv t231 383 20 = some (.inl (σ 8 0)) := (e231 383 20 (by first | decide | omega)).trans k126
              have k140 : ai_hv t231 383 19 = some (.inl (σ 15 0)) := (e231 383 19 (by first | decide | omega)).trans k127
              have k141 : ai_hv t231 389 (236 + (3 * b29)) = some (.inl (σ 10 b29)) := (e231 389 (236 + (3 * b29)) (by first | decide | omega)).trans k128
              have k142 : ai_hv t231 389 (278 + (3 * (σ 4 0))) = some (.inl b29) := (e231 389 (278 + (3 * (σ 4 0))) (by first | decide | omega)).trans k129
              have k143 : ai_hv t231 389 ((278 + (3 * (σ 4 0))) + 1) = some (.inl v175) := (e231 389 ((278 + (3 * (σ 4 0))) + 1) (by first | decide | omega)).trans k130
              have k144 : ai_hv t231 389 ((278 + (3 * (σ 4 0))) + 2) = some (.inl v202) := (e231 389 ((278 + (3 * (σ 4 0))) + 2) (by first | decide | omega)).trans k217
              have s231 : px_S t231 a202 f202 := ⟨g231, (e231 383 7 (by first | decide | omega)).trans s217.2.1, (e231 383 8 (by first | decide | omega)).trans s217.2.2.1, s217.2.2.2⟩
              refine ex_ret (r := (none, t231, n, 0)) rfl (fun _ => rfl) ?_
              have hT145 := rT_keep (t' := t231) hT (fun c i h => (e231 c i (by first | decide | omega)).trans ((e217 c i (by first | decide | omega)).trans ((e202 c i (by first | decide | omega)).trans ((e189 c i (by first | decide | omega)).trans ((e175 c i (by first | decide | omega)).trans ((e163 c i (by first | decide | omega)).trans ((e151 c i (by first | decide | omega)).trans (e113 c i (by first | decide | omega)))))))))
              refine ⟨_, rfl, t231, a202, f202, rfl, s231, hT145, y202, by omega, fun h0 => ⟨by omega, ?_⟩⟩
              have x7 : ai_hv t231 389 (278 + 3 * σ 4 0) = some (.inl (σ 14 (sg_k S m σ (a + 1)))) := by rw [← htb]; exact k142
              have xb146 : rows t231 389 237 3 (σ 2 0) (fun i => sp_nv S m (σ 16 i + 3)) := rows_keep hb0 (fun i hi => (e231 389 (237 + 3 * i) (by first | decide | omega)).trans ((e217 389 (237 + 3 * i) (by first | decide | omega)).trans ((e202 389 (237 + 3 * i) (by first | decide | omega)).trans ((e189 389 (237 + 3 * i) (by first | decide | omega)).trans ((e175 389 (237 + 3 * i) (by first | decide | omega)).trans ((e163 389 (237 + 3 * i) (by first | decide | omega)).trans ((e151 389 (237 + 3 * i) (by first | decide | omega)).trans (e113 389 (237 + 3 * i) (by first | decide | omega)))))))))
              have xb147 : rows t231 389 238 3 (σ 2 0) (fun i => sp_nv S m (σ 16 i + 4)) := rows_keep hb1 (fun i hi => (e231 389 (238 + 3 * i) (by first | decide | omega)).trans ((e217 389 (238 + 3 * i) (by first | decide | omega)).trans ((e202 389 (238 + 3 * i) (by first | decide | omega)).trans ((e189 389 (238 + 3 * i) (by first | decide | omega)).trans ((e175 389 (238 + 3 * i) (by first | decide | omega)).trans ((e163 389 (238 + 3 * i) (by first | decide | omega)).trans ((e151 389 (238 + 3 * i) (by first | decide | omega)).trans (e113 389 (238 + 3 * i) (by first | decide | omega)))))))))
              have xb148 : rows t231 389 255 4 (σ 3 0) (fun i => sp_nv S m (σ 20 i + 4)) := rows_keep hb2 (fun i hi => (e231 389 (255 + 4 * i) (by first | decide | omega)).trans ((e217 389 (255 + 4 * i) (by first | decide | omega)).trans ((e202 389 (255 + 4 * i) (by first | decide | omega)).trans ((e189 389 (255 + 4 * i) (by first | decide | omega)).trans ((e175 389 (255 + 4 * i) (by first | decide | omega)).trans ((e163 389 (255 + 4 * i) (by first | decide | omega)).trans ((e151 389 (255 + 4 * i) (by first | decide | omega)).trans (e113 389 (255 + 4 * i) (by first | decide | omega)))))))))
              have xb149 : rows t231 389 256 4 (σ 3 0) (fun i => sp_nv S m (σ 20 i + 6)) := rows_keep hb3 (fun i hi => (e231 389 (256 + 4 * i) (by first | decide | omega)).trans ((e217 389 (256 + 4 * i) (by first | decide | omega)).trans ((e202 389 (256 + 4 * i) (by first | decide | omega)).trans ((e189 389 (256 + 4 * i) (by first | decide | omega)).trans ((e175 389 (256 + 4 * i) (by first | decide | omega)).trans ((e163 389 (256 + 4 * i) (by first | decide | omega)).trans ((e151 389 (256 + 4 * i) (by first | decide | omega)).trans (e113 389 (256 + 4 * i) (by first | decide | omega)))))))))
              have xb150 : rows t231 389 257 4 (σ 3 0) (fun i => sp_nv S m (σ 20 i + 8)) := rows_keep hb4 (fun i hi => (e231 389 (257 + 4 * i) (by first | decide | omega)).trans ((e217 389 (257 + 4 * i) (by first | decide | omega)).trans ((e202 389 (257 + 4 * i) (by first | decide | omega)).trans ((e189 389 (257 + 4 * i) (by first | decide | omega)).trans ((e175 389 (257 + 4 * i) (by first | decide | omega)).trans ((e163 389 (257 + 4 * i) (by first | decide | omega)).trans ((e151 389 (257 + 4 * i) (by first | decide | omega)).trans (e113 389 (257 + 4 * i) (by first | decide | omega)))))))))
              have xb151 : rows t231 389 279 3 (σ 4 0) (fun i => sp_nv S m (σ 21 i + 3)) := rows_keep hb5 (fun i hi => (e231 389 (279 + 3 * i) (by first | decide | omega)).trans ((e217 389 (279 + 3 * i) (by first | decide | omega)).trans ((e202 389 (279 + 3 * i) (by first | decide | omega)).trans ((e189 389 (279 + 3 * i) (by first | decide | omega)).trans ((e175 389 (279 + 3 * i) (by first | decide | omega)).trans ((e163 389 (279 + 3 * i) (by first | decide | omega)).trans ((e151 389 (279 + 3 * i) (by first | decide | omega)).trans (e113 389 (279 + 3 * i) (by first | decide | omega)))))))))
              have hnv152 : ai_hv t231 389 (279 + 3 * σ 4 0) = some (.inl (sp_nv S m (a + 3))) := by
                have h9 : v175 = sp_nv S m (a + 3) := by rw [← show (a + 1) + 1 + 1 = a + 3 by omega]; omega
                show _ = some (Sum.inl (sp_nv S m (a + 3)))
                rw [← h9, show 279 + 3 * σ 4 0 = (278 + (3 * (σ 4 0))) + 1 by omega]
                exact k143
              have xb153 : rows t231 389 280 3 (σ 4 0) (fun i => sp_nv S m (σ 21 i + 5)) := rows_keep hb6 (fun i hi => (e231 389 (280 + 3 * i) (by first | decide | omega)).trans ((e217 389 (280 + 3 * i) (by first | decide | omega)).trans ((e202 389 (280 + 3 * i) (by first | decide | omega)).trans ((e189 389 (280 + 3 * i) (by first | decide | omega)).trans ((e175 389 (280 + 3 * i) (by first | decide | omega)).trans ((e163 389 (280 + 3 * i) (by first | decide | omega)).trans ((e151 389 (280 + 3 * i) (by first | decide | omega)).trans (e113 389 (280 + 3 * i) (by first | decide | omega)))))))))
              have hnv154 : ai_hv t231 389 (280 + 3 * σ 4 0) = some (.inl (sp_nv S m (a + 5))) := by
                have h9 : v202 = sp_nv S m (a + 5) := by rw [← show a175 + 1 = a + 5 by omega]; omega
                show _ = some (Sum.inl (sp_nv S m (a + 5)))
                rw [← h9, show 280 + 3 * σ 4 0 = (278 + (3 * (σ 4 0))) + 2 by omega]
                exact k144
              have xb155 : rows t231 389 284 2 (σ 5 0) (fun i => sp_nv S m (σ 17 i + 2)) := rows_keep hb7 (fun i hi => (e231 389 (284 + 2 * i) (by first | decide | omega)).trans ((e217 389 (284 + 2 * i) (by first | decide | omega)).trans ((e202 389 (284 + 2 * i) (by first | decide | omega)).trans ((e189 389 (284 + 2 * i) (by first | decide | omega)).trans ((e175 389 (284 + 2 * i) (by first | decide | omega)).trans ((e163 389 (284 + 2 * i) (by first | decide | omega)).trans ((e151 389 (284 + 2 * i) (by first | decide | omega)).trans (e113 389 (284 + 2 * i) (by first | decide | omega)))))))))
              have xb156 : rows t231 389 285 2 (σ 5 0) (fun i => sp_nv S m (σ 17 i + 4)) := rows_keep hb8 (fun i hi => (e231 389 (285 + 2 * i) (by first | decide | omega)).trans ((e217 389 (285 + 2 * i) (by first | decide | omega)).trans ((e202 389 (285 + 2 * i) (by first | decide | omega)).trans ((e189 389 (285 + 2 * i) (by first | decide | omega)).trans ((e175 389 (285 + 2 * i) (by first | decide | omega)).trans ((e163 389 (285 + 2 * i) (by first | decide | omega)).trans ((e151 389 (285 + 2 * i) (by first | decide | omega)).trans (e113 389 (285 + 2 * i) (by first | decide | omega)))))))))
              have xb157 : rows t231 389 294 1 (σ 6 0) (fun i => sp_nv S m (σ 18 i + 2)) := rows_keep hb9 (fun i hi => (e231 389 (294 + 1 * i) (by first | decide | omega)).trans ((e217 389 (294 + 1 * i) (by first | decide | omega)).trans ((e202 389 (294 + 1 * i) (by first | decide | omega)).trans ((e189 389 (294 + 1 * i) (by first | decide | omega)).trans ((e175 389 (294 + 1 * i) (by first | decide | omega)).trans ((e163 389 (294 + 1 * i) (by first | decide | omega)).trans ((e151 389 (294 + 1 * i) (by first | decide | omega)).trans (e113 389 (294 + 1 * i) (by first | decide | omega)))))))))
              have xb158 : rows t231 389 300 2 (σ 7 0) (fun i => sp_nv S m (σ 19 i + 2)) := rows_keep hb10 (fun i hi => (e231 389 (300 + 2 * i) (by first | decide | omega)).trans ((e217 389 (300 + 2 * i) (by first | decide | omega)).trans ((e202 389 (300 + 2 * i) (by first | decide | omega)).trans ((e189 389 (300 + 2 * i) (by first | decide | omega)).trans ((e175 389 (300 + 2 * i) (by first | decide | omega)).trans ((e163 389 (300 + 2 * i) (by first | decide | omega)).trans ((e151 389 (300 + 2 * i) (by first | decide | omega)).trans (e113 389 (300 + 2 * i) (by first | decide | omega)))))))))
              have xb159 : rows t231 389 301 2 (σ 7 0) (fun i => sp_nv S m (σ 19 i + 4)) := rows_keep hb11 (fun i hi => (e231 389 (301 + 2 * i) (by first | decide | omega)).trans ((e217 389 (301 + 2 * i) (by first | decide | omega)).trans ((e202 389 (301 + 2 * i) (by first | decide | omega)).trans ((e189 389 (301 + 2 * i) (by first | decide | omega)).trans ((e175 389 (301 + 2 * i) (by first | decide | omega)).trans ((e163 389 (301 + 2 * i) (by first | decide | omega)).trans ((e151 389 (301 + 2 * i) (by first | decide | omega)).trans (e113 389 (301 + 2 * i) (by first | decide | omega)))))))))
              have xb160 : rows t231 389 172 1 64 (σ 23) := rows_keep hb13 (fun i hi => (e231 389 (172 + 1 * i) (by first | decide | omega)).trans ((e217 389 (172 + 1 * i) (by first | decide | omega)).trans ((e202 389 (172 + 1 * i) (by first | decide | omega)).trans ((e189 389 (172 + 1 * i) (by first | decide | omega)).trans ((e175 389 (172 + 1 * i) (by first | decide | omega)).trans ((e163 389 (172 + 1 * i) (by first | decide | omega)).trans ((e151 389 (172 + 1 * i) (by first | decide | omega)).trans (e113 389 (172 + 1 * i) (by first | decide | omega)))))))))
              have xk161 : rows t231 389 236 3 (σ 2 0) (σ 10) := rows_keep hRk (fun i hi => (e231 389 (236 + 3 * i) (by first | decide | omega)).trans ((e217 389 (236 + 3 * i) (by first | decide | omega)).trans ((e202 389 (236 + 3 * i) (by first | decide | omega)).trans ((e189 389 (236 + 3 * i) (by first | decide | omega)).trans ((e175 389 (236 + 3 * i) (by first | decide | omega)).trans ((e163 389 (236 + 3 * i) (by first | decide | omega)).trans ((e151 389 (236 + 3 * i) (by first | decide | omega)).trans (e113 389 (236 + 3 * i) (by first | decide | omega)))))))))
              have xk162 : rows t231 389 254 4 (σ 3 0) (σ 11) := rows_keep hRl (fun i hi => (e231 389 (254 + 4 * i) (by first | decide | omega)).trans ((e217 389 (254 + 4 * i) (by first | decide | omega)).trans ((e202 389 (254 + 4 * i) (by first | decide | omega)).trans ((e189 389 (254 + 4 * i) (by first | decide | omega)).trans ((e175 389 (254 + 4 * i) (by first | decide | omega)).trans ((e163 389 (254 + 4 * i) (by first | decide | omega)).trans ((e151 389 (254 + 4 * i) (by first | decide | omega)).trans (e113 389 (254 + 4 * i) (by first | decide | omega)))))))))
              have xk163 : rows t231 389 278 3 (σ 4 0) (σ 12) := rows_keep hRs (fun i hi => (e231 389 (278 + 3 * i) (by first | decide | omega)).trans ((e217 389 (278 + 3 * i) (by first | decide | omega)).trans ((e202 389 (278 + 3 * i) (by first | decide | omega)).trans ((e189 389 (278 + 3 * i) (by first | decide | omega)).trans ((e175 389 (278 + 3 * i) (by first | decide | omega)).trans ((e163 389 (278 + 3 * i) (by first | decide | omega)).trans ((e151 389 (278 + 3 * i) (by first | decide | omega)).trans (e113 389 (278 + 3 * i) (by first | decide | omega)))))))))
              exact ⟨⟨k132, k133, k134, k135, k231, k136, k137, k138, k139, k140⟩, fun k hk => by
                  rcases hRL k hk with ⟨h1, h2⟩ | ⟨h1, z, h2, h3⟩
                  · exact Or.inl ⟨h1, ((e231 389 (169 + k) (by first | decide | omega)).trans ((e217 389 (169 + k) (by first | decide | omega)).trans ((e202 389 (169 + k) (by first | decide | omega)).trans ((e189 389 (169 + k) (by first | decide | omega)).trans ((e175 389 (169 + k) (by first | decide | omega)).trans ((e163 389 (169 + k) (by first | decide | omega)).trans ((e151 389 (169 + k) (by first | decide | omega)).trans (e113 389 (169 + k) (by first | decide | omega))))))))).trans h2⟩
                  · exact Or.inr ⟨h1, z, ((e231 389 (169 + k) (by first | decide | omega)).trans ((e217 389 (169 + k) (by first | decide | omega)).trans ((e202 389 (169 + k) (by first | decide | omega)).trans ((e189 389 (169 + k) (by first | decide | omega)).trans ((e175 389 (169 + k) (by first | decide | omega)).trans ((e163 389 (169 + k) (by first | decide | omega)).trans ((e151 389 (169 + k) (by first | decide | omega)).trans (e113 389 (169 + k) (by first | decide | omega))))))))).trans h2, h3⟩, xk161, xk162, rows_up xk163 x7, (fun k hk => ⟨((e231 393 k (by first | decide | omega)).trans ((e217 393 k (by first | decide | omega)).trans ((e202 393 k (by first | decide | omega)).trans ((e189 393 k (by first | decide | omega)).trans ((e175 393 k (by first | decide | omega)).trans ((e163 393 k (by first | decide | omega)).trans ((e151 393 k (by first | decide | omega)).trans (e113 393 k (by first | decide | omega))))))))).trans (hRN k hk).1, ((e231 395 k (by first | decide | omega)).trans ((e217 395 k (by first | decide | omega)).trans ((e202 395 k (by first | decide | omega)).trans ((e189 395 k (by first | decide | omega)).trans ((e175 395 k (by first | decide | omega)).trans ((e163 395 k (by first | decide | omega)).trans ((e151 395 k (by first | decide | omega)).trans (e113 395 k (by first | decide | omega))))))))).trans (hRN k hk).2⟩), xb146, xb147, xb148, xb149, xb150, rows_tk (g := σ 21) xb151 hnv152, rows_tk (g := σ 21) xb153 hnv154, xb155, xb156, xb157, xb158, xb159, ((e231 389 165 (by first | decide | omega)).trans ((e217 389 165 (by first | decide | omega)).trans ((e202 389 165 (by first | decide | omega)).trans ((e189 389 165 (by first | decide | omega)).trans ((e175 389 165 (by first | decide | omega)).trans ((e163 389 165 (by first | decide | omega)).trans ((e151 389 165 (by first | decide | omega)).trans (e113 389 165 (by first | decide | omega))))))))).trans hb12, xb160⟩
            · refine gx_2f (c := .ne) rfl (by first | decide | omega) (by first | decide | omega) hc50 rfl ?_
              refine ex_go (S := (87, [(2, .inl b29), (1, .inl (σ 4 0)), (0, gx_r 383)], [gx_r 383], t113, n, 0)) rfl (fun _ => rfl) rfl ?_
              refine gx_ref (c := 389) rfl s113.1 rfl rfl rfl rfl ?_
              refine ex_go (S := (93, [(2, .inl b29), (1, .inl (σ 4 0)), (0, gx_r 383)], [.inl 278, gx_r 389], t113, n, 0)) rfl (fun _ => rfl) rfl ?_
              have k164 : ai_hv t113 389 278 = some (.inl (σ 12 0)) := (e113 389 278 (by first | decide | omega)).trans (hRs 0 (by first | decide | omega))
              have hsb : σ 12 0 < 2147483648 := by
                obtain ⟨m9, k9, k8, k7⟩ := gx_in (c := 389) (i := 278) (lo := 0) (hi := 5) s113.1 rfl rfl rfl rfl
                have h9 := Sum.inl.inj (Option.some.inj (k164.symm.trans k9))
                omega
              refine gx_ag (v := .inl (σ 12 0)) (cb := fun c => Nat.beq c 0) rfl (fun _ => rfl) s113.1 rfl rfl k164 (by first | decide | omega) rfl ?_
              refine ex_go (S := (95, [(2, .inl b29), (1, .inl (σ 4 0)), (0, gx_r 383)], [.inl b29, .inl (σ 12 0)], t113, n, 0)) rfl (fun _ => rfl) rfl ?_
              by_cases hc165 : σ 12 0 ≠ b29
              · refine gx_2t (c := .ne) rfl (by first | decide | omega) (by first | decide | omega) hc165 rfl ?_
                refine ex_go (S := (104, [(2, .inl b29), (1, .inl (σ 4 0)), (0, gx_r 383)], [gx_r 383], t113, n, 0)) rfl (fun _ => rfl) rfl ?_
                refine gx_get rfl s113.1 rfl s113.2.2.1 rfl ?_
                refine ex_go (S := (111, [(2, .inl b29), (1, .inl (σ 4 0)), (0, gx_r 383)], [], t113, n, 0)) rfl (fun _ => rfl) rfl ?_
                have hsh : sg_ship S m σ (a + 1) := ⟨hta, by rw [← htb]; omega, by rw [← htb]; omega⟩
                have hnc : ¬ sg_crew S m σ (a + 1) := fun ⟨i, z1, z2⟩ => by rw [← htb, show i = 0 by omega] at z2; omega
                have y4 : (a + 1 + 1, 0) = fc S m N (sg_ship S m σ) (sg_crew S m σ) (fr S m (σ 4 0 = 2) 5 (a, 0)) := (fc_yes hnm hsh hnc).symm.trans (congrArg _ (fr_yes (S := S) (m := m) (w := 5) (a := a) hful).symm)
                refine ex_go (S := (112, [(2, .inl b29), (1, .inl (σ 4 0)), (0, gx_r 383)], [gx_r 383], t113, n, 0)) rfl (fun _ => rfl) rfl ?_
                refine ex_go (S := (113, [(2, .inl b29), (1, .inl (σ 4 0)), (0, gx_r 383)], [gx_r 383, gx_r 383], t113, n, 0)) rfl (fun _ => rfl) rfl ?_
                refine gx_get rfl s113.1 rfl s113.2.1 rfl ?_
                refine ex_go (S := (117, [(2, .inl b29), (1, .inl (σ 4 0)), (0, gx_r 383)], [.inl 1, .inl (a + 1), gx_r 383], t113, n, 0)) rfl (fun _ => rfl) rfl ?_
                refine ex_iadd rfl (by first | decide | omega) rfl ?_
                refine gx_put rfl s113.1 rfl rfl (ai_in_h (by first | decide | omega) (by first | decide | omega) (by first | decide | omega)) rfl (fun t266 g266 k266 e266 => ?_)
                have k167 : ai_hv t266 389 160 = some (.inl (σ 0 0)) := (e266 389 160 (by first | decide | omega)).trans k14
                have k168 : ai_hv t266 389 161 = some (.inl (σ 1 0)) := (e266 389 161 (by first | decide | omega)).trans k15
                have k169 : ai_hv t266 389 162 = some (.inl (σ 2 0)) := (e266 389 162 (by first | decide | omega)).trans k16
                have k170 : ai_hv t266 389 163 = some (.inl (σ 3 0)) := (e266 389 163 (by first | decide | omega)).trans k17
                have k171 : ai_hv t266 389 164 = some (.inl (σ 4 0)) := (e266 389 164 (by first | decide | omega)).trans k18
                have k172 : ai_hv t266 389 166 = some (.inl (σ 5 0)) := (e266 389 166 (by first | decide | omega)).trans k19
                have k173 : ai_hv t266 389 167 = some (.inl (σ 6 0)) := (e266 389 167 (by first | decide | omega)).trans k20
                have k174 : ai_hv t266 389 168 = some (.inl (σ 7 0)) := (e266 389 168 (by first | decide | omega)).trans k21
                have k175 : ai_hv t266 383 20 = some (.inl (σ 8 0)) := (e266 383 20 (by first | decide | omega)).trans k22
                have k176 : ai_hv t266 383 19 = some (.inl (σ 15 0)) := (e266 383 19 (by first | decide | omega)).trans k23
                have k177 : ai_hv t266 389 (236 + (3 * b29)) = some (.inl (σ 10 b29)) := (e266 389 (236 + (3 * b29)) (by first | decide | omega)).trans k48
                have k178 : ai_hv t266 389 278 = some (.inl (σ 12 0)) := (e266 389 278 (by first | decide | omega)).trans k164
                have s266 : px_S t266 ((a + 1) + 1) 0 := ⟨g266, k266, (e266 383 8 (by first | decide | omega)).trans s113.2.2.1, by omega, s113.2.2.2.2⟩
                refine ex_go (S := (124, [(2, .inl b29), (1, .inl (σ 4 0)), (0, gx_r 383)], [.inl 278], t266, n, 0)) rfl (fun _ => rfl) rfl ?_
                refine ex_go (S := (125, [(2, .inl b29), (1, .inl (σ 4 0)), (0, gx_r 383)], [.inl 3, .inl 278], t266, n, 0)) rfl (fun _ => rfl) rfl ?_
                refine ex_go (S := (126, [(2, .inl b29), (1, .inl (σ 4 0)), (0, gx_r 383)], [.inl (σ 4 0), .inl 3, .inl 278], t266, n, 0)) rfl (fun _ => rfl) rfl ?_
                refine gx_imul rfl (by first | decide | omega) rfl ?_
                refine ex_iadd rfl (by first | decide | omega) rfl ?_
                refine ex_go (S := (129, [(3, .inl (278 + (3 * (σ 4 0)))), (2, .inl b29), (1, .inl (σ 4 0)), (0, gx_r 383)], [], t266, n, 0)) rfl (fun _ => rfl) rfl ?_
                refine ex_go (S := (130, [(3, .inl (278 + (3 * (σ 4 0)))), (2, .inl b29), (1, .inl (σ 4 0)), (0, gx_r 383)], [gx_r 383], t266, n, 0)) rfl (fun _ => rfl) rfl ?_
                refine gx_ref (c := 389) rfl s266.1 rfl rfl rfl rfl ?_
                refine ex_go (S := (134, [(3, .inl (278 + (3 * (σ 4 0)))), (2, .inl b29), (1, .inl (σ 4 0)), (0, gx_r 383)], [.inl (278 + (3 * (σ 4 0))), gx_r 389], t266, n, 0)) rfl (fun _ => rfl) rfl ?_
                refine ex_go (S := (135, [(3, .inl (278 + (3 * (σ 4 0)))), (2, .inl b29), (1, .inl (σ 4 0)), (0, gx_r 383)], [.inl b29, .inl (278 + (3 * (σ 4 0))), gx_r 389], t266, n, 0)) rfl (fun _ => rfl) rfl ?_
                refine gx_ap rfl (fun _ => rfl) s266.1 rfl rfl rfl (show 278 + (3 * (σ 4 0)) < 320 from by omega) (px_run_crew0 ((σ 4 0)) (by first | decide | omega) (by first | decide | omega)) (ai_in_h (by first | decide | omega) (by first | decide | omega) (by first | decide | omega)) rfl (fun t279 g279 k279 e279 => ?_)
                have k180 : ai_hv t279 389 160 = some (.inl (σ 0 0)) := (e279 389 160 (by first | decide | omega)).trans k167
                have k181 : ai_hv t279 389 161 = some (.inl (σ 1 0)) := (e279 389 161 (by first | decide | omega)).trans k168
                have k182 : ai_hv t279 389 162 = some (.inl (σ 2 0)) := (e279 389 162 (by first | decide | omega)).trans k169
                have k183 : ai_hv t279 389 163 = some (.inl (σ 3 0)) := (e279 389 163 (by first | decide | omega)).trans k170
                have k184 : ai_hv t279 389 164 = some (.inl (σ 4 0)) := (e279 389 164 (by first | decide | omega)).trans k171
                have k185 : ai_hv t279 389 166 = some (.inl (σ 5 0)) := (e279 389 166 (by first | decide | omega)).trans k172
                have k186 : ai_hv t279 389 167 = some (.inl (σ 6 0)) := (e279 389 167 (by first | decide | omega)).trans k173
                have k187 : ai_hv t279 389 168 = some (.inl (σ 7 0)) := (e279 389 168 (by first | decide | omega)).trans k174
                have k188 : ai_hv t279 383 20 = some (.inl (σ 8 0)) := (e279 383 20 (by first | decide | omega)).trans k175
                have k189 : ai_hv t279 383 19 = some (.inl (σ 15 0)) := (e279 383 19 (by first | decide | omega)).trans k176
                have k190 : ai_hv t279 389 (236 + (3 * b29)) = some (.inl (σ 10 b29)) := (e279 389 (236 + (3 * b29)) (by first | decide | omega)).trans k177
                have k191 : ai_hv t279 389 278 = some (.inl (σ 12 0)) := (e279 389 278 (by first | decide | omega)).trans k178
                have s279 : px_S t279 ((a + 1) + 1) 0 := ⟨g279, (e279 383 7 (by first | decide | omega)).trans s266.2.1, (e279 383 8 (by first | decide | omega)).trans s266.2.2.1, s266.2.2.2⟩
                refine ex_go (S := (137, [(3, .inl (278 + (3 * (σ 4 0)))), (2, .inl b29), (1, .inl (σ 4 0)), (0, gx_r 383)], [gx_r 383], t279, n, 0)) rfl (fun _ => rfl) rfl ?_
                refine gx_ref (c := 389) rfl s279.1 rfl rfl rfl rfl ?_
                refine ex_go (S := (141, [(3, .inl (278 + (3 * (σ 4 0)))), (2, .inl b29), (1, .inl (σ 4 0)), (0, gx_r 383)], [.inl (278 + (3 * (σ 4 0))), gx_r 389], t279, n, 0)) rfl (fun _ => rfl) rfl ?_
                refine ex_go (S := (142, [(3, .inl (278 + (3 * (σ 4 0)))), (2, .inl b29), (1, .inl (σ 4 0)), (0, gx_r 383)], [.inl 1, .inl (278 + (3 * (σ 4 0))), gx_r 389], t279, n, 0)) rfl (fun _ => rfl) rfl ?_
                refine ex_iadd rfl (by first | decide | omega) rfl ?_
                refine ex_go (S := (144, [(3, .inl (278 + (3 * (σ 4 0)))), (2, .inl b29), (1, .inl (σ 4 0)), (0, gx_r 383)], [gx_r 383, .inl ((278 + (3 * (σ 4 0))) + 1), gx_r 389], t279, n, 0)) rfl (fun _ => rfl) rfl ?_
                refine ex_go (S := (146, [(3, .inl (278 + (3 * (σ 4 0)))), (2, .inl b29), (1, .inl (σ 4 0)), (0, gx_r 383)], [.inl 9, gx_r 383, .inl ((278 + (3 * (σ 4 0))) + 1), gx_r 389], t279, n, 0)) rfl (fun _ => rfl) rfl ?_
                refine ex_go (S := (147, [(3, .inl (278 + (3 * (σ 4 0)))), (2, .inl b29), (1, .inl (σ 4 0)), (0, gx_r 383)], [.inl 1, .inl 9, gx_r 383, .inl ((278 + (3 * (σ 4 0))) + 1), gx_r 389], t279, n, 0)) rfl (fun _ => rfl) rfl ?_
                refine ex_go (S := (149, [(3, .inl (278 + (3 * (σ 4 0)))), (2, .inl b29), (1, .inl (σ 4 0)), (0, gx_r 383)], [.inl 30, .inl 1, .inl 9, gx_r 383, .inl ((278 + (3 * (σ 4 0))) + 1), gx_r 389], t279, n, 0)) rfl (fun _ => rfl) rfl ?_
                have hT193 := rT_keep (t' := t279) hT (fun c i h => (e279 c i (by first | decide | omega)).trans ((e266 c i (by first | decide | omega)).trans (e113 c i (by first | decide | omega))))
                obtain ⟨_, r292, v292, t292, a292, f292, rfl, s292, e292, z292, q292⟩ := pf_takeAfter d n (s279) hT193 (by first | decide | omega) (w := 9) (lo := 1) (hi := 30) (by first | decide | omega) (by first | decide | omega) (by first | decide | omega)
                have b292 := s292.2.2.2
                have y292 := z292.trans (congrArg (fun p9 => fn S m N 1 30 (fw S m N 9 p9)) y4)
                refine gx_call1 rfl rfl s279.1 rfl rfl r292 rfl ?_
                have k194 : ai_hv t292 389 160 = some (.inl (σ 0 0)) := (e292 389 160 (by first | decide | omega)).trans k180
                have k195 : ai_hv t292 389 161 = some (.inl (σ 1 0)) := (e292 389 161 (by first | decide | omega)).trans k181
                have k196 : ai_hv t292 389 162 = some (.inl (σ 2 0)) := (e292 389 162 (by first | decide | omega)).trans k182
                have k197 : ai_hv t292 389 163 = some (.inl (σ 3 0)) := (e292 389 163 (by first | decide | omega)).trans k183
                have k198 : ai_hv t292 389 164 = some (.inl (σ 4 0)) := (e292 389 164 (by first | decide | omega)).trans k184
                have k199 : ai_hv t292 389 166 = some (.inl (σ 5 0)) := (e292 389 166 (by first | decide | omega)).trans k185
                have k200 : ai_hv t292 389 167 = some (.inl (σ 6 0)) := (e292 389 167 (by first | decide | omega)).trans k186
                have k201 : ai_hv t292 389 168 = some (.inl (σ 7 0)) := (e292 389 168 (by first | decide | omega)).trans k187
                have k202 : ai_hv t292 383 20 = some (.inl (σ 8 0)) := (e292 383 20 (by first | decide | omega)).trans k188
                have k203 : ai_hv t292 383 19 = some (.inl (σ 15 0)) := (e292 383 19 (by first | decide | omega)).trans k189
                have k204 : ai_hv t292 389 (236 + (3 * b29)) = some (.inl (σ 10 b29)) := (e292 389 (236 + (3 * b29)) (by first | decide | omega)).trans k190
                have k205 : ai_hv t292 389 278 = some (.inl (σ 12 0)) := (e292 389 278 (by first | decide | omega)).trans k191
                have k206 : ai_hv t292 389 (278 + (3 * (σ 4 0))) = some (.inl b29) := (e292 389 (278 + (3 * (σ 4 0))) (by first | decide | omega)).trans k279
                refine gx_ap rfl (fun _ => rfl) s292.1 rfl rfl rfl (show (278 + (3 * (σ 4 0))) + 1 < 320 from by omega) (px_run_crew1 ((σ 4 0)) (by first | decide | omega) (by first | decide | omega)) (ai_in_h (by first | decide | omega) (by first | decide | omega) (by first | decide | omega)) rfl (fun t307 g307 k307 e307 => ?_)
                have k208 : ai_hv t307 389 160 = some (.inl (σ 0 0)) := (e307 389 160 (by first | decide | omega)).trans k194
                have k209 : ai_hv t307 389 161 = some (.inl (σ 1 0)) := (e307 389 161 (by first | decide | omega)).trans k195
                have k210 : ai_hv t307 389 162 = some (.inl (σ 2 0)) := (e307 389 162 (by first | decide | omega)).trans k196
                have k211 : ai_hv t307 389 163 = some (.inl (σ 3 0)) := (e307 389 163 (by first | decide | omega)).trans k197
                have k212 : ai_hv t307 389 164 = some (.inl (σ 4 0)) := (e307 389 164 (by first | decide | omega)).trans k198
                have k213 : ai_hv t307 389 166 = some (.inl (σ 5 0)) := (e307 389 166 (by first | decide | omega)).trans k199
                have k214 : ai_hv t307 389 167 = some (.inl (σ 6 0)) := (e307 389 167 (by first | decide | omega)).trans k200
                have k215 : ai_hv t307 389 168 = some (.inl (σ 7 0)) := (e307 389 168 (by first | decide | omega)).trans k201
                have k216 : ai_hv t307 383 20 = some (.inl (σ 8 0)) := (e307 383 20 (by first | decide | omega)).trans k202
                have k217 : ai_hv t307 383 19 = some (.inl (σ 15 0)) := (e307 383 19 (by first | decide | omega)).trans k203
                have k218 : ai_hv t307 389 (236 + (3 * b29)) = some (.inl (σ 10 b29)) := (e307 389 (236 + (3 * b29)) (by first | decide | omega)).trans k204
                have k219 : ai_hv t307 389 278 = some (.inl (σ 12 0)) := (e307 389 278 (by first | decide | omega)).trans k205
                have k220 : ai_hv t307 389 (278 + (3 * (σ 4 0))) = some (.inl b29) := (e307 389 (278 + (3 * (σ 4 0))) (by first | decide | omega)).trans k206
                have s307 : px_S t307 a292 f292 := ⟨g307, (e307 383 7 (by first | decide | omega)).trans s292.2.1, (e307 383 8 (by first | decide | omega)).trans s292.2.2.1, s292.2.2.2⟩
                refine ex_go (S := (154, [(3, .inl (278 + (3 * (σ 4 0)))), (2, .inl b29), (1, .inl (σ 4 0)), (0, gx_r 383)], [gx_r 383], t307, n, 0)) rfl (fun _ => rfl) rfl ?_
                refine gx_ref (c := 389) rfl s307.1 rfl rfl rfl rfl ?_
                refine ex_go (S := (158, [(3, .inl (278 + (3 * (σ 4 0)))), (2, .inl b29), (1, .inl (σ 4 0)), (0, gx_r 383)], [.inl (278 + (3 * (σ 4 0))), gx_r 389], t307, n, 0)) rfl (fun _ => rfl) rfl ?_
                refine ex_go (S := (159, [(3, .inl (278 + (3 * (σ 4 0)))), (2, .inl b29), (1, .inl (σ 4 0)), (0, gx_r 383)], [.inl 2, .inl (278 + (3 * (σ 4 0))), gx_r 389], t307, n, 0)) rfl (fun _ => rfl) rfl ?_
                refine ex_iadd rfl (by first | decide | omega) rfl ?_
                refine ex_go (S := (161, [(3, .inl (278 + (3 * (σ 4 0)))), (2, .inl b29), (1, .inl (σ 4 0)), (0, gx_r 383)], [gx_r 383, .inl ((278 + (3 * (σ 4 0))) + 2), gx_r 389], t307, n, 0)) rfl (fun _ => rfl) rfl ?_
                refine ex_go (S := (163, [(3, .inl (278 + (3 * (σ 4 0)))), (2, .inl b29), (1, .inl (σ 4 0)), (0, gx_r 383)], [.inl 10, gx_r 383, .inl ((278 + (3 * (σ 4 0))) + 2), gx_r 389], t307, n, 0)) rfl (fun _ => rfl) rfl ?_
                refine ex_go (S := (164, [(3, .inl (278 + (3 * (σ 4 0)))), (2, .inl b29), (1, .inl (σ 4 0)), (0, gx_r 383)], [.inl 0, .inl 10, gx_r 383, .inl ((278 + (3 * (σ 4 0))) + 2), gx_r 389], t307, n, 0)) rfl (fun _ => rfl) rfl ?_
                refine ex_go (S := (167, [(3, .inl (278 + (3 * (σ 4 0)))), (2, .inl b29), (1, .inl (σ 4 0)), (0, gx_r 383)], [.inl 9999, .inl 0, .inl 10, gx_r 383, .inl ((278 + (3 * (σ 4 0))) + 2), gx_r 389], t307, n, 0)) rfl (fun _ => rfl) rfl ?_
                have hT222 := rT_keep (t' := t307) hT (fun c i h => (e307 c i (by first | decide | omega)).trans ((e292 c i (by first | decide | omega)).trans ((e279 c i (by first | decide | omega)).trans ((e266 c i (by first | decide | omega)).trans (e113 c i (by first | decide | omega))))))
                obtain ⟨_, r321, v321, t321, a321, f321, rfl, s321, e321, z321, q321⟩ := pf_takeAfter d n (s307) hT222 (by first | decide | omega) (w := 10) (lo := 0) (hi := 9999) (by first | decide | omega) (by first | decide | omega) (by first | decide | omega)
                have b321 := s321.2.2.2
                have y321 := z321.trans (congrArg (fun p9 => fn S m N 0 9999 (fw S m N 10 p9)) y292)
                refine gx_call1 rfl rfl s307.1 rfl rfl r321 rfl ?_
                have k223 : ai_hv t321 389 160 = some (.inl (σ 0 0)) := (e321 389 160 (by first | decide | omega)).trans k208
                have k224 : ai_hv t321 389 161 = some (.inl (σ 1 0)) := (e321 389 161 (by first | decide | omega)).trans k209
                have k225 : ai_hv t321 389 162 = some (.inl (σ 2 0)) := (e321 389 162 (by first | decide | omega)).trans k210
                have k226 : ai_hv t321 389 163 = some (.inl (σ 3 0)) := (e321 389 163 (by first | decide | omega)).trans k211
                have k227 : ai_hv t321 389 164 = some (.inl (σ 4 0)) := (e321 389 164 (by first | decide | omega)).trans k212
                have k228 : ai_hv t321 389 166 = some (.inl (σ 5 0)) := (e321 389 166 (by first | decide | omega)).trans k213
                have k229 : ai_hv t321 389 167 = some (.inl (σ 6 0)) := (e321 389 167 (by first | decide | omega)).trans k214
                have k230 : ai_hv t321 389 168 = some (.inl (σ 7 0)) := (e321 389 168 (by first | decide | omega)).trans k215
                have k231 : ai_hv t321 383 20 = some (.inl (σ 8 0)) := (e321 383 20 (by first | decide | omega)).trans k216
                have k232 : ai_hv t321 383 19 = some (.inl (σ 15 0)) := (e321 383 19 (by first | decide | omega)).trans k217
                have k233 : ai_hv t321 389 (236 + (3 * b29)) = some (.inl (σ 10 b29)) := (e321 389 (236 + (3 * b29)) (by first | decide | omega)).trans k218
                have k234 : ai_hv t321 389 278 = some (.inl (σ 12 0)) := (e321 389 278 (by first | decide | omega)).trans k219
                have k235 : ai_hv t321 389 (278 + (3 * (σ 4 0))) = some (.inl b29) := (e321 389 (278 + (3 * (σ 4 0))) (by first | decide | omega)).trans k220
                have k236 : ai_hv t321 389 ((278 + (3 * (σ 4 0))) + 1) = some (.inl v292) := (e321 389 ((278 + (3 * (σ 4 0))) + 1) (by first | decide | omega)).trans k307
                refine gx_ap rfl (fun _ => rfl) s321.1 rfl rfl rfl (show (278 + (3 * (σ 4 0))) + 2 < 320 from by omega) (px_run_crew2 ((σ 4 0)) (by first | decide | omega) (by first | decide | omega)) (ai_in_h (by first | decide | omega) (by first | decide | omega) (by first | decide | omega)) rfl (fun t337 g337 k337 e337 => ?_)
                have k238 : ai_hv t337 389 160 = some (.inl (σ 0 0)) := (e337 389 160 (by first | decide | omega)).trans k223
                have k239 : ai_hv t337 389 161 = some (.inl (σ 1 0)) := (e337 389 161 (by first | decide | omega)).trans k224
                have k240 : ai_hv t337 389 162 = some (.inl (σ 2 0)) := (e337 389 162 (by first | decide | omega)).trans k225
                have k241 : ai_hv t337 389 163 = some (.inl (σ 3 0)) := (e337 389 163 (by first | decide | omega)).trans k226
                have k242 : ai_hv t337 389 164 = some (.inl (σ 4 0)) := (e337 389 164 (by first | decide | omega)).trans k227
                have k243 : ai_hv t337 389 166 = some (.inl (σ 5 0)) := (e337 389 166 (by first | decide | omega)).trans k228
                have k244 : ai_hv t337 389 167 = some (.inl (σ 6 0)) := (e337 389 167 (by first | decide | omega)).trans k229
                have k245 : ai_hv t337 389 168 = some (.inl (σ 7 0)) := (e337 389 168 (by first | decide | omega)).trans k230
                have k246 : ai_hv t337 383 20 = some (.inl (σ 8 0)) := (e337 383 20 (by first | decide | omega)).trans k231
                have k247 : ai_hv t337 383 19 = some (.inl (σ 15 0)) := (e337 383 19 (by first | decide | omega)).trans k232
                have k248 : ai_hv t337 389 (236 + (3 * b29)) = some (.inl (σ 10 b29)) := (e337 389 (236 + (3 * b29)) (by first | decide | omega)).trans k233
                have k249 : ai_hv t337 389 278 = some (.inl (σ 12 0)) := (e337 389 278 (by first | decide | omega)).trans k234
                have k250 : ai_hv t337 389 (278 + (3 * (σ 4 0))) = some (.inl b29) := (e337 389 (278 + (3 * (σ 4 0))) (by first | decide | omega)).trans k235
                have k251 : ai_hv t337 389 ((278 + (3 * (σ 4 0))) + 1) = some (.inl v292) := (e337 389 ((278 + (3 * (σ 4 0))) + 1) (by first | decide | omega)).trans k236
                have s337 : px_S t337 a321 f321 := ⟨g337, (e337 383 7 (by first | decide | omega)).trans s321.2.1, (e337 383 8 (by first | decide | omega)).trans s321.2.2.1, s321.2.2.2⟩
                refine ex_go (S := (172, [(3, .inl (278 + (3 * (σ 4 0)))), (2, .inl b29), (1, .inl (σ 4 0)), (0, gx_r 383)], [gx_r 383], t337, n, 0)) rfl (fun _ => rfl) rfl ?_
                refine gx_ref (c := 389) rfl s337.1 rfl rfl rfl rfl ?_
                refine ex_go (S := (178, [(3, .inl (278 + (3 * (σ 4 0)))), (2, .inl b29), (1, .inl (σ 4 0)), (0, gx_r 383)], [.inl 164, gx_r 389], t337, n, 0)) rfl (fun _ => rfl) rfl ?_
                refine ex_go (S := (179, [(3, .inl (278 + (3 * (σ 4 0)))), (2, .inl b29), (1, .inl (σ 4 0)), (0, gx_r 383)], [.inl 164, gx_r 389, .inl 164, gx_r 389], t337, n, 0)) rfl (fun _ => rfl) rfl ?_
                refine gx_ag (v := .inl (σ 4 0)) (cb := fun c => Nat.beq c 0) rfl (fun _ => rfl) s337.1 rfl rfl k242 (by first | decide | omega) rfl ?_
                refine ex_go (S := (181, [(3, .inl (278 + (3 * (σ 4 0)))), (2, .inl b29), (1, .inl (σ 4 0)), (0, gx_r 383)], [.inl 1, .inl (σ 4 0), .inl 164, gx_r 389], t337, n, 0)) rfl (fun _ => rfl) rfl ?_
                refine ex_iadd rfl (by first | decide | omega) rfl ?_
                refine gx_ap rfl (fun _ => rfl) s337.1 rfl rfl rfl (show 164 < 320 from by omega) rfl (ai_in_h (by first | decide | omega) (by first | decide | omega) (by first | decide | omega)) rfl (fun t352 g352 k352 e352 => ?_)
                have k253 : ai_hv t352 389 160 = some (.inl (σ 0 0)) := (e352 389 160 (by first | decide | omega)).trans k238
                have k254 : ai_hv t352 389 161 = some (.inl (σ 1 0)) := (e352 389 161 (by first | decide | omega)).trans k239
                have k255 : ai_hv t352 389 162 = some (.inl (σ 2 0)) := (e352 389 162 (by first | decide | omega)).trans k240
                have k256 : ai_hv t352 389 163 = some (.inl (σ 3 0)) := (e352 389 163 (by first | decide | omega)).trans k241
                have k257 : ai_hv t352 389 166 = some (.inl (σ 5 0)) := (e352 389 166 (by first | decide | omega)).trans k243
                have k258 : ai_hv t352 389 167 = some (.inl (σ 6 0)) := (e352 389 167 (by first | decide | omega)).trans k244
                have k259 : ai_hv t352 389 168 = some (.inl (σ 7 0)) := (e352 389 168 (by first | decide | omega)).trans k245
                have k260 : ai_hv t352 383 20 = some (.inl (σ 8 0)) := (e352 383 20 (by first | decide | omega)).trans k246
                have k261 : ai_hv t352 383 19 = some (.inl (σ 15 0)) := (e352 383 19 (by first | decide | omega)).trans k247
                have k262 : ai_hv t352 389 (236 + (3 * b29)) = some (.inl (σ 10 b29)) := (e352 389 (236 + (3 * b29)) (by first | decide | omega)).trans k248
                have k263 : ai_hv t352 389 278 = some (.inl (σ 12 0)) := (e352 389 278 (by first | decide | omega)).trans k249
                have k264 : ai_hv t352 389 (278 + (3 * (σ 4 0))) = some (.inl b29) := (e352 389 (278 + (3 * (σ 4 0))) (by first | decide | omega)).trans k250
                have k265 : ai_hv t352 389 ((278 + (3 * (σ 4 0))) + 1) = some (.inl v292) := (e352 389 ((278 + (3 * (σ 4 0))) + 1) (by first | decide | omega)).trans k251
                have k266 : ai_hv t352 389 ((278 + (3 * (σ 4 0))) + 2) = some (.inl v321) := (e352 389 ((278 + (3 * (σ 4 0))) + 2) (by first | decide | omega)).trans k337
                have s352 : px_S t352 a321 f321 := ⟨g352, (e352 383 7 (by first | decide | omega)).trans s337.2.1, (e352 383 8 (by first | decide | omega)).trans s337.2.2.1, s337.2.2.2⟩
                refine ex_ret (r := (none, t352, n, 0)) rfl (fun _ => rfl) ?_
                have hT267 := rT_keep (t' := t352) hT (fun c i h => (e352 c i (by first | decide | omega)).trans ((e337 c i (by first | decide | omega)).trans ((e321 c i (by first | decide | omega)).trans ((e307 c i (by first | decide | omega)).trans ((e292 c i (by first | decide | omega)).trans ((e279 c i (by first | decide | omega)).trans ((e266 c i (by first | decide | omega)).trans (e113 c i (by first | decide | omega)))))))))
                refine ⟨_, rfl, t352, a321, f321, rfl, s352, hT267, y321, by omega, fun h0 => ⟨by omega, ?_⟩⟩
                have x7 : ai_hv t352 389 (278 + 3 * σ 4 0) = some (.inl (σ 14 (sg_k S m σ (a + 1)))) := by rw [← htb]; exact k264
                have xb268 : rows t352 389 237 3 (σ 2 0) (fun i => sp_nv S m (σ 16 i + 3)) := rows_keep hb0 (fun i hi => (e352 389 (237 + 3 * i) (by first | decide | omega)).trans ((e337 389 (237 + 3 * i) (by first | decide | omega)).trans ((e321 389 (237 + 3 * i) (by first | decide | omega)).trans ((e307 389 (237 + 3 * i) (by first | decide | omega)).trans ((e292 389 (237 + 3 * i) (by first | decide | omega)).trans ((e279 389 (237 + 3 * i) (by first | decide | omega)).trans ((e266 389 (237 + 3 * i) (by first | decide | omega)).trans (e113 389 (237 + 3 * i) (by first | decide | omega)))))))))
                have xb269 : rows t352 389 238 3 (σ 2 0) (fun i => sp_nv S m (σ 16 i + 4)) := rows_keep hb1 (fun i hi => (e352 389 (238 + 3 * i) (by first | decide | omega)).trans ((e337 389 (238 + 3 * i) (by first | decide | omega)).trans ((e321 389 (238 + 3 * i) (by first | decide | omega)).trans ((e307 389 (238 + 3 * i) (by first | decide | omega)).trans ((e292 389 (238 + 3 * i) (by first | decide | omega)).trans ((e279 389 (238 + 3 * i) (by first | decide | omega)).trans ((e266 389 (238 + 3 * i) (by first | decide | omega)).trans (e113 389 (238 + 3 * i) (by first | decide | omega)))))))))
                have xb270 : rows t352 389 255 4 (σ 3 0) (fun i => sp_nv S m (σ 20 i + 4)) := rows_keep hb2 (fun i hi => (e352 389 (255 + 4 * i) (by first | decide | omega)).trans ((e337 389 (255 + 4 * i) (by first | decide | omega)).trans ((e321 389 (255 + 4 * i) (by first | decide | omega)).trans ((e307 389 (255 + 4 * i) (by first | decide | omega)).trans ((e292 389 (255 + 4 * i) (by first | decide | omega)).trans ((e279 389 (255 + 4 * i) (by first | decide | omega)).trans ((e266 389 (255 + 4 * i) (by first | decide | omega)).trans (e113 389 (255 + 4 * i) (by first | decide | omega)))))))))
                have xb271 : rows t352 389 256 4 (σ 3 0) (fun i => sp_nv S m (σ 20 i + 6)) := rows_keep hb3 (fun i hi => (e352 389 (256 + 4 * i) (by first | decide | omega)).trans ((e337 389 (256 + 4 * i) (by first | decide | omega)).trans ((e321 389 (256 + 4 * i) (by first | decide | omega)).trans ((e307 389 (256 + 4 * i) (by first | decide | omega)).trans ((e292 389 (256 + 4 * i) (by first | decide | omega)).trans ((e279 389 (256 + 4 * i) (by first | decide | omega)).trans ((e266 389 (256 + 4 * i) (by first | decide | omega)).trans (e113 389 (256 + 4 * i) (by first | decide | omega)))))))))
                have xb272 : rows t352 389 257 4 (σ 3 0) (fun i => sp_nv S m (σ 20 i + 8)) := rows_keep hb4 (fun i hi => (e352 389 (257 + 4 * i) (by first | decide | omega)).trans ((e337 389 (257 + 4 * i) (by first | decide | omega)).trans ((e321 389 (257 + 4 * i) (by first | decide | omega)).trans ((e307 389 (257 + 4 * i) (by first | decide | omega)).trans ((e292 389 (257 + 4 * i) (by first | decide | omega)).trans ((e279 389 (257 + 4 * i) (by first | decide | omega)).trans ((e266 389 (257 + 4 * i) (by first | decide | omega)).trans (e113 389 (257 + 4 * i) (by first | decide | omega)))))))))
                have xb273 : rows t352 389 279 3 (σ 4 0) (fun i => sp_nv S m (σ 21 i + 3)) := rows_keep hb5 (fun i hi => (e352 389 (279 + 3 * i) (by first | decide | omega)).trans ((e337 389 (279 + 3 * i) (by first | decide | omega)).trans ((e321 389 (279 + 3 * i) (by first | decide | omega)).trans ((e307 389 (279 + 3 * i) (by first | decide | omega)).trans ((e292 389 (279 + 3 * i) (by first | decide | omega)).trans ((e279 389 (279 + 3 * i) (by first | decide | omega)).trans ((e266 389 (279 + 3 * i) (by first | decide | omega)).trans (e113 389 (279 + 3 * i) (by first | decide | omega)))))))))
                have hnv274 : ai_hv t352 389 (279 + 3 * σ 4 0) = some (.inl (sp_nv S m (a + 3))) := by
                  have h9 : v292 = sp_nv S m (a + 3) := by rw [← show (a + 1) + 1 + 1 = a + 3 by omega]; omega
                  show _ = some (Sum.inl (sp_nv S m (a + 3)))
                  rw [← h9, show 279 + 3 * σ 4 0 = (278 + (3 * (σ 4 0))) + 1 by omega]
                  exact k265
                have xb275 : rows t352 389 280 3 (σ 4 0) (fun i => sp_nv S m (σ 21 i + 5)) := rows_keep hb6 (fun i hi => (e352 389 (280 + 3 * i) (by first | decide | omega)).trans ((e337 389 (280 + 3 * i) (by first | decide | omega)).trans ((e321 389 (280 + 3 * i) (by first | decide | omega)).trans ((e307 389 (280 + 3 * i) (by first | decide | omega)).trans ((e292 389 (280 + 3 * i) (by first | decide | omega)).trans ((e279 389 (280 + 3 * i) (by first | decide | omega)).trans ((e266 389 (280 + 3 * i) (by first | decide | omega)).trans (e113 389 (280 + 3 * i) (by first | decide | omega)))))))))
                have hnv276 : ai_hv t352 389 (280 + 3 * σ 4 0) = some (.inl (sp_nv S m (a + 5))) := by
                  have h9 : v321 = sp_nv S m (a + 5) := by rw [← show a292 + 1 = a + 5 by omega]; omega
                  show _ = some (Sum.inl (sp_nv S m (a + 5)))
                  rw [← h9, show 280 + 3 * σ 4 0 = (278 + (3 * (σ 4 0))) + 2 by omega]
                  exact k266
                have xb277 : rows t352 389 284 2 (σ 5 0) (fun i => sp_nv S m (σ 17 i + 2)) := rows_keep hb7 (fun i hi => (e352 389 (284 + 2 * i) (by first | decide | omega)).trans ((e337 389 (284 + 2 * i) (by first | decide | omega)).trans ((e321 389 (284 + 2 * i) (by first | decide | omega)).trans ((e307 389 (284 + 2 * i) (by first | decide | omega)).trans ((e292 389 (284 + 2 * i) (by first | decide | omega)).trans ((e279 389 (284 + 2 * i) (by first | decide | omega)).trans ((e266 389 (284 + 2 * i) (by first | decide | omega)).trans (e113 389 (284 + 2 * i) (by first | decide | omega)))))))))
                have xb278 : rows t352 389 285 2 (σ 5 0) (fun i => sp_nv S m (σ 17 i + 4)) := rows_keep hb8 (fun i hi => (e352 389 (285 + 2 * i) (by first | decide | omega)).trans ((e337 389 (285 + 2 * i) (by first | decide | omega)).trans ((e321 389 (285 + 2 * i) (by first | decide | omega)).trans ((e307 389 (285 + 2 * i) (by first | decide | omega)).trans ((e292 389 (285 + 2 * i) (by first | decide | omega)).trans ((e279 389 (285 + 2 * i) (by first | decide | omega)).trans ((e266 389 (285 + 2 * i) (by first | decide | omega)).trans (e113 389 (285 + 2 * i) (by first | decide | omega)))))))))
                have xb279 : rows t352 389 294 1 (σ 6 0) (fun i => sp_nv S m (σ 18 i + 2)) := rows_keep hb9 (fun i hi => (e352 389 (294 + 1 * i) (by first | decide | omega)).trans ((e337 389 (294 + 1 * i) (by first | decide | omega)).trans ((e321 389 (294 + 1 * i) (by first | decide | omega)).trans ((e307 389 (294 + 1 * i) (by first | decide | omega)).trans ((e292 389 (294 + 1 * i) (by first | decide | omega)).trans ((e279 389 (294 + 1 * i) (by first | decide | omega)).trans ((e266 389 (294 + 1 * i) (by first | decide | omega)).trans (e113 389 (294 + 1 * i) (by first | decide | omega)))))))))
                have xb280 : rows t352 389 300 2 (σ 7 0) (fun i => sp_nv S m (σ 19 i + 2)) := rows_keep hb10 (fun i hi => (e352 389 (300 + 2 * i) (by first | decide | omega)).trans ((e337 389 (300 + 2 * i) (by first | decide | omega)).trans ((e321 389 (300 + 2 * i) (by first | decide | omega)).trans ((e307 389 (300 + 2 * i) (by first | decide | omega)).trans ((e292 389 (300 + 2 * i) (by first | decide | omega)).trans ((e279 389 (300 + 2 * i) (by first | decide | omega)).trans ((e266 389 (300 + 2 * i) (by first | decide | omega)).trans (e113 389 (300 + 2 * i) (by first | decide | omega)))))))))
                have xb281 : rows t352 389 301 2 (σ 7 0) (fun i => sp_nv S m (σ 19 i + 4)) := rows_keep hb11 (fun i hi => (e352 389 (301 + 2 * i) (by first | decide | omega)).trans ((e337 389 (301 + 2 * i) (by first | decide | omega)).trans ((e321 389 (301 + 2 * i) (by first | decide | omega)).trans ((e307 389 (301 + 2 * i) (by first | decide | omega)).trans ((e292 389 (301 + 2 * i) (by first | decide | omega)).trans ((e279 389 (301 + 2 * i) (by first | decide | omega)).trans ((e266 389 (301 + 2 * i) (by first | decide | omega)).trans (e113 389 (301 + 2 * i) (by first | decide | omega)))))))))
                have xb282 : rows t352 389 172 1 64 (σ 23) := rows_keep hb13 (fun i hi => (e352 389 (172 + 1 * i) (by first | decide | omega)).trans ((e337 389 (172 + 1 * i) (by first | decide | omega)).trans ((e321 389 (172 + 1 * i) (by first | decide | omega)).trans ((e307 389 (172 + 1 * i) (by first | decide | omega)).trans ((e292 389 (172 + 1 * i) (by first | decide | omega)).trans ((e279 389 (172 + 1 * i) (by first | decide | omega)).trans ((e266 389 (172 + 1 * i) (by first | decide | omega)).trans (e113 389 (172 + 1 * i) (by first | decide | omega)))))))))
                have xk283 : rows t352 389 236 3 (σ 2 0) (σ 10) := rows_keep hRk (fun i hi => (e352 389 (236 + 3 * i) (by first | decide | omega)).trans ((e337 389 (236 + 3 * i) (by first | decide | omega)).trans ((e321 389 (236 + 3 * i) (by first | decide | omega)).trans ((e307 389 (236 + 3 * i) (by first | decide | omega)).trans ((e292 389 (236 + 3 * i) (by first | decide | omega)).trans ((e279 389 (236 + 3 * i) (by first | decide | omega)).trans ((e266 389 (236 + 3 * i) (by first | decide | omega)).trans (e113 389 (236 + 3 * i) (by first | decide | omega)))))))))
                have xk284 : rows t352 389 254 4 (σ 3 0) (σ 11) := rows_keep hRl (fun i hi => (e352 389 (254 + 4 * i) (by first | decide | omega)).trans ((e337 389 (254 + 4 * i) (by first | decide | omega)).trans ((e321 389 (254 + 4 * i) (by first | decide | omega)).trans ((e307 389 (254 + 4 * i) (by first | decide | omega)).trans ((e292 389 (254 + 4 * i) (by first | decide | omega)).trans ((e279 389 (254 + 4 * i) (by first | decide | omega)).trans ((e266 389 (254 + 4 * i) (by first | decide | omega)).trans (e113 389 (254 + 4 * i) (by first | decide | omega)))))))))
                have xk285 : rows t352 389 278 3 (σ 4 0) (σ 12) := rows_keep hRs (fun i hi => (e352 389 (278 + 3 * i) (by first | decide | omega)).trans ((e337 389 (278 + 3 * i) (by first | decide | omega)).trans ((e321 389 (278 + 3 * i) (by first | decide | omega)).trans ((e307 389 (278 + 3 * i) (by first | decide | omega)).trans ((e292 389 (278 + 3 * i) (by first | decide | omega)).trans ((e279 389 (278 + 3 * i) (by first | decide | omega)).trans ((e266 389 (278 + 3 * i) (by first | decide | omega)).trans (e113 389 (278 + 3 * i) (by first | decide | omega)))))))))
                exact ⟨⟨k253, k254, k255, k256, k352, k257, k258, k259, k260, k261⟩, fun k hk => by
                    rcases hRL k hk with ⟨h1, h2⟩ | ⟨h1, z, h2, h3⟩
                    · exact Or.inl ⟨h1, ((e352 389 (169 + k) (by first | decide | omega)).trans ((e337 389 (169 + k) (by first | decide | omega)).trans ((e321 389 (169 + k) (by first | decide | omega)).trans ((e307 389 (169 + k) (by first | decide | omega)).trans ((e292 389 (169 + k) (by first | decide | omega)).trans ((e279 389 (169 + k) (by first | decide | omega)).trans ((e266 389 (169 + k) (by first | decide | omega)).trans (e113 389 (169 + k) (by first | decide | omega))))))))).trans h2⟩
                    · exact Or.inr ⟨h1, z, ((e352 389 (169 + k) (by first | decide | omega)).trans ((e337 389 (169 + k) (by first | decide | omega)).trans ((e321 389 (169 + k) (by first | decide | omega)).trans ((e307 389 (169 + k) (by first | decide | omega)).trans ((e292 389 (169 + k) (by first | decide | omega)).trans ((e279 389 (169 + k) (by first | decide | omega)).trans ((e266 389 (169 + k) (by first | decide | omega)).trans (e113 389 (169 + k) (by first | decide | omega))))))))).trans h2, h3⟩, xk283, xk284, rows_up xk285 x7, (fun k hk => ⟨((e352 393 k (by first | decide | omega)).trans ((e337 393 k (by first | decide | omega)).trans ((e321 393 k (by first | decide | omega)).trans ((e307 393 k (by first | decide | omega)).trans ((e292 393 k (by first | decide | omega)).trans ((e279 393 k (by first | decide | omega)).trans ((e266 393 k (by first | decide | omega)).trans (e113 393 k (by first | decide | omega))))))))).trans (hRN k hk).1, ((e352 395 k (by first | decide | omega)).trans ((e337 395 k (by first | decide | omega)).trans ((e321 395 k (by first | decide | omega)).trans ((e307 395 k (by first | decide | omega)).trans ((e292 395 k (by first | decide | omega)).trans ((e279 395 k (by first | decide | omega)).trans ((e266 395 k (by first | decide | omega)).trans (e113 395 k (by first | decide | omega))))))))).trans (hRN k hk).2⟩), xb268, xb269, xb270, xb271, xb272, rows_tk (g := σ 21) xb273 hnv274, rows_tk (g := σ 21) xb275 hnv276, xb277, xb278, xb279, xb280, xb281, ((e352 389 165 (by first | decide | omega)).trans ((e337 389 165 (by first | decide | omega)).trans ((e321 389 165 (by first | decide | omega)).trans ((e307 389 165 (by first | decide | omega)).trans ((e292 389 165 (by first | decide | omega)).trans ((e279 389 165 (by first | decide | omega)).trans ((e266 389 165 (by first | decide | omega)).trans (e113 389 165 (by first | decide | omega))))))))).trans hb12, xb282⟩
              · refine gx_2f (c := .ne) rfl (by first | decide | omega) (by first | decide | omega) hc165 rfl ?_
                refine ex_go (S := (99, [(2, .inl b29), (1, .inl (σ 4 0)), (0, gx_r 383)], [gx_r 383], t113, n, 0)) rfl (fun _ => rfl) rfl ?_
                refine ex_go (S := (100, [(2, .inl b29), (1, .inl (σ 4 0)), (0, gx_r 383)], [.inl 3, gx_r 383], t113, n, 0)) rfl (fun _ => rfl) rfl ?_
                obtain ⟨_, r386, t386, a386, f386, rfl, s386, e386, q386⟩ := pe_wrong (d + 3) n (s113) hT27 (by first | decide | omega) (w := 3) (by first | decide | omega)
                have b386 := s386.2.2.2
                have hT386 := rT_keep hT27 (fun c i h => e386 c i (by first | decide | omega))
                refine gx_call0 rfl rfl s113.1 rfl rfl r386 rfl ?_
                have k287 : ai_hv t386 389 160 = some (.inl (σ 0 0)) := (e386 389 160 (by first | decide | omega)).trans k14
                have k288 : ai_hv t386 389 161 = some (.inl (σ 1 0)) := (e386 389 161 (by first | decide | omega)).trans k15
                have k289 : ai_hv t386 389 162 = some (.inl (σ 2 0)) := (e386 389 162 (by first | decide | omega)).trans k16
                have k290 : ai_hv t386 389 163 = some (.inl (σ 3 0)) := (e386 389 163 (by first | decide | omega)).trans k17
                have k291 : ai_hv t386 389 164 = some (.inl (σ 4 0)) := (e386 389 164 (by first | decide | omega)).trans k18
                have k292 : ai_hv t386 389 166 = some (.inl (σ 5 0)) := (e386 389 166 (by first | decide | omega)).trans k19
                have k293 : ai_hv t386 389 167 = some (.inl (σ 6 0)) := (e386 389 167 (by first | decide | omega)).trans k20
                have k294 : ai_hv t386 389 168 = some (.inl (σ 7 0)) := (e386 389 168 (by first | decide | omega)).trans k21
                have k295 : ai_hv t386 383 20 = some (.inl (σ 8 0)) := (e386 383 20 (by first | decide | omega)).trans k22
                have k296 : ai_hv t386 383 19 = some (.inl (σ 15 0)) := (e386 383 19 (by first | decide | omega)).trans k23
                have k297 : ai_hv t386 389 (236 + (3 * b29)) = some (.inl (σ 10 b29)) := (e386 389 (236 + (3 * b29)) (by first | decide | omega)).trans k48
                have k298 : ai_hv t386 389 278 = some (.inl (σ 12 0)) := (e386 389 278 (by first | decide | omega)).trans k164
                refine ex_go (S := (104, [(2, .inl b29), (1, .inl (σ 4 0)), (0, gx_r 383)], [gx_r 383], t386, n, 0)) rfl (fun _ => rfl) rfl ?_
                refine gx_get rfl s386.1 rfl s386.2.2.1 rfl ?_
                refine gx_1f (c := .le) rfl (by first | decide | omega) (show ¬ (f386 ≤ 0) from by omega) rfl ?_
                refine ex_ret (r := (none, t386, n, 0)) rfl (fun _ => rfl) ?_
                have hT299 := rT_keep (t' := t386) hT (fun c i h => (e386 c i (by first | decide | omega)).trans (e113 c i (by first | decide | omega)))
                refine ⟨_, rfl, t386, a386, f386, rfl, s386, hT299, ?_, by omega, fun h0 => by omega⟩
                rw [show a386 = a + 1 by omega, show f386 = 3 + 16 * sp_st S m (a + 1) by omega]
                unfold sl_crew
                have h5 : 3 + 16 * sp_st S m (a + 1) ≠ 0 := by omega
                rw [fr_yes hful, fc_3 hnm ⟨hta, by rw [← htb]; omega, by rw [← htb]; omega⟩ ⟨0, by omega, by rw [← htb]; omega⟩, fw_no h5, fn_no h5, fw_no h5, fn_no h5]
          · refine gx_1f (c := .eq) rfl (by first | decide | omega) hc49 rfl ?_
            refine ex_go (S := (74, [(2, .inl b29), (1, .inl (σ 4 0)), (0, gx_r 383)], [gx_r 383], t113, n, 0)) rfl (fun _ => rfl) rfl ?_
            refine ex_go (S := (75, [(2, .inl b29), (1, .inl (σ 4 0)), (0, gx_r 383)], [.inl 2, gx_r 383], t113, n, 0)) rfl (fun _ => rfl) rfl ?_
            obtain ⟨_, r400, t400, a400, f400, rfl, s400, e400, q400⟩ := pe_wrong (d + 3) n (s113) hT27 (by first | decide | omega) (w := 2) (by first | decide | omega)
            have b400 := s400.2.2.2
            have hT400 := rT_keep hT27 (fun c i h => e400 c i (by first | decide | omega))
            refine gx_call0 rfl rfl s113.1 rfl rfl r400 rfl ?_
            have k301 : ai_hv t400 389 160 = some (.inl (σ 0 0)) := (e400 389 160 (by first | decide | omega)).trans k14
            have k302 : ai_hv t400 389 161 = some (.inl (σ 1 0)) := (e400 389 161 (by first | decide | omega)).trans k15
            have k303 : ai_hv t400 389 162 = some (.inl (σ 2 0)) := (e400 389 162 (by first | decide | omega)).trans k16
            have k304 : ai_hv t400 389 163 = some (.inl (σ 3 0)) := (e400 389 163 (by first | decide | omega)).trans k17
            have k305 : ai_hv t400 389 164 = some (.inl (σ 4 0)) := (e400 389 164 (by first | decide | omega)).trans k18
            have k306 : ai_hv t400 389 166 = some (.inl (σ 5 0)) := (e400 389 166 (by first | decide | omega)).trans k19
            have k307 : ai_hv t400 389 167 = some (.inl (σ 6 0)) := (e400 389 167 (by first | decide | omega)).trans k20
            have k308 : ai_hv t400 389 168 = some (.inl (σ 7 0)) := (e400 389 168 (by first | decide | omega)).trans k21
            have k309 : ai_hv t400 383 20 = some (.inl (σ 8 0)) := (e400 383 20 (by first | decide | omega)).trans k22
            have k310 : ai_hv t400 383 19 = some (.inl (σ 15 0)) := (e400 383 19 (by first | decide | omega)).trans k23
            have k311 : ai_hv t400 389 (236 + (3 * b29)) = some (.inl (σ 10 b29)) := (e400 389 (236 + (3 * b29)) (by first | decide | omega)).trans k48
            refine ex_go (S := (103, [(2, .inl b29), (1, .inl (σ 4 0)), (0, gx_r 383)], [], t400, n, 0)) rfl (fun _ => rfl) rfl ?_
            refine ex_go (S := (104, [(2, .inl b29), (1, .inl (σ 4 0)), (0, gx_r 383)], [gx_r 383], t400, n, 0)) rfl (fun _ => rfl) rfl ?_
            refine gx_get rfl s400.1 rfl s400.2.2.1 rfl ?_
            refine gx_1f (c := .le) rfl (by first | decide | omega) (show ¬ (f400 ≤ 0) from by omega) rfl ?_
            refine ex_ret (r := (none, t400, n, 0)) rfl (fun _ => rfl) ?_
            have hT312 := rT_keep (t' := t400) hT (fun c i h => (e400 c i (by first | decide | omega)).trans (e113 c i (by first | decide | omega)))
            refine ⟨_, rfl, t400, a400, f400, rfl, s400, hT312, ?_, by omega, fun h0 => by omega⟩
            rw [show a400 = a + 1 by omega, show f400 = 2 + 16 * sp_st S m (a + 1) by omega]
            unfold sl_crew
            have h5 : 2 + 16 * sp_st S m (a + 1) ≠ 0 := by omega
            rw [fr_yes hful, fc_2 hnm (fun z => by have z1 := z.2.2; rw [← htb] at z1; omega), fw_no h5, fn_no h5, fw_no h5, fn_no h5]
      · subst htb
        refine ex_go (S := (49, [(2, .inl 4294967295), (1, .inl (σ 4 0)), (0, gx_r 383)], [], t113, n, 0)) rfl (fun _ => rfl) rfl ?_
        refine ex_go (S := (50, [(2, .inl 4294967295), (1, .inl (σ 4 0)), (0, gx_r 383)], [.inl 4294967295], t113, n, 0)) rfl (fun _ => rfl) rfl ?_
        refine ex_go (S := (51, [(2, .inl 4294967295), (1, .inl (σ 4 0)), (0, gx_r 383)], [.inl 0, .inl 4294967295], t113, n, 0)) rfl (fun _ => rfl) rfl ?_
        refine ex_go (S := (52, [(2, .inl 4294967295), (1, .inl (σ 4 0)), (0, gx_r 383)], [.inl 5, .inl 0, .inl 4294967295], t113, n, 0)) rfl (fun _ => rfl) rfl ?_
        obtain ⟨_, r313, rfl⟩ := pk_within_n (d + 3) n (t0 := t113)
        refine ex_stat rfl rfl rfl rfl rfl r313 (Nat.le_refl _) rfl ?_
        show en_ex _ _ _ _ (55, [(2, .inl 4294967295), (1, .inl (σ 4 0)), (0, gx_r 383)], [.inl 0], t113, n, 0) _
        refine ex_go (S := (73, [(2, .inl 4294967295), (1, .inl (σ 4 0)), (0, gx_r 383)], [], t113, n, 0)) rfl (fun _ => rfl) rfl ?_
        refine ex_go (S := (74, [(2, .inl 4294967295), (1, .inl (σ 4 0)), (0, gx_r 383)], [gx_r 383], t113, n, 0)) rfl (fun _ => rfl) rfl ?_
        refine ex_go (S := (75, [(2, .inl 4294967295), (1, .inl (σ 4 0)), (0, gx_r 383)], [.inl 2, gx_r 383], t113, n, 0)) rfl (fun _ => rfl) rfl ?_
        obtain ⟨_, r414, t414, a414, f414, rfl, s414, e414, q414⟩ := pe_wrong (d + 3) n (s113) hT27 (by first | decide | omega) (w := 2) (by first | decide | omega)
        have b414 := s414.2.2.2
        have hT414 := rT_keep hT27 (fun c i h => e414 c i (by first | decide | omega))
        refine gx_call0 rfl rfl s113.1 rfl rfl r414 rfl ?_
        have k315 : ai_hv t414 389 160 = some (.inl (σ 0 0)) := (e414 389 160 (by first | decide | omega)).trans k14
        have k316 : ai_hv t414 389 161 = some (.inl (σ 1 0)) := (e414 389 161 (by first | decide | omega)).trans k15
        have k317 : ai_hv t414 389 162 = some (.inl (σ 2 0)) := (e414 389 162 (by first | decide | omega)).trans k16
        have k318 : ai_hv t414 389 163 = some (.inl (σ 3 0)) := (e414 389 163 (by first | decide | omega)).trans k17
        have k319 : ai_hv t414 389 164 = some (.inl (σ 4 0)) := (e414 389 164 (by first | decide | omega)).trans k18
        have k320 : ai_hv t414 389 166 = some (.inl (σ 5 0)) := (e414 389 166 (by first | decide | omega)).trans k19
        have k321 : ai_hv t414 389 167 = some (.inl (σ 6 0)) := (e414 389 167 (by first | decide | omega)).trans k20
        have k322 : ai_hv t414 389 168 = some (.inl (σ 7 0)) := (e414 389 168 (by first | decide | omega)).trans k21
        have k323 : ai_hv t414 383 20 = some (.inl (σ 8 0)) := (e414 383 20 (by first | decide | omega)).trans k22
        have k324 : ai_hv t414 383 19 = some (.inl (σ 15 0)) := (e414 383 19 (by first | decide | omega)).trans k23
        refine ex_go (S := (103, [(2, .inl 4294967295), (1, .inl (σ 4 0)), (0, gx_r 383)], [], t414, n, 0)) rfl (fun _ => rfl) rfl ?_
        refine ex_go (S := (104, [(2, .inl 4294967295), (1, .inl (σ 4 0)), (0, gx_r 383)], [gx_r 383], t414, n, 0)) rfl (fun _ => rfl) rfl ?_
        refine gx_get rfl s414.1 rfl s414.2.2.1 rfl ?_
        refine gx_1f (c := .le) rfl (by first | decide | omega) (show ¬ (f414 ≤ 0) from by omega) rfl ?_
        refine ex_ret (r := (none, t414, n, 0)) rfl (fun _ => rfl) ?_
        have hT325 := rT_keep (t' := t414) hT (fun c i h => (e414 c i (by first | decide | omega)).trans (e113 c i (by first | decide | omega)))
        refine ⟨_, rfl, t414, a414, f414, rfl, s414, hT325, ?_, by omega, fun h0 => by omega⟩
        rw [show a414 = a + 1 by omega, show f414 = 2 + 16 * sp_st S m (a + 1) by omega]
        unfold sl_crew
        have h5 : 2 + 16 * sp_st S m (a + 1) ≠ 0 := by omega
        rw [fr_yes hful, fc_2 hnm (fun z => by have z1 := z.1; omega), fw_no h5, fn_no h5, fw_no h5, fn_no h5]
    · refine gx_1f (c := .ne) rfl (by first | decide | omega) hc28 rfl ?_
      refine ex_go (S := (38, [(1, .inl (σ 4 0)), (0, gx_r 383)], [gx_r 383], t113, n, 0)) rfl (fun _ => rfl) rfl ?_
      refine ex_go (S := (39, [(1, .inl (σ 4 0)), (0, gx_r 383)], [.inl 1, gx_r 383], t113, n, 0)) rfl (fun _ => rfl) rfl ?_
      obtain ⟨_, r426, t426, a426, f426, rfl, s426, e426, q426⟩ := pe_wrong (d + 3) n (s113) hT27 (by first | decide | omega) (w := 1) (by first | decide | omega)
      have b426 := s426.2.2.2
      have hT426 := rT_keep hT27 (fun c i h => e426 c i (by first | decide | omega))
      refine gx_call0 rfl rfl s113.1 rfl rfl r426 rfl ?_
      have k327 : ai_hv t426 389 160 = some (.inl (σ 0 0)) := (e426 389 160 (by first | decide | omega)).trans k14
      have k328 : ai_hv t426 389 161 = some (.inl (σ 1 0)) := (e426 389 161 (by first | decide | omega)).trans k15
      have k329 : ai_hv t426 389 162 = some (.inl (σ 2 0)) := (e426 389 162 (by first | decide | omega)).trans k16
      have k330 : ai_hv t426 389 163 = some (.inl (σ 3 0)) := (e426 389 163 (by first | decide | omega)).trans k17
      have k331 : ai_hv t426 389 164 = some (.inl (σ 4 0)) := (e426 389 164 (by first | decide | omega)).trans k18
      have k332 : ai_hv t426 389 166 = some (.inl (σ 5 0)) := (e426 389 166 (by first | decide | omega)).trans k19
      have k333 : ai_hv t426 389 167 = some (.inl (σ 6 0)) := (e426 389 167 (by first | decide | omega)).trans k20
      have k334 : ai_hv t426 389 168 = some (.inl (σ 7 0)) := (e426 389 168 (by first | decide | omega)).trans k21
      have k335 : ai_hv t426 383 20 = some (.inl (σ 8 0)) := (e426 383 20 (by first | decide | omega)).trans k22
      have k336 : ai_hv t426 383 19 = some (.inl (σ 15 0)) := (e426 383 19 (by first | decide | omega)).trans k23
      refine ex_ret (r := (none, t426, n, 0)) rfl (fun _ => rfl) ?_
      have hT337 := rT_keep (t' := t426) hT (fun c i h => (e426 c i (by first | decide | omega)).trans (e113 c i (by first | decide | omega)))
      refine ⟨_, rfl, t426, a426, f426, rfl, s426, hT337, ?_, by omega, fun h0 => by omega⟩
      rw [show a426 = a + 1 by omega, show f426 = 1 + 16 * sp_st S m (a + 1) by omega]
      unfold sl_crew
      have h5 : 1 + 16 * sp_st S m (a + 1) ≠ 0 := by omega
      rw [fr_yes hful, fc_1 (fun z => absurd (q25.2.mpr ⟨rfl, z⟩) (by first | decide | omega)), fw_no h5, fn_no h5, fw_no h5, fn_no h5]
end SPN
