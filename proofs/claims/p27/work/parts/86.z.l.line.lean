section SPM
noncomputable def sg_lx (σ : Nat → Nat → Nat) (n v : Nat) : Prop := ∃ i, i < n ∧ σ 11 i = v
theorem fw_2 {S : Nat → Nat} {m N w : Nat} {p : Nat × Nat} (h : (fw S m N w p).2 = 0) : p.2 = 0 := by
  by_cases c : p.2 = 0
  · exact c
  · rw [show p = (p.1, p.2) from rfl, fw_no c] at h; exact absurd h c
theorem fd2_of {S : Nat → Nat} {m N a f a2 f2 a3 f3 hi v : Nat} {D : Prop} (z : (a2, f2) = fn S m N 0 hi (a, f)) (h : (f2 = 0 ∧ D ∧ a3 = a2 - 1 ∧ f3 = 3 + 16 * sp_st S m (a2 - 1)) ∨ (a3 = a2 ∧ f3 = f2 ∧ (f2 = 0 → ¬ D))) : (a3, f3) = fd2 S m N hi D (a, f) := by
  by_cases c : f = 0
  · subst c
    by_cases c1 : sp_kt S m N a = 2
    · by_cases c2 : hi < sp_nv S m a
      · rw [fn_4 c1 (Or.inr c2)] at z
        cases z
        rcases h with ⟨h1, h2, h3, h4⟩ | ⟨h1, h2, h3⟩
        · omega
        · subst h1 h2; exact (fd2_4 c1 c2).symm
      · rw [fn_yes c1 (Nat.zero_le _) (by first | decide | omega)] at z
        cases z
        rcases h with ⟨h1, h2, h3, h4⟩ | ⟨h1, h2, h3⟩
        · rw [show a + 1 - 1 = a by omega] at h3 h4
          subst h3 h4; exact (fd2_3 c1 c2 h2).symm
        · subst h1 h2; exact (fd2_yes c1 c2 (h3 rfl)).symm
    · rw [fn_1 c1] at z
      cases z
      rcases h with ⟨h1, h2, h3, h4⟩ | ⟨h1, h2, h3⟩
      · omega
      · subst h1 h2; exact (fd2_1 c1).symm
  · rw [fn_no c] at z
    cases z
    rcases h with ⟨h1, h2, h3, h4⟩ | ⟨h1, h2, h3⟩
    · omega
    · subst h1 h2; exact (fd2_no c).symm
theorem dr_in {S : Nat → Nat} {m N a j : Nat} {σ : Nat → Nat → Nat} (h1 : 8 * sp_nv S m (a + 1) + sp_nv S m (a + 3) ≤ j) (h2 : j ≤ 8 * sp_nv S m (a + 1) + sp_nv S m (a + 4)) : sn_drift S m N σ a 23 j = sp_wy S m N (a + 2) := by
  show (bif true && (Nat.ble (8 * sp_nv S m (a + 1) + sp_nv S m (a + 3)) j && Nat.ble j (8 * sp_nv S m (a + 1) + sp_nv S m (a + 4))) then sp_wy S m N (a + 2) else σ 23 j) = _
  rw [Nat.ble_eq_true_of_le h1, Nat.ble_eq_true_of_le h2]; rfl
theorem dr_out {S : Nat → Nat} {m N a j : Nat} {σ : Nat → Nat → Nat} (h : ¬ (8 * sp_nv S m (a + 1) + sp_nv S m (a + 3) ≤ j ∧ j ≤ 8 * sp_nv S m (a + 1) + sp_nv S m (a + 4))) : sn_drift S m N σ a 23 j = σ 23 j := by
  show (bif true && (Nat.ble (8 * sp_nv S m (a + 1) + sp_nv S m (a + 3)) j && Nat.ble j (8 * sp_nv S m (a + 1) + sp_nv S m (a + 4))) then sp_wy S m N (a + 2) else σ 23 j) = _
  have h9 : (Nat.ble (8 * sp_nv S m (a + 1) + sp_nv S m (a + 3)) j && Nat.ble j (8 * sp_nv S m (a + 1) + sp_nv S m (a + 4))) = false := Bool.eq_false_iff.mpr (fun z => by
    rw [Bool.and_eq_true] at z
    exact h ⟨Nat.le_of_ble_eq_true z.1, Nat.le_of_ble_eq_true z.2⟩)
  rw [h9]; rfl
theorem sp_wy_eq {S : Nat → Nat} {m N a v : Nat} (hv : v < 5) (h : sp_wd S m N a (26 + v)) : sp_wy S m N a = v := by
  have h1 := sp_fi_ex (P := fun k => sp_wd S m N a (26 + k)) (j := 5) (k := 0) (i := v) (by first | decide | omega) (by first | decide | omega) h
  have h2 := sp_fi_lt (P := fun k => sp_wd S m N a (26 + k)) (j := 5) (k := 0) (by first | decide | omega)
  have h3 := sp_wd_one (by first | decide | omega) (by first | decide | omega) h h2
  unfold sp_wy
  omega
theorem pe_drift_l {fn : en_F} {n a f row fl fr to : Nat} {tb : en_H} {Q : en_O → Prop} (hr : row ≤ 7) (hfl : fl ≤ 4) (hto : to ≤ 7) (hQ : ∀ t1, px_S t1 a f → (∀ c i, ¬ (c = 389 ∧ 172 ≤ i ∧ i < 236) → ai_hv t1 c i = ai_hv tb c i) → (f = 0 → (∀ j, 8 * row + fr ≤ j → j < 8 * row + (to + 1) → ai_hv t1 389 (172 + j) = some (.inl fl)) ∧ (∀ j, ¬ (8 * row + fr ≤ j ∧ j < 8 * row + (to + 1)) → ai_hv t1 389 (172 + j) = ai_hv tb 389 (172 + j))) → Q (.inl (none, t1, n, 0))) : ∀ j x t0, x + j = 8 → (f = 0 → fr ≤ x ∧ x ≤ to + 1) → px_S t0 a f → (∀ c i, ¬ (c = 389 ∧ 172 ≤ i ∧ i < 236) → ai_hv t0 c i = ai_hv tb c i) → (f = 0 → (∀ j, 8 * row + fr ≤ j → j < 8 * row + x → ai_hv t0 389 (172 + j) = some (.inl fl)) ∧ (∀ j, ¬ (8 * row + fr ≤ j ∧ j < 8 * row + x) → ai_hv t0 389 (172 + j) = ai_hv tb 389 (172 + j))) → en_ex none fn (en_code 186) (fun _ => false) (52, [(5, .inl x), (4, .inl to), (3, .inl fr), (2, .inl fl), (1, .inl row), (0, gx_r 383)], [], t0, n, 0) Q := by
  intro j
  induction j with
  | zero =>
    intro x t0 hx hxt s0 h0 hD
    have b0 := s0.2.2.2
    refine ex_go (S := (54, [(5, .inl x), (4, .inl to), (3, .inl fr), (2, .inl fl), (1, .inl row), (0, gx_r 383)], [.inl x], t0, n, 0)) rfl (fun _ => rfl) rfl ?_
    refine ex_go (S := (56, [(5, .inl x), (4, .inl to), (3, .inl fr), (2, .inl fl), (1, .inl row), (0, gx_r 383)], [.inl to, .inl x], t0, n, 0)) rfl (fun _ => rfl) rfl ?_
    refine gx_2t (c := .gt) rfl (by first | decide | omega) (by first | decide | omega) (show to < x from by omega) rfl ?_
    refine ex_ret (r := (none, t0, n, 0)) rfl (fun _ => rfl) ?_
    refine hQ t0 s0 (fun c i h => h0 c i h) (fun z => ?_)
    have hx9 := hxt z
    have he9 : to + 1 = x := by omega
    rw [he9]
    exact hD z
  | succ j ih =>
    intro x t0 hx hxt s0 h0 hD
    have b0 := s0.2.2.2
    refine ex_go (S := (54, [(5, .inl x), (4, .inl to), (3, .inl fr), (2, .inl fl), (1, .inl row), (0, gx_r 383)], [.inl x], t0, n, 0)) rfl (fun _ => rfl) rfl ?_
    refine ex_go (S := (56, [(5, .inl x), (4, .inl to), (3, .inl fr), (2, .inl fl), (1, .inl row), (0, gx_r 383)], [.inl to, .inl x], t0, n, 0)) rfl (fun _ => rfl) rfl ?_
    by_cases hc1 : to < x
    · refine gx_2t (c := .gt) rfl (by first | decide | omega) (by first | decide | omega) hc1 rfl ?_
      refine ex_ret (r := (none, t0, n, 0)) rfl (fun _ => rfl) ?_
      refine hQ t0 s0 (fun c i h => h0 c i h) (fun z => ?_)
      have hx9 := hxt z
      have he9 : to + 1 = x := by omega
      rw [he9]
      exact hD z
    · refine gx_2f (c := .gt) rfl (by first | decide | omega) (by first | decide | omega) hc1 rfl ?_
      refine ex_go (S := (60, [(5, .inl x), (4, .inl to), (3, .inl fr), (2, .inl fl), (1, .inl row), (0, gx_r 383)], [gx_r 383], t0, n, 0)) rfl (fun _ => rfl) rfl ?_
      refine gx_get rfl s0.1 rfl s0.2.2.1 rfl ?_
      by_cases hc2 : f ≠ 0
      · refine gx_1t (c := .ne) rfl (by first | decide | omega) hc2 rfl ?_
        refine ex_ret (r := (none, t0, n, 0)) rfl (fun _ => rfl) ?_
        refine hQ t0 s0 (fun c i h => h0 c i h) (fun z => ?_)
        have hx9 := hxt z
        have he9 : to + 1 = x := by omega
        rw [he9]
        exact hD z
      · refine gx_1f (c := .ne) rfl (by first | decide | omega) hc2 rfl ?_
        refine ex_go (S := (67, [(5, .inl x), (4, .inl to), (3, .inl fr), (2, .inl fl), (1, .inl row), (0, gx_r 383)], [gx_r 383], t0, n, 0)) rfl (fun _ => rfl) rfl ?_
        refine gx_ref (c := 389) rfl s0.1 rfl rfl rfl rfl ?_
        refine ex_go (S := (73, [(5, .inl x), (4, .inl to), (3, .inl fr), (2, .inl fl), (1, .inl row), (0, gx_r 383)], [.inl 172, gx_r 389], t0, n, 0)) rfl (fun _ => rfl) rfl ?_
        refine ex_go (S := (75, [(5, .inl x), (4, .inl to), (3, .inl fr), (2, .inl fl), (1, .inl row), (0, gx_r 383)], [.inl 8, .inl 172, gx_r 389], t0, n, 0)) rfl (fun _ => rfl) rfl ?_
        refine ex_go (S := (76, [(5, .inl x), (4, .inl to), (3, .inl fr), (2, .inl fl), (1, .inl row), (0, gx_r 383)], [.inl row, .inl 8, .inl 172, gx_r 389], t0, n, 0)) rfl (fun _ => rfl) rfl ?_
        refine gx_imul rfl (by first | decide | omega) rfl ?_
        refine ex_iadd rfl (by first | decide | omega) rfl ?_
        refine ex_go (S := (80, [(5, .inl x), (4, .inl to), (3, .inl fr), (2, .inl fl), (1, .inl row), (0, gx_r 383)], [.inl x, .inl (172 + (8 * row)), gx_r 389], t0, n, 0)) rfl (fun _ => rfl) rfl ?_
        refine ex_iadd rfl (by first | decide | omega) rfl ?_
        refine ex_go (S := (82, [(5, .inl x), (4, .inl to), (3, .inl fr), (2, .inl fl), (1, .inl row), (0, gx_r 383)], [.inl fl, .inl ((172 + (8 * row)) + x), gx_r 389], t0, n, 0)) rfl (fun _ => rfl) rfl ?_
        refine gx_ap rfl (fun _ => rfl) s0.1 rfl rfl rfl (show (172 + (8 * row)) + x < 320 from by omega) (px_run_flow (8 * row + x) (by first | decide | omega) (by first | decide | omega)) (ai_in_h (by first | decide | omega) (by first | decide | omega) (by first | decide | omega)) rfl (fun t103 g103 k103 e103 => ?_)
        have s103 : px_S t103 a f := ⟨g103, (e103 383 7 (by first | decide | omega)).trans s0.2.1, (e103 383 8 (by first | decide | omega)).trans s0.2.2.1, s0.2.2.2⟩
        refine gx_iinc (i := 5) (k := 1) rfl (fun _ => rfl) (by first | decide | omega) rfl ?_
        show en_ex _ _ _ _ (86, [(5, .inl (x + 1)), (4, .inl to), (3, .inl fr), (2, .inl fl), (1, .inl row), (0, gx_r 383)], [], t103, n, 0) _
        refine ex_go (S := (52, [(5, .inl (x + 1)), (4, .inl to), (3, .inl fr), (2, .inl fl), (1, .inl row), (0, gx_r 383)], [], t103, n, 0)) rfl (fun _ => rfl) rfl ?_
        refine ih (x + 1) t103 (by first | decide | omega) (fun z => by omega) s103 (fun c i h => (e103 c i (by first | decide | omega)).trans (h0 c i h)) (fun z => ?_)
        obtain ⟨d1, d2⟩ := hD z
        refine ⟨fun j9 g1 g2 => ?_, fun j9 g1 => ?_⟩
        · by_cases e9 : j9 = 8 * row + x
          · rw [show 172 + j9 = (172 + (8 * row)) + x by omega]; exact k103
          · exact (e103 389 (172 + j9) (by first | decide | omega)).trans (d1 j9 g1 (by first | decide | omega))
        · exact (e103 389 (172 + j9) (by first | decide | omega)).trans (d2 j9 (by first | decide | omega))
theorem pe_readDrift (d n : Nat) {t0 : en_H} {a : Nat} {S : Nat → Nat} {m N : Nat} {σ : Nat → Nat → Nat} (s0 : px_S t0 a 0) (hT : rT t0 S m N) (ha : a < N) (hA : RA t0 S m σ) (hB : WB σ) (hK : NK S m N σ) : ∃ r, en_u (d + 5) 186 [gx_r 383] t0 n = some r ∧ ∃ t' a' f', r = (none, t', n, 0) ∧ px_S t' a' f' ∧ rT t' S m N ∧ (a', f') = sl_drift S m N σ a ∧ a' ≤ N ∧ (f' = 0 → a < a' ∧ RA t' S m (sn_drift S m N σ a)) := by
  have b0 := s0.2.2.2
  have hN := hT.2.2.2.2.1
  obtain ⟨⟨kk0, kk1, kk2, kk3, kk4, kk5, kk6, kk7, kk8, kk9⟩, hRL, hRk, hRl, hRs, hRN, hb0, hb1, hb2, hb3, hb4, hb5, hb6, hb7, hb8, hb9, hb10, hb11, hb12, hb13⟩ := hA
  have hBB := hB.1
  refine en_u_ex (d := d + 4) rfl ?_
  show en_ex _ _ _ _ (0, [(0, gx_r 383)], [], t0, n, 0) _
  refine ex_go (S := (1, [(0, gx_r 383)], [gx_r 383], t0, n, 0)) rfl (fun _ => rfl) rfl ?_
  refine ex_go (S := (2, [(0, gx_r 383)], [gx_r 383, gx_r 383], t0, n, 0)) rfl (fun _ => rfl) rfl ?_
  refine gx_get rfl s0.1 rfl s0.2.1 rfl ?_
  refine ex_go (S := (6, [(0, gx_r 383)], [.inl 1, .inl a, gx_r 383], t0, n, 0)) rfl (fun _ => rfl) rfl ?_
  refine ex_iadd rfl (by first | decide | omega) rfl ?_
  refine gx_put rfl s0.1 rfl rfl (ai_in_h (by first | decide | omega) (by first | decide | omega) (by first | decide | omega)) rfl (fun t101 g101 k101 e101 => ?_)
  have k2 : ai_hv t101 389 160 = some (.inl (σ 0 0)) := (e101 389 160 (by first | decide | omega)).trans kk0
  have k3 : ai_hv t101 389 161 = some (.inl (σ 1 0)) := (e101 389 161 (by first | decide | omega)).trans kk1
  have k4 : ai_hv t101 389 162 = some (.inl (σ 2 0)) := (e101 389 162 (by first | decide | omega)).trans kk2
  have k5 : ai_hv t101 389 163 = some (.inl (σ 3 0)) := (e101 389 163 (by first | decide | omega)).trans kk3
  have k6 : ai_hv t101 389 164 = some (.inl (σ 4 0)) := (e101 389 164 (by first | decide | omega)).trans kk4
  have k7 : ai_hv t101 389 166 = some (.inl (σ 5 0)) := (e101 389 166 (by first | decide | omega)).trans kk5
  have k8 : ai_hv t101 389 167 = some (.inl (σ 6 0)) := (e101 389 167 (by first | decide | omega)).trans kk6
  have k9 : ai_hv t101 389 168 = some (.inl (σ 7 0)) := (e101 389 168 (by first | decide | omega)).trans kk7
  have k10 : ai_hv t101 383 20 = some (.inl (σ 8 0)) := (e101 383 20 (by first | decide | omega)).trans kk8
  have k11 : ai_hv t101 383 19 = some (.inl (σ 15 0)) := (e101 383 19 (by first | decide | omega)).trans kk9
  have s101 : px_S t101 (a + 1) 0 := ⟨g101, k101, (e101 383 8 (by first | decide | omega)).trans s0.2.2.1, by omega, s0.2.2.2.2⟩
  refine ex_go (S := (11, [(0, gx_r 383)], [gx_r 383], t101, n, 0)) rfl (fun _ => rfl) rfl ?_
  refine ex_go (S := (12, [(0, gx_r 383)], [.inl 0, gx_r 383], t101, n, 0)) rfl (fun _ => rfl) rfl ?_
  refine ex_go (S := (13, [(0, gx_r 383)], [gx_r 383, .inl 0, gx_r 383], t101, n, 0)) rfl (fun _ => rfl) rfl ?_
  obtain ⟨_, r12, rfl⟩ := pk_lastDown (d + 3) n s101.1 k3 (by first | decide | omega)
  refine gx_call1 rfl rfl s101.1 rfl rfl r12 rfl ?_
  have hT14 := rT_keep (t' := t101) hT (fun c i h => e101 c i (by first | decide | omega))
  obtain ⟨_, r113, v113, t113, a113, f113, rfl, s113, e113, z113, q113⟩ := pf_takeNumber (d + 2) n (s101) hT14 (by first | decide | omega) (lo := 0) (hi := σ 1 0 - 1) (by first | decide | omega) (by first | decide | omega)
  have b113 := s113.2.2.2
  have y113 := z113.trans (congrArg (fn S m N 0 (σ 1 0 - 1)) (rfl : (a + 1, 0) = (a + 1, 0)))
  refine gx_call1 rfl rfl s101.1 rfl rfl r113 rfl ?_
  have k15 : ai_hv t113 389 160 = some (.inl (σ 0 0)) := (e113 389 160 (by first | decide | omega)).trans k2
  have k16 : ai_hv t113 389 161 = some (.inl (σ 1 0)) := (e113 389 161 (by first | decide | omega)).trans k3
  have k17 : ai_hv t113 389 162 = some (.inl (σ 2 0)) := (e113 389 162 (by first | decide | omega)).trans k4
  have k18 : ai_hv t113 389 163 = some (.inl (σ 3 0)) := (e113 389 163 (by first | decide | omega)).trans k5
  have k19 : ai_hv t113 389 164 = some (.inl (σ 4 0)) := (e113 389 164 (by first | decide | omega)).trans k6
  have k20 : ai_hv t113 389 166 = some (.inl (σ 5 0)) := (e113 389 166 (by first | decide | omega)).trans k7
  have k21 : ai_hv t113 389 167 = some (.inl (σ 6 0)) := (e113 389 167 (by first | decide | omega)).trans k8
  have k22 : ai_hv t113 389 168 = some (.inl (σ 7 0)) := (e113 389 168 (by first | decide | omega)).trans k9
  have k23 : ai_hv t113 383 20 = some (.inl (σ 8 0)) := (e113 383 20 (by first | decide | omega)).trans k10
  have k24 : ai_hv t113 383 19 = some (.inl (σ 15 0)) := (e113 383 19 (by first | decide | omega)).trans k11
  refine ex_go (S := (20, [(1, .inl v113), (0, gx_r 383)], [], t113, n, 0)) rfl (fun _ => rfl) rfl ?_
  refine ex_go (S := (21, [(1, .inl v113), (0, gx_r 383)], [gx_r 383], t113, n, 0)) rfl (fun _ => rfl) rfl ?_
  refine ex_go (S := (23, [(1, .inl v113), (0, gx_r 383)], [.inl 26, gx_r 383], t113, n, 0)) rfl (fun _ => rfl) rfl ?_
  refine ex_go (S := (24, [(1, .inl v113), (0, gx_r 383)], [.inl 5, .inl 26, gx_r 383], t113, n, 0)) rfl (fun _ => rfl) rfl ?_
  have hT26 := rT_keep (t' := t113) hT (fun c i h => (e113 c i (by first | decide | omega)).trans (e101 c i (by first | decide | omega)))
  obtain ⟨_, r125, v125, t125, a125, f125, rfl, s125, e125, z125, q125⟩ := pf_takeOne (d + 1) n (s113) hT26 (by first | decide | omega) (w := 26) (mm := 5) (by first | decide | omega) (by first | decide | omega)
  have b125 := s125.2.2.2
  have y125 := z125.trans (congrArg (fo S m N 26 5) y113)
  refine gx_call1 rfl rfl s113.1 rfl rfl r125 rfl ?_
  have k27 : ai_hv t125 389 160 = some (.inl (σ 0 0)) := (e125 389 160 (by first | decide | omega)).trans k15
  have k28 : ai_hv t125 389 161 = some (.inl (σ 1 0)) := (e125 389 161 (by first | decide | omega)).trans k16
  have k29 : ai_hv t125 389 162 = some (.inl (σ 2 0)) := (e125 389 162 (by first | decide | omega)).trans k17
  have k30 : ai_hv t125 389 163 = some (.inl (σ 3 0)) := (e125 389 163 (by first | decide | omega)).trans k18
  have k31 : ai_hv t125 389 164 = some (.inl (σ 4 0)) := (e125 389 164 (by first | decide | omega)).trans k19
  have k32 : ai_hv t125 389 166 = some (.inl (σ 5 0)) := (e125 389 166 (by first | decide | omega)).trans k20
  have k33 : ai_hv t125 389 167 = some (.inl (σ 6 0)) := (e125 389 167 (by first | decide | omega)).trans k21
  have k34 : ai_hv t125 389 168 = some (.inl (σ 7 0)) := (e125 389 168 (by first | decide | omega)).trans k22
  have k35 : ai_hv t125 383 20 = some (.inl (σ 8 0)) := (e125 383 20 (by first | decide | omega)).trans k23
  have k36 : ai_hv t125 383 19 = some (.inl (σ 15 0)) := (e125 383 19 (by first | decide | omega)).trans k24
  refine ex_go (S := (28, [(2, .inl v125), (1, .inl v113), (0, gx_r 383)], [], t125, n, 0)) rfl (fun _ => rfl) rfl ?_
  refine ex_go (S := (29, [(2, .inl v125), (1, .inl v113), (0, gx_r 383)], [gx_r 383], t125, n, 0)) rfl (fun _ => rfl) rfl ?_
  refine ex_go (S := (30, [(2, .inl v125), (1, .inl v113), (0, gx_r 383)], [.inl 0, gx_r 383], t125, n, 0)) rfl (fun _ => rfl) rfl ?_
  refine ex_go (S := (31, [(2, .inl v125), (1, .inl v113), (0, gx_r 383)], [gx_r 383, .inl 0, gx_r 383], t125, n, 0)) rfl (fun _ => rfl) rfl ?_
  obtain ⟨_, r37, rfl⟩ := pk_lastOver (d + 3) n s125.1 k27 (by first | decide | omega)
  refine gx_call1 rfl rfl s125.1 rfl rfl r37 rfl ?_
  have hT39 := rT_keep (t' := t125) hT (fun c i h => (e125 c i (by first | decide | omega)).trans ((e113 c i (by first | decide | omega)).trans (e101 c i (by first | decide | omega))))
  obtain ⟨_, r138, v138, t138, a138, f138, rfl, s138, e138, z138, q138⟩ := pf_takeNumber (d + 2) n (s125) hT39 (by first | decide | omega) (lo := 0) (hi := σ 0 0 - 1) (by first | decide | omega) (by first | decide | omega)
  have b138 := s138.2.2.2
  have y138 := z138.trans (congrArg (fn S m N 0 (σ 0 0 - 1)) y125)
  refine gx_call1 rfl rfl s125.1 rfl rfl r138 rfl ?_
  have k40 : ai_hv t138 389 160 = some (.inl (σ 0 0)) := (e138 389 160 (by first | decide | omega)).trans k27
  have k41 : ai_hv t138 389 161 = some (.inl (σ 1 0)) := (e138 389 161 (by first | decide | omega)).trans k28
  have k42 : ai_hv t138 389 162 = some (.inl (σ 2 0)) := (e138 389 162 (by first | decide | omega)).trans k29
  have k43 : ai_hv t138 389 163 = some (.inl (σ 3 0)) := (e138 389 163 (by first | decide | omega)).trans k30
  have k44 : ai_hv t138 389 164 = some (.inl (σ 4 0)) := (e138 389 164 (by first | decide | omega)).trans k31
  have k45 : ai_hv t138 389 166 = some (.inl (σ 5 0)) := (e138 389 166 (by first | decide | omega)).trans k32
  have k46 : ai_hv t138 389 167 = some (.inl (σ 6 0)) := (e138 389 167 (by first | decide | omega)).trans k33
  have k47 : ai_hv t138 389 168 = some (.inl (σ 7 0)) := (e138 389 168 (by first | decide | omega)).trans k34
  have k48 : ai_hv t138 383 20 = some (.inl (σ 8 0)) := (e138 383 20 (by first | decide | omega)).trans k35
  have k49 : ai_hv t138 383 19 = some (.inl (σ 15 0)) := (e138 383 19 (by first | decide | omega)).trans k36
  refine ex_go (S := (38, [(3, .inl v138), (2, .inl v125), (1, .inl v113), (0, gx_r 383)], [], t138, n, 0)) rfl (fun _ => rfl) rfl ?_
  refine ex_go (S := (39, [(3, .inl v138), (2, .inl v125), (1, .inl v113), (0, gx_r 383)], [gx_r 383], t138, n, 0)) rfl (fun _ => rfl) rfl ?_
  refine ex_go (S := (40, [(3, .inl v138), (2, .inl v125), (1, .inl v113), (0, gx_r 383)], [.inl v138, gx_r 383], t138, n, 0)) rfl (fun _ => rfl) rfl ?_
  refine ex_go (S := (41, [(3, .inl v138), (2, .inl v125), (1, .inl v113), (0, gx_r 383)], [gx_r 383, .inl v138, gx_r 383], t138, n, 0)) rfl (fun _ => rfl) rfl ?_
  obtain ⟨_, r50, rfl⟩ := pk_lastOver (d + 3) n s138.1 k40 (by first | decide | omega)
  refine gx_call1 rfl rfl s138.1 rfl rfl r50 rfl ?_
  have hT52 := rT_keep (t' := t138) hT (fun c i h => (e138 c i (by first | decide | omega)).trans ((e125 c i (by first | decide | omega)).trans ((e113 c i (by first | decide | omega)).trans (e101 c i (by first | decide | omega)))))
  obtain ⟨_, r151, v151, t151, a151, f151, rfl, s151, e151, z151, q151⟩ := pf_takeNumber (d + 2) n (s138) hT52 (by first | decide | omega) (lo := v138) (hi := σ 0 0 - 1) (by first | decide | omega) (by first | decide | omega)
  have b151 := s151.2.2.2
  have y151 := z151.trans (congrArg (fn S m N v138 (σ 0 0 - 1)) y138)
  refine gx_call1 rfl rfl s138.1 rfl rfl r151 rfl ?_
  have k53 : ai_hv t151 389 160 = some (.inl (σ 0 0)) := (e151 389 160 (by first | decide | omega)).trans k40
  have k54 : ai_hv t151 389 161 = some (.inl (σ 1 0)) := (e151 389 161 (by first | decide | omega)).trans k41
  have k55 : ai_hv t151 389 162 = some (.inl (σ 2 0)) := (e151 389 162 (by first | decide | omega)).trans k42
  have k56 : ai_hv t151 389 163 = some (.inl (σ 3 0)) := (e151 389 163 (by first | decide | omega)).trans k43
  have k57 : ai_hv t151 389 164 = some (.inl (σ 4 0)) := (e151 389 164 (by first | decide | omega)).trans k44
  have k58 : ai_hv t151 389 166 = some (.inl (σ 5 0)) := (e151 389 166 (by first | decide | omega)).trans k45
  have k59 : ai_hv t151 389 167 = some (.inl (σ 6 0)) := (e151 389 167 (by first | decide | omega)).trans k46
  have k60 : ai_hv t151 389 168 = some (.inl (σ 7 0)) := (e151 389 168 (by first | decide | omega)).trans k47
  have k61 : ai_hv t151 383 20 = some (.inl (σ 8 0)) := (e151 383 20 (by first | decide | omega)).trans k48
  have k62 : ai_hv t151 383 19 = some (.inl (σ 15 0)) := (e151 383 19 (by first | decide | omega)).trans k49
  refine ex_go (S := (49, [(4, .inl v151), (3, .inl v138), (2, .inl v125), (1, .inl v113), (0, gx_r 383)], [], t151, n, 0)) rfl (fun _ => rfl) rfl ?_
  refine ex_go (S := (50, [(4, .inl v151), (3, .inl v138), (2, .inl v125), (1, .inl v113), (0, gx_r 383)], [.inl v138], t151, n, 0)) rfl (fun _ => rfl) rfl ?_
  refine ex_go (S := (52, [(5, .inl v138), (4, .inl v151), (3, .inl v138), (2, .inl v125), (1, .inl v113), (0, gx_r 383)], [], t151, n, 0)) rfl (fun _ => rfl) rfl ?_
  refine pe_drift_l (tb := t151) (by first | decide | omega) (by first | decide | omega) (by first | decide | omega) (fun t163 s163 e163 dq163 => ?_) (8 - v138) _ _ (by first | decide | omega) (fun z => by omega) s151 (fun _ _ _ => rfl) (fun z => ⟨fun j9 g1 g2 => by omega, fun j9 g1 => rfl⟩)
  have k64 : ai_hv t163 389 160 = some (.inl (σ 0 0)) := (e163 389 160 (by first | decide | omega)).trans k53
  have k65 : ai_hv t163 389 161 = some (.inl (σ 1 0)) := (e163 389 161 (by first | decide | omega)).trans k54
  have k66 : ai_hv t163 389 162 = some (.inl (σ 2 0)) := (e163 389 162 (by first | decide | omega)).trans k55
  have k67 : ai_hv t163 389 163 = some (.inl (σ 3 0)) := (e163 389 163 (by first | decide | omega)).trans k56
  have k68 : ai_hv t163 389 164 = some (.inl (σ 4 0)) := (e163 389 164 (by first | decide | omega)).trans k57
  have k69 : ai_hv t163 389 166 = some (.inl (σ 5 0)) := (e163 389 166 (by first | decide | omega)).trans k58
  have k70 : ai_hv t163 389 167 = some (.inl (σ 6 0)) := (e163 389 167 (by first | decide | omega)).trans k59
  have k71 : ai_hv t163 389 168 = some (.inl (σ 7 0)) := (e163 389 168 (by first | decide | omega)).trans k60
  have k72 : ai_hv t163 383 20 = some (.inl (σ 8 0)) := (e163 383 20 (by first | decide | omega)).trans k61
  have k73 : ai_hv t163 383 19 = some (.inl (σ 15 0)) := (e163 383 19 (by first | decide | omega)).trans k62
  have h3 : f138 = 0 → v138 = sp_nv S m (a + 3) := fun z => by rw [← show a125 = a + 3 by omega]; omega
  have y9 := y151.trans (fn_any (lo' := sp_nv S m (a + 3)) (hi' := σ 0 0 - 1) (fun h => ⟨h3 ((congrArg Prod.snd y138).trans h), rfl⟩))
  have hT74 := rT_keep (t' := t163) hT (fun c i h => (e163 c i (by first | decide | omega)).trans ((e151 c i (by first | decide | omega)).trans ((e138 c i (by first | decide | omega)).trans ((e125 c i (by first | decide | omega)).trans ((e113 c i (by first | decide | omega)).trans (e101 c i (by first | decide | omega)))))))
  refine ⟨_, rfl, t163, a151, f151, rfl, s163, hT74, y9, by omega, fun h0 => ⟨by omega, ?_⟩⟩
  have hv1 : v113 = sp_nv S m (a + 1) := by omega
  have hv4 : v151 = sp_nv S m (a + 4) := by rw [← show a138 = a + 4 by omega]; omega
  have hv3 := h3 (by first | decide | omega)
  have hwy : sp_wy S m N (a + 2) = v125 := by
    have h9 := q125.2 (by first | decide | omega)
    rw [show a113 = a + 2 by omega] at h9
    exact sp_wy_eq (by first | decide | omega) h9
  obtain ⟨d1, d2⟩ := dq163 (by first | decide | omega)
  have hfl : rows t163 389 172 1 64 (sn_drift S m N σ a 23) := fun i hi => by
    by_cases hc9 : 8 * sp_nv S m (a + 1) + sp_nv S m (a + 3) ≤ i ∧ i ≤ 8 * sp_nv S m (a + 1) + sp_nv S m (a + 4)
    · rw [dr_in hc9.1 hc9.2, hwy, Nat.one_mul]; exact d1 i (by first | decide | omega) (by first | decide | omega)
    · rw [dr_out hc9]
      have h9 := d2 i (by first | decide | omega)
      rw [Nat.one_mul, h9]
      have h8 := ((e151 389 (172 + 1 * i) (by first | decide | omega)).trans ((e138 389 (172 + 1 * i) (by first | decide | omega)).trans ((e125 389 (172 + 1 * i) (by first | decide | omega)).trans ((e113 389 (172 + 1 * i) (by first | decide | omega)).trans (e101 389 (172 + 1 * i) (by first | decide | omega)))))).trans (hb13 i hi)
      rw [Nat.one_mul] at h8
      exact h8
  have xb75 : rows t163 389 237 3 (σ 2 0) (fun i => sp_nv S m (σ 16 i + 3)) := rows_keep hb0 (fun i hi => (e163 389 (237 + 3 * i) (by first | decide | omega)).trans ((e151 389 (237 + 3 * i) (by first | decide | omega)).trans ((e138 389 (237 + 3 * i) (by first | decide | omega)).trans ((e125 389 (237 + 3 * i) (by first | decide | omega)).trans ((e113 389 (237 + 3 * i) (by first | decide | omega)).trans (e101 389 (237 + 3 * i) (by first | decide | omega)))))))
  have xb76 : rows t163 389 238 3 (σ 2 0) (fun i => sp_nv S m (σ 16 i + 4)) := rows_keep hb1 (fun i hi => (e163 389 (238 + 3 * i) (by first | decide | omega)).trans ((e151 389 (238 + 3 * i) (by first | decide | omega)).trans ((e138 389 (238 + 3 * i) (by first | decide | omega)).trans ((e125 389 (238 + 3 * i) (by first | decide | omega)).trans ((e113 389 (238 + 3 * i) (by first | decide | omega)).trans (e101 389 (238 + 3 * i) (by first | decide | omega)))))))
  have xb77 : rows t163 389 255 4 (σ 3 0) (fun i => sp_nv S m (σ 20 i + 4)) := rows_keep hb2 (fun i hi => (e163 389 (255 + 4 * i) (by first | decide | omega)).trans ((e151 389 (255 + 4 * i) (by first | decide | omega)).trans ((e138 389 (255 + 4 * i) (by first | decide | omega)).trans ((e125 389 (255 + 4 * i) (by first | decide | omega)).trans ((e113 389 (255 + 4 * i) (by first | decide | omega)).trans (e101 389 (255 + 4 * i) (by first | decide | omega)))))))
  have xb78 : rows t163 389 256 4 (σ 3 0) (fun i => sp_nv S m (σ 20 i + 6)) := rows_keep hb3 (fun i hi => (e163 389 (256 + 4 * i) (by first | decide | omega)).trans ((e151 389 (256 + 4 * i) (by first | decide | omega)).trans ((e138 389 (256 + 4 * i) (by first | decide | omega)).trans ((e125 389 (256 + 4 * i) (by first | decide | omega)).trans ((e113 389 (256 + 4 * i) (by first | decide | omega)).trans (e101 389 (256 + 4 * i) (by first | decide | omega)))))))
  have xb79 : rows t163 389 257 4 (σ 3 0) (fun i => sp_nv S m (σ 20 i + 8)) := rows_keep hb4 (fun i hi => (e163 389 (257 + 4 * i) (by first | decide | omega)).trans ((e151 389 (257 + 4 * i) (by first | decide | omega)).trans ((e138 389 (257 + 4 * i) (by first | decide | omega)).trans ((e125 389 (257 + 4 * i) (by first | decide | omega)).trans ((e113 389 (257 + 4 * i) (by first | decide | omega)).trans (e101 389 (257 + 4 * i) (by first | decide | omega)))))))
  have xb80 : rows t163 389 279 3 (σ 4 0) (fun i => sp_nv S m (σ 21 i + 3)) := rows_keep hb5 (fun i hi => (e163 389 (279 + 3 * i) (by first | decide | omega)).trans ((e151 389 (279 + 3 * i) (by first | decide | omega)).trans ((e138 389 (279 + 3 * i) (by first | decide | omega)).trans ((e125 389 (279 + 3 * i) (by first | decide | omega)).trans ((e113 389 (279 + 3 * i) (by first | decide | omega)).trans (e101 389 (279 + 3 * i) (by first | decide | omega)))))))
  have xb81 : rows t163 389 280 3 (σ 4 0) (fun i => sp_nv S m (σ 21 i + 5)) := rows_keep hb6 (fun i hi => (e163 389 (280 + 3 * i) (by first | decide | omega)).trans ((e151 389 (280 + 3 * i) (by first | decide | omega)).trans ((e138 389 (280 + 3 * i) (by first | decide | omega)).trans ((e125 389 (280 + 3 * i) (by first | decide | omega)).trans ((e113 389 (280 + 3 * i) (by first | decide | omega)).trans (e101 389 (280 + 3 * i) (by first | decide | omega)))))))
  have xb82 : rows t163 389 284 2 (σ 5 0) (fun i => sp_nv S m (σ 17 i + 2)) := rows_keep hb7 (fun i hi => (e163 389 (284 + 2 * i) (by first | decide | omega)).trans ((e151 389 (284 + 2 * i) (by first | decide | omega)).trans ((e138 389 (284 + 2 * i) (by first | decide | omega)).trans ((e125 389 (284 + 2 * i) (by first | decide | omega)).trans ((e113 389 (284 + 2 * i) (by first | decide | omega)).trans (e101 389 (284 + 2 * i) (by first | decide | omega)))))))
  have xb83 : rows t163 389 285 2 (σ 5 0) (fun i => sp_nv S m (σ 17 i + 4)) := rows_keep hb8 (fun i hi => (e163 389 (285 + 2 * i) (by first | decide | omega)).trans ((e151 389 (285 + 2 * i) (by first | decide | omega)).trans ((e138 389 (285 + 2 * i) (by first | decide | omega)).trans ((e125 389 (285 + 2 * i) (by first | decide | omega)).trans ((e113 389 (285 + 2 * i) (by first | decide | omega)).trans (e101 389 (285 + 2 * i) (by first | decide | omega)))))))
  have xb84 : rows t163 389 294 1 (σ 6 0) (fun i => sp_nv S m (σ 18 i + 2)) := rows_keep hb9 (fun i hi => (e163 389 (294 + 1 * i) (by first | decide | omega)).trans ((e151 389 (294 + 1 * i) (by first | decide | omega)).trans ((e138 389 (294 + 1 * i) (by first | decide | omega)).trans ((e125 389 (294 + 1 * i) (by first | decide | omega)).trans ((e113 389 (294 + 1 * i) (by first | decide | omega)).trans (e101 389 (294 + 1 * i) (by first | decide | omega)))))))
  have xb85 : rows t163 389 300 2 (σ 7 0) (fun i => sp_nv S m (σ 19 i + 2)) := rows_keep hb10 (fun i hi => (e163 389 (300 + 2 * i) (by first | decide | omega)).trans ((e151 389 (300 + 2 * i) (by first | decide | omega)).trans ((e138 389 (300 + 2 * i) (by first | decide | omega)).trans ((e125 389 (300 + 2 * i) (by first | decide | omega)).trans ((e113 389 (300 + 2 * i) (by first | decide | omega)).trans (e101 389 (300 + 2 * i) (by first | decide | omega)))))))
  have xb86 : rows t163 389 301 2 (σ 7 0) (fun i => sp_nv S m (σ 19 i + 4)) := rows_keep hb11 (fun i hi => (e163 389 (301 + 2 * i) (by first | decide | omega)).trans ((e151 389 (301 + 2 * i) (by first | decide | omega)).trans ((e138 389 (301 + 2 * i) (by first | decide | omega)).trans ((e125 389 (301 + 2 * i) (by first | decide | omega)).trans ((e113 389 (301 + 2 * i) (by first | decide | omega)).trans (e101 389 (301 + 2 * i) (by first | decide | omega)))))))
  have xk87 : rows t163 389 236 3 (σ 2 0) (σ 10) := rows_keep hRk (fun i hi => (e163 389 (236 + 3 * i) (by first | decide | omega)).trans ((e151 389 (236 + 3 * i) (by first | decide | omega)).trans ((e138 389 (236 + 3 * i) (by first | decide | omega)).trans ((e125 389 (236 + 3 * i) (by first | decide | omega)).trans ((e113 389 (236 + 3 * i) (by first | decide | omega)).trans (e101 389 (236 + 3 * i) (by first | decide | omega)))))))
  have xk88 : rows t163 389 254 4 (σ 3 0) (σ 11) := rows_keep hRl (fun i hi => (e163 389 (254 + 4 * i) (by first | decide | omega)).trans ((e151 389 (254 + 4 * i) (by first | decide | omega)).trans ((e138 389 (254 + 4 * i) (by first | decide | omega)).trans ((e125 389 (254 + 4 * i) (by first | decide | omega)).trans ((e113 389 (254 + 4 * i) (by first | decide | omega)).trans (e101 389 (254 + 4 * i) (by first | decide | omega)))))))
  have xk89 : rows t163 389 278 3 (σ 4 0) (σ 12) := rows_keep hRs (fun i hi => (e163 389 (278 + 3 * i) (by first | decide | omega)).trans ((e151 389 (278 + 3 * i) (by first | decide | omega)).trans ((e138 389 (278 + 3 * i) (by first | decide | omega)).trans ((e125 389 (278 + 3 * i) (by first | decide | omega)).trans ((e113 389 (278 + 3 * i) (by first | decide | omega)).trans (e101 389 (278 + 3 * i) (by first | decide | omega)))))))
  exact ⟨⟨k64, k65, k66, k67, k68, k69, k70, k71, k72, k73⟩, fun k hk => by
      rcases hRL k hk with ⟨h1, h2⟩ | ⟨h1, z, h2, h3⟩
      · exact Or.inl ⟨h1, ((e163 389 (169 + k) (by first | decide | omega)).trans ((e151 389 (169 + k) (by first | decide | omega)).trans ((e138 389 (169 + k) (by first | decide | omega)).trans ((e125 389 (169 + k) (by first | decide | omega)).trans ((e113 389 (169 + k) (by first | decide | omega)).trans (e101 389 (169 + k) (by first | decide | omega))))))).trans h2⟩
      · exact Or.inr ⟨h1, z, ((e163 389 (169 + k) (by first | decide | omega)).trans ((e151 389 (169 + k) (by first | decide | omega)).trans ((e138 389 (169 + k) (by first | decide | omega)).trans ((e125 389 (169 + k) (by first | decide | omega)).trans ((e113 389 (169 + k) (by first | decide | omega)).trans (e101 389 (169 + k) (by first | decide | omega))))))).trans h2, h3⟩, xk87, xk88, xk89, (fun k hk => ⟨((e163 393 k (by first | decide | omega)).trans ((e151 393 k (by first | decide | omega)).trans ((e138 393 k (by first | decide | omega)).trans ((e125 393 k (by first | decide | omega)).trans ((e113 393 k (by first | decide | omega)).trans (e101 393 k (by first | decide | omega))))))).trans (hRN k hk).1, ((e163 395 k (by first | decide | omega)).trans ((e151 395 k (by first | decide | omega)).trans ((e138 395 k (by first | decide | omega)).trans ((e125 395 k (by first | decide | omega)).trans ((e113 395 k (by first | decide | omega)).trans (e101 395 k (by first | decide | omega))))))).trans (hRN k hk).2⟩), xb75, xb76, xb77, xb78, xb79, xb80, xb81, xb82, xb83, xb84, xb85, xb86, ((e163 389 165 (by first | decide | omega)).trans ((e151 389 165 (by first | decide | omega)).trans ((e138 389 165 (by first | decide | omega)).trans ((e125 389 165 (by first | decide | omega)).trans ((e113 389 165 (by first | decide | omega)).trans (e101 389 165 (by first | decide | omega))))))).trans hb12, hfl⟩
theorem pe_lead_l (d n : Nat) {a f x y nn : Nat} {tb : en_H} {S : Nat → Nat} {m N : Nat} {σ : Nat → Nat → Nat} {Q : en_O → Prop} (hT : rT tb S m N) (hl : rows tb 389 254 4 nn (σ 11)) (hm : nn ≤ 6) (hx : x ≤ 7) (hy : y ≤ 7) (ha : 1 ≤ a) (haN : a ≤ N) (hQ : ∀ k t1 a1 f1, px_S t1 a1 f1 → px_F tb t1 → ((f = 0 ∧ (sg_lx σ nn (8 * y + x)) ∧ a1 = a - 1 ∧ f1 = 3 + 16 * sp_st S m (a - 1)) ∨ (a1 = a ∧ f1 = f ∧ (f = 0 → ¬ (sg_lx σ nn (8 * y + x))))) → en_ex none (en_u (d + 4)) (en_code 188) (fun _ => false) (110, [(4, .inl k), (3, .inl y), (2, .inl x), (1, .inl nn), (0, gx_r 383)], [], t1, n, 0) Q) : ∀ j k t0 a0 f0, k + j = nn → px_S t0 a0 f0 → px_F tb t0 → ((f = 0 ∧ (sg_lx σ nn (8 * y + x)) ∧ a0 = a - 1 ∧ f0 = 3 + 16 * sp_st S m (a - 1)) ∨ (a0 = a ∧ f0 = f ∧ ∀ i, i < k → σ 11 i ≠ 8 * y + x)) → en_ex none (en_u (d + 4)) (en_code 188) (fun _ => false) (54, [(4, .inl k), (3, .inl y), (2, .inl x), (1, .inl nn), (0, gx_r 383)], [], t0, n, 0) Q := by
  have hN := hT.2.2.2.2.1
  intro j
  induction j with
  | zero =>
    intro k t0 a0 f0 hk s0 e0 h0
    have b0 := s0.2.2.2
    refine ex_go (S := (56, [(4, .inl k), (3, .inl y), (2, .inl x), (1, .inl nn), (0, gx_r 383)], [.inl k], t0, n, 0)) rfl (fun _ => rfl) rfl ?_
    refine ex_go (S := (57, [(4, .inl k), (3, .inl y), (2, .inl x), (1, .inl nn), (0, gx_r 383)], [.inl nn, .inl k], t0, n, 0)) rfl (fun _ => rfl) rfl ?_
    refine gx_2t (c := .ge) rfl (by first | decide | omega) (by first | decide | omega) (show nn ≤ k from by omega) rfl ?_
    refine hQ k t0 a0 f0 s0 e0 ?_
    rcases h0 with h0 | ⟨h1, h2, h3⟩
    · exact Or.inl h0
    · exact Or.inr ⟨h1, h2, fun _ ⟨i, z1, z2⟩ => h3 i (by first | decide | omega) z2⟩
  | succ j ih =>
    intro k t0 a0 f0 hk s0 e0 h0
    have b0 := s0.2.2.2
    have hT0 := rT_keep hT (fun c i h => e0 c i (by first | decide | omega))
    by_cases hf0 : f0 = 0
    · obtain ⟨h1, h2, h3⟩ : a0 = a ∧ f0 = f ∧ ∀ i, i < k → σ 11 i ≠ 8 * y + x := by
        rcases h0 with ⟨z1, z2, z3, z4⟩ | h0
        · omega
        · exact h0
      refine ex_go (S := (56, [(4, .inl k), (3, .inl y), (2, .inl x), (1, .inl nn), (0, gx_r 383)], [.inl k], t0, n, 0)) rfl (fun _ => rfl) rfl ?_
      refine ex_go (S := (57, [(4, .inl k), (3, .inl y), (2, .inl x), (1, .inl nn), (0, gx_r 383)], [.inl nn, .inl k], t0, n, 0)) rfl (fun _ => rfl) rfl ?_
      refine gx_2f (c := .ge) rfl (by first | decide | omega) (by first | decide | omega) (show ¬ (nn ≤ k) from by omega) rfl ?_
      refine ex_go (S := (61, [(4, .inl k), (3, .inl y), (2, .inl x), (1, .inl nn), (0, gx_r 383)], [gx_r 383], t0, n, 0)) rfl (fun _ => rfl) rfl ?_
      refine gx_get rfl s0.1 rfl s0.2.2.1 rfl ?_
      refine gx_1f (c := .ne) rfl (by first | decide | omega) (show ¬ (f0 ≠ 0) from by omega) rfl ?_
      refine ex_go (S := (68, [(4, .inl k), (3, .inl y), (2, .inl x), (1, .inl nn), (0, gx_r 383)], [gx_r 383], t0, n, 0)) rfl (fun _ => rfl) rfl ?_
      refine gx_ref (c := 389) rfl s0.1 rfl rfl rfl rfl ?_
      refine ex_go (S := (74, [(4, .inl k), (3, .inl y), (2, .inl x), (1, .inl nn), (0, gx_r 383)], [.inl 254, gx_r 389], t0, n, 0)) rfl (fun _ => rfl) rfl ?_
      refine ex_go (S := (75, [(4, .inl k), (3, .inl y), (2, .inl x), (1, .inl nn), (0, gx_r 383)], [.inl 4, .inl 254, gx_r 389], t0, n, 0)) rfl (fun _ => rfl) rfl ?_
      refine ex_go (S := (77, [(4, .inl k), (3, .inl y), (2, .inl x), (1, .inl nn), (0, gx_r 383)], [.inl k, .inl 4, .inl 254, gx_r 389], t0, n, 0)) rfl (fun _ => rfl) rfl ?_
      refine gx_imul rfl (by first | decide | omega) rfl ?_
      refine ex_iadd rfl (by first | decide | omega) rfl ?_
      have k1 := (e0 389 (254 + 4 * k) (by first | decide | omega)).trans (hl k (by first | decide | omega))
      have hlb : σ 11 k < 2147483648 := by
        obtain ⟨m9, k9, k8, k7⟩ := gx_inb (c := 389) (i := 254 + 4 * k) (lo := 0) (hi := 63) s0.1 rfl (show 254 + 4 * k < 320 from by omega) (px_run_lead0 k (by first | decide | omega) (by first | decide | omega)) (by decide) (by decide) rfl
        have h9 := Sum.inl.inj (Option.some.inj (k1.symm.trans k9))
        omega
      refine gx_ag (v := .inl (σ 11 k)) (cb := fun c => Nat.beq c 0) rfl (fun _ => rfl) s0.1 rfl rfl k1 (by first | decide | omega) rfl ?_
      refine ex_go (S := (82, [(4, .inl k), (3, .inl y), (2, .inl x), (1, .inl nn), (0, gx_r 383)], [.inl 8, .inl (σ 11 k)], t0, n, 0)) rfl (fun _ => rfl) rfl ?_
      refine ex_go (S := (83, [(4, .inl k), (3, .inl y), (2, .inl x), (1, .inl nn), (0, gx_r 383)], [.inl y, .inl 8, .inl (σ 11 k)], t0, n, 0)) rfl (fun _ => rfl) rfl ?_
      refine gx_imul rfl (by first | decide | omega) rfl ?_
      refine ex_go (S := (85, [(4, .inl k), (3, .inl y), (2, .inl x), (1, .inl nn), (0, gx_r 383)], [.inl x, .inl (8 * y), .inl (σ 11 k)], t0, n, 0)) rfl (fun _ => rfl) rfl ?_
      refine ex_iadd rfl (by first | decide | omega) rfl ?_
      by_cases hc2 : σ 11 k ≠ (8 * y) + x
      · refine gx_2t (c := .ne) rfl (by first | decide | omega) (by first | decide | omega) hc2 rfl ?_
        refine gx_iinc (i := 4) (k := 1) rfl (fun _ => rfl) (by first | decide | omega) rfl ?_
        show en_ex _ _ _ _ (107, [(4, .inl (k + 1)), (3, .inl y), (2, .inl x), (1, .inl nn), (0, gx_r 383)], [], t0, n, 0) _
        refine ex_go (S := (54, [(4, .inl (k + 1)), (3, .inl y), (2, .inl x), (1, .inl nn), (0, gx_r 383)], [], t0, n, 0)) rfl (fun _ => rfl) rfl ?_
        exact ih (k + 1) t0 a0 f0 (by first | decide | omega) s0 e0 (Or.inr ⟨h1, h2, fun i hi => by
          by_cases e : i = k
          · rw [e]; omega
          · exact h3 i (by first | decide | omega)⟩)
      · refine gx_2f (c := .ne) rfl (by first | decide | omega) (by first | decide | omega) hc2 rfl ?_
        refine ex_go (S := (90, [(4, .inl k), (3, .inl y), (2, .inl x), (1, .inl nn), (0, gx_r 383)], [gx_r 383], t0, n, 0)) rfl (fun _ => rfl) rfl ?_
        refine ex_go (S := (91, [(4, .inl k), (3, .inl y), (2, .inl x), (1, .inl nn), (0, gx_r 383)], [gx_r 383, gx_r 383], t0, n, 0)) rfl (fun _ => rfl) rfl ?_
        refine gx_get rfl s0.1 rfl s0.2.1 rfl ?_
        refine ex_go (S := (95, [(4, .inl k), (3, .inl y), (2, .inl x), (1, .inl nn), (0, gx_r 383)], [.inl 1, .inl a0, gx_r 383], t0, n, 0)) rfl (fun _ => rfl) rfl ?_
        refine gx_isub rfl (by first | decide | omega) (by first | decide | omega) rfl ?_
        refine gx_put rfl s0.1 rfl rfl (ai_in_h (by first | decide | omega) (by first | decide | omega) (by first | decide | omega)) rfl (fun t103 g103 k103 e103 => ?_)
        have k4 : ai_hv t103 389 (254 + (4 * k)) = some (.inl (σ 11 k)) := (e103 389 (254 + (4 * k)) (by first | decide | omega)).trans k1
        have s103 : px_S t103 (a0 - 1) f0 := ⟨g103, k103, (e103 383 8 (by first | decide | omega)).trans s0.2.2.1, by omega, s0.2.2.2.2⟩
        refine ex_go (S := (100, [(4, .inl k), (3, .inl y), (2, .inl x), (1, .inl nn), (0, gx_r 383)], [gx_r 383], t103, n, 0)) rfl (fun _ => rfl) rfl ?_
        refine ex_go (S := (101, [(4, .inl k), (3, .inl y), (2, .inl x), (1, .inl nn), (0, gx_r 383)], [.inl 3, gx_r 383], t103, n, 0)) rfl (fun _ => rfl) rfl ?_
        have hT6 := rT_keep (t' := t103) hT0 (fun c i h => e103 c i (by first | decide | omega))
        obtain ⟨_, r105, t105, a105, f105, rfl, s105, e105, q105⟩ := pe_wrong (d + 3) n (s103) hT6 (by first | decide | omega) (w := 3) (by first | decide | omega)
        have b105 := s105.2.2.2
        have hT105 := rT_keep hT6 (fun c i h => e105 c i (by first | decide | omega))
        refine gx_call0 rfl rfl s103.1 rfl rfl r105 rfl ?_
        have k7 : ai_hv t105 389 (254 + (4 * k)) = some (.inl (σ 11 k)) := (e105 389 (254 + (4 * k)) (by first | decide | omega)).trans k4
        refine gx_iinc (i := 4) (k := 1) rfl (fun _ => rfl) (by first | decide | omega) rfl ?_
        show en_ex _ _ _ _ (107, [(4, .inl (k + 1)), (3, .inl y), (2, .inl x), (1, .inl nn), (0, gx_r 383)], [], t105, n, 0) _
        refine ex_go (S := (54, [(4, .inl (k + 1)), (3, .inl y), (2, .inl x), (1, .inl nn), (0, gx_r 383)], [], t105, n, 0)) rfl (fun _ => rfl) rfl ?_
        exact ih (k + 1) t105 a105 f105 (by first | decide | omega) s105 (fun c i h => ((e105 c i (by first | decide | omega)).trans (e103 c i (by first | decide | omega))).trans (e0 c i h)) (Or.inl ⟨by omega, ⟨k, by omega, by omega⟩, by omega, by have := q105; rw [show a - 1 = a0 - 1 by omega]; omega⟩)
    · refine ex_go (S := (56, [(4, .inl k), (3, .inl y), (2, .inl x), (1, .inl nn), (0, gx_r 383)], [.inl k], t0, n, 0)) rfl (fun _ => rfl) rfl ?_
      refine ex_go (S := (57, [(4, .inl k), (3, .inl y), (2, .inl x), (1, .inl nn), (0, gx_r 383)], [.inl nn, .inl k], t0, n, 0)) rfl (fun _ => rfl) rfl ?_
      refine gx_2f (c := .ge) rfl (by first | decide | omega) (by first | decide | omega) (show ¬ (nn ≤ k) from by omega) rfl ?_
      refine ex_go (S := (61, [(4, .inl k), (3, .inl y), (2, .inl x), (1, .inl nn), (0, gx_r 383)], [gx_r 383], t0, n, 0)) rfl (fun _ => rfl) rfl ?_
      refine gx_get rfl s0.1 rfl s0.2.2.1 rfl ?_
      refine gx_1t (c := .ne) rfl (by first | decide | omega) (show f0 ≠ 0 from by omega) rfl ?_
      refine hQ k t0 a0 f0 s0 e0 ?_
      rcases h0 with h0 | ⟨h1, h2, h3⟩
      · exact Or.inl h0
      · exact Or.inr ⟨h1, h2, fun z => by omega⟩
theorem pe_readLead (d n : Nat) {t0 : en_H} {a : Nat} {S : Nat → Nat} {m N : Nat} {σ : Nat → Nat → Nat} (s0 : px_S t0 a 0) (hT : rT t0 S m N) (ha : a < N) (hA : RA t0 S m σ) (hB : WB σ) (hK : NK S m N σ) : ∃ r, en_u (d + 5) 188 [gx_r 383] t0 n = some r ∧ ∃ t' a' f', r = (none, t', n, 0) ∧ px_S t' a' f' ∧ rT t' S m N ∧ (a', f') = sl_lead S m N σ a ∧ a' ≤ N ∧ (f' = 0 → a < a' ∧ RA t' S m (sn_lead S m σ a)) := by
  have b0 := s0.2.2.2
  have hN := hT.2.2.2.2.1
  obtain ⟨⟨kk0, kk1, kk2, kk3, kk4, kk5, kk6, kk7, kk8, kk9⟩, hRL, hRk, hRl, hRs, hRN, hb0, hb1, hb2, hb3, hb4, hb5, hb6, hb7, hb8, hb9, hb10, hb11, hb12, hb13⟩ := hA
  have hBB := hB.1
  refine en_u_ex (d := d + 4) rfl ?_
  show en_ex _ _ _ _ (0, [(0, gx_r 383)], [], t0, n, 0) _
  refine ex_go (S := (1, [(0, gx_r 383)], [gx_r 383], t0, n, 0)) rfl (fun _ => rfl) rfl ?_
  refine gx_ref (c := 389) rfl s0.1 rfl rfl rfl rfl ?_
  refine ex_go (S := (7, [(0, gx_r 383)], [.inl 163, gx_r 389], t0, n, 0)) rfl (fun _ => rfl) rfl ?_
  refine gx_ag (v := .inl (σ 3 0)) (cb := fun c => Nat.beq c 0) rfl (fun _ => rfl) s0.1 rfl rfl kk3 (by first | decide | omega) rfl ?_
  refine ex_go (S := (9, [(1, .inl (σ 3 0)), (0, gx_r 383)], [], t0, n, 0)) rfl (fun _ => rfl) rfl ?_
  refine ex_go (S := (10, [(1, .inl (σ 3 0)), (0, gx_r 383)], [.inl (σ 3 0)], t0, n, 0)) rfl (fun _ => rfl) rfl ?_
  refine ex_go (S := (12, [(1, .inl (σ 3 0)), (0, gx_r 383)], [.inl 6, .inl (σ 3 0)], t0, n, 0)) rfl (fun _ => rfl) rfl ?_
  by_cases hful : σ 3 0 = 6
  · refine gx_2f (c := .ne) rfl (by first | decide | omega) (by first | decide | omega) (show ¬ (σ 3 0 ≠ 6) from by omega) rfl ?_
    refine ex_go (S := (16, [(1, .inl (σ 3 0)), (0, gx_r 383)], [gx_r 383], t0, n, 0)) rfl (fun _ => rfl) rfl ?_
    refine ex_go (S := (17, [(1, .inl (σ 3 0)), (0, gx_r 383)], [.inl 5, gx_r 383], t0, n, 0)) rfl (fun _ => rfl) rfl ?_
    obtain ⟨_, r101, t101, a101, f101, rfl, s101, e101, q101⟩ := pe_wrong (d + 3) n (s0) hT (by first | decide | omega) (w := 5) (by first | decide | omega)
    have b101 := s101.2.2.2
    have hT101 := rT_keep hT (fun c i h => e101 c i (by first | decide | omega))
    refine gx_call0 rfl rfl s0.1 rfl rfl r101 rfl ?_
    have k2 : ai_hv t101 389 160 = some (.inl (σ 0 0)) := (e101 389 160 (by first | decide | omega)).trans kk0
    have k3 : ai_hv t101 389 161 = some (.inl (σ 1 0)) := (e101 389 161 (by first | decide | omega)).trans kk1
    have k4 : ai_hv t101 389 162 = some (.inl (σ 2 0)) := (e101 389 162 (by first | decide | omega)).trans kk2
    have k5 : ai_hv t101 389 163 = some (.inl (σ 3 0)) := (e101 389 163 (by first | decide | omega)).trans kk3
    have k6 : ai_hv t101 389 164 = some (.inl (σ 4 0)) := (e101 389 164 (by first | decide | omega)).trans kk4
    have k7 : ai_hv t101 389 166 = some (.inl (σ 5 0)) := (e101 389 166 (by first | decide | omega)).trans kk5
    have k8 : ai_hv t101 389 167 = some (.inl (σ 6 0)) := (e101 389 167 (by first | decide | omega)).trans kk6
    have k9 : ai_hv t101 389 168 = some (.inl (σ 7 0)) := (e101 389 168 (by first | decide | omega)).trans kk7
    have k10 : ai_hv t101 383 20 = some (.inl (σ 8 0)) := (e101 383 20 (by first | decide | omega)).trans kk8
    have k11 : ai_hv t101 383 19 = some (.inl (σ 15 0)) := (e101 383 19 (by first | decide | omega)).trans kk9
    refine ex_ret (r := (none, t101, n, 0)) rfl (fun _ => rfl) ?_
    have hT12 := rT_keep (t' := t101) hT (fun c i h => e101 c i (by first | decide | omega))
    refine ⟨_, rfl, t101, a101, f101, rfl, s101, hT12, ?_, by omega, fun h0 => by omega⟩
    rw [show a101 = a by omega, show f101 = 5 + 16 * sp_st S m a by omega]
    unfold sl_lead
    have h5 : 5 + 16 * sp_st S m a ≠ 0 := by omega
    rw [fr_w hful, fn_no h5, fd2_no h5, fw_no h5, fn_no h5, fw_no h5, fn_no h5, fw_no h5, fn_no h5]
  · refine gx_2t (c := .ne) rfl (by first | decide | omega) (by first | decide | omega) (show σ 3 0 ≠ 6 from by omega) rfl ?_
    refine ex_go (S := (22, [(1, .inl (σ 3 0)), (0, gx_r 383)], [gx_r 383], t0, n, 0)) rfl (fun _ => rfl) rfl ?_
    refine ex_go (S := (23, [(1, .inl (σ 3 0)), (0, gx_r 383)], [gx_r 383, gx_r 383], t0, n, 0)) rfl (fun _ => rfl) rfl ?_
    refine gx_get rfl s0.1 rfl s0.2.1 rfl ?_
    refine ex_go (S := (27, [(1, .inl (σ 3 0)), (0, gx_r 383)], [.inl 1, .inl a, gx_r 383], t0, n, 0)) rfl (fun _ => rfl) rfl ?_
    refine ex_iadd rfl (by first | decide | omega) rfl ?_
    refine gx_put rfl s0.1 rfl rfl (ai_in_h (by first | decide | omega) (by first | decide | omega) (by first | decide | omega)) rfl (fun t113 g113 k113 e113 => ?_)
    have k14 : ai_hv t113 389 160 = some (.inl (σ 0 0)) := (e113 389 160 (by first | decide | omega)).trans kk0
    have k15 : ai_hv t113 389 161 = some (.inl (σ 1 0)) := (e113 389 161 (by first | decide | omega)).trans kk1
    have k16 : ai_hv t113 389 162 = some (.inl (σ 2 0)) := (e113 389 162 (by first | decide | omega)).trans kk2
    have k17 : ai_hv t113 389 163 = some (.inl (σ 3 0)) := (e113 389 163 (by first | decide | omega)).trans kk3
    have k18 : ai_hv t113 389 164 = some (.inl (σ 4 0)) := (e113 389 164 (by first | decide | omega)).trans kk4
    have k19 : ai_hv t113 389 166 = some (.inl (σ 5 0)) := (e113 389 166 (by first | decide | omega)).trans kk5
    have k20 : ai_hv t113 389 167 = some (.inl (σ 6 0)) := (e113 389 167 (by first | decide | omega)).trans kk6
    have k21 : ai_hv t113 389 168 = some (.inl (σ 7 0)) := (e113 389 168 (by first | decide | omega)).trans kk7
    have k22 : ai_hv t113 383 20 = some (.inl (σ 8 0)) := (e113 383 20 (by first | decide | omega)).trans kk8
    have k23 : ai_hv t113 383 19 = some (.inl (σ 15 0)) := (e113 383 19 (by first | decide | omega)).trans kk9
    have s113 : px_S t113 (a + 1) 0 := ⟨g113, k113, (e113 383 8 (by first | decide | omega)).trans s0.2.2.1, by omega, s0.2.2.2.2⟩
    refine ex_go (S := (32, [(1, .inl (σ 3 0)), (0, gx_r 383)], [gx_r 383], t113, n, 0)) rfl (fun _ => rfl) rfl ?_
    refine ex_go (S := (33, [(1, .inl (σ 3 0)), (0, gx_r 383)], [.inl 0, gx_r 383], t113, n, 0)) rfl (fun _ => rfl) rfl ?_
    refine ex_go (S := (34, [(1, .inl (σ 3 0)), (0, gx_r 383)], [gx_r 383, .inl 0, gx_r 383], t113, n, 0)) rfl (fun _ => rfl) rfl ?_
    obtain ⟨_, r24, rfl⟩ := pk_lastOver (d + 3) n s113.1 k14 (by first | decide | omega)
    refine gx_call1 rfl rfl s113.1 rfl rfl r24 rfl ?_
    have hT26 := rT_keep (t' := t113) hT (fun c i h => e113 c i (by first | decide | omega))
    obtain ⟨_, r125, v125, t125, a125, f125, rfl, s125, e125, z125, q125⟩ := pf_takeNumber (d + 2) n (s113) hT26 (by first | decide | omega) (lo := 0) (hi := σ 0 0 - 1) (by first | decide | omega) (by first | decide | omega)
    have b125 := s125.2.2.2
    have y125 := z125.trans (congrArg (fn S m N 0 (σ 0 0 - 1)) (fr_yes (S := S) (m := m) (w := 5) (a := a) hful).symm)
    refine gx_call1 rfl rfl s113.1 rfl rfl r125 rfl ?_
    have k27 : ai_hv t125 389 160 = some (.inl (σ 0 0)) := (e125 389 160 (by first | decide | omega)).trans k14
    have k28 : ai_hv t125 389 161 = some (.inl (σ 1 0)) := (e125 389 161 (by first | decide | omega)).trans k15
    have k29 : ai_hv t125 389 162 = some (.inl (σ 2 0)) := (e125 389 162 (by first | decide | omega)).trans k16
    have k30 : ai_hv t125 389 163 = some (.inl (σ 3 0)) := (e125 389 163 (by first | decide | omega)).trans k17
    have k31 : ai_hv t125 389 164 = some (.inl (σ 4 0)) := (e125 389 164 (by first | decide | omega)).trans k18
    have k32 : ai_hv t125 389 166 = some (.inl (σ 5 0)) := (e125 389 166 (by first | decide | omega)).trans k19
    have k33 : ai_hv t125 389 167 = some (.inl (σ 6 0)) := (e125 389 167 (by first | decide | omega)).trans k20
    have k34 : ai_hv t125 389 168 = some (.inl (σ 7 0)) := (e125 389 168 (by first | decide | omega)).trans k21
    have k35 : ai_hv t125 383 20 = some (.inl (σ 8 0)) := (e125 383 20 (by first | decide | omega)).trans k22
    have k36 : ai_hv t125 383 19 = some (.inl (σ 15 0)) := (e125 383 19 (by first | decide | omega)).trans k23
    refine ex_go (S := (41, [(2, .inl v125), (1, .inl (σ 3 0)), (0, gx_r 383)], [], t125, n, 0)) rfl (fun _ => rfl) rfl ?_
    refine ex_go (S := (42, [(2, .inl v125), (1, .inl (σ 3 0)), (0, gx_r 383)], [gx_r 383], t125, n, 0)) rfl (fun _ => rfl) rfl ?_
    refine ex_go (S := (43, [(2, .inl v125), (1, .inl (σ 3 0)), (0, gx_r 383)], [.inl 0, gx_r 383], t125, n, 0)) rfl (fun _ => rfl) rfl ?_
    refine ex_go (S := (44, [(2, .inl v125), (1, .inl (σ 3 0)), (0, gx_r 383)], [gx_r 383, .inl 0, gx_r 383], t125, n, 0)) rfl (fun _ => rfl) rfl ?_
    obtain ⟨_, r37, rfl⟩ := pk_lastDown (d + 3) n s125.1 k28 (by first | decide | omega)
    refine gx_call1 rfl rfl s125.1 rfl rfl r37 rfl ?_
    have hT39 := rT_keep (t' := t125) hT (fun c i h => (e125 c i (by first | decide | omega)).trans (e113 c i (by first | decide | omega)))
    obtain ⟨_, r138, v138, t138, a138, f138, rfl, s138, e138, z138, q138⟩ := pf_takeNumber (d + 2) n (s125) hT39 (by first | decide | omega) (lo := 0) (hi := σ 1 0 - 1) (by first | decide | omega) (by first | decide | omega)
    have b138 := s138.2.2.2
    have y138 := z138.trans (congrArg (fn S m N 0 (σ 1 0 - 1)) y125)
    refine gx_call1 rfl rfl s125.1 rfl rfl r138 rfl ?_
    have k40 : ai_hv t138 389 160 = some (.inl (σ 0 0)) := (e138 389 160 (by first | decide | omega)).trans k27
    have k41 : ai_hv t138 389 161 = some (.inl (σ 1 0)) := (e138 389 161 (by first | decide | omega)).trans k28
    have k42 : ai_hv t138 389 162 = some (.inl (σ 2 0)) := (e138 389 162 (by first | decide | omega)).trans k29
    have k43 : ai_hv t138 389 163 = some (.inl (σ 3 0)) := (e138 389 163 (by first | decide | omega)).trans k30
    have k44 : ai_hv t138 389 164 = some (.inl (σ 4 0)) := (e138 389 164 (by first | decide | omega)).trans k31
    have k45 : ai_hv t138 389 166 = some (.inl (σ 5 0)) := (e138 389 166 (by first | decide | omega)).trans k32
    have k46 : ai_hv t138 389 167 = some (.inl (σ 6 0)) := (e138 389 167 (by first | decide | omega)).trans k33
    have k47 : ai_hv t138 389 168 = some (.inl (σ 7 0)) := (e138 389 168 (by first | decide | omega)).trans k34
    have k48 : ai_hv t138 383 20 = some (.inl (σ 8 0)) := (e138 383 20 (by first | decide | omega)).trans k35
    have k49 : ai_hv t138 383 19 = some (.inl (σ 15 0)) := (e138 383 19 (by first | decide | omega)).trans k36
    refine ex_go (S := (51, [(3, .inl v138), (2, .inl v125), (1, .inl (σ 3 0)), (0, gx_r 383)], [], t138, n, 0)) rfl (fun _ => rfl) rfl ?_
    refine ex_go (S := (52, [(3, .inl v138), (2, .inl v125), (1, .inl (σ 3 0)), (0, gx_r 383)], [.inl 0], t138, n, 0)) rfl (fun _ => rfl) rfl ?_
    refine ex_go (S := (54, [(4, .inl 0), (3, .inl v138), (2, .inl v125), (1, .inl (σ 3 0)), (0, gx_r 383)], [], t138, n, 0)) rfl (fun _ => rfl) rfl ?_
    have xk51 : rows t138 389 254 4 (σ 3 0) (σ 11) := rows_keep hRl (fun i hi => (e138 389 (254 + 4 * i) (by first | decide | omega)).trans ((e125 389 (254 + 4 * i) (by first | decide | omega)).trans (e113 389 (254 + 4 * i) (by first | decide | omega))))
    have b9 : 1 ≤ a138 := by omega
    have hT52 := rT_keep (t' := t138) hT (fun c i h => (e138 c i (by first | decide | omega)).trans ((e125 c i (by first | decide | omega)).trans (e113 c i (by first | decide | omega))))
    refine pe_lead_l d n (tb := t138) (a := a138) (f := f138) (nn := σ 3 0) hT52 xk51 (by first | decide | omega) (by first | decide | omega) (by first | decide | omega) (by first | decide | omega) (by first | decide | omega) (fun k150 t150 a150 f150 s150 e150 q150 => ?_) (σ 3 0) 0 _ _ _ (by first | decide | omega) s138 (fun _ _ _ => rfl) (Or.inr ⟨rfl, rfl, fun i hi => by omega⟩)
    have b150 := s150.2.2.2
    have hxy : f138 = 0 → 8 * v138 + v125 = 8 * sp_nv S m (a + 2) + sp_nv S m (a + 1) := fun z => by rw [show a + 2 = a125 by omega]; omega
    have y150 : (a150, f150) = fd2 S m N (σ 1 0 - 1) (sg_lead σ (8 * sp_nv S m (a + 2) + sp_nv S m (a + 1))) _ := (fd2_of z138 (by
      rcases q150 with ⟨w1, w2, w3, w4⟩ | ⟨w1, w2, w3⟩
      · refine Or.inl ⟨w1, ?_, w3, w4⟩; rw [← hxy w1]; exact w2
      · refine Or.inr ⟨w1, w2, fun z => ?_⟩; rw [← hxy z]; exact w3 z) (v := 0)).trans (congrArg _ y125)
    have c150 : (f150 = 0 → f138 = 0 ∧ a150 = a138) ∧ a150 ≤ N ∧ a ≤ a150 := by
      rcases q150 with ⟨w1, w2, w3, w4⟩ | ⟨w1, w2, w3⟩ <;> omega
    have k53 : ai_hv t150 389 160 = some (.inl (σ 0 0)) := (e150 389 160 (by first | decide | omega)).trans k40
    have k54 : ai_hv t150 389 161 = some (.inl (σ 1 0)) := (e150 389 161 (by first | decide | omega)).trans k41
    have k55 : ai_hv t150 389 162 = some (.inl (σ 2 0)) := (e150 389 162 (by first | decide | omega)).trans k42
    have k56 : ai_hv t150 389 163 = some (.inl (σ 3 0)) := (e150 389 163 (by first | decide | omega)).trans k43
    have k57 : ai_hv t150 389 164 = some (.inl (σ 4 0)) := (e150 389 164 (by first | decide | omega)).trans k44
    have k58 : ai_hv t150 389 166 = some (.inl (σ 5 0)) := (e150 389 166 (by first | decide | omega)).trans k45
    have k59 : ai_hv t150 389 167 = some (.inl (σ 6 0)) := (e150 389 167 (by first | decide | omega)).trans k46
    have k60 : ai_hv t150 389 168 = some (.inl (σ 7 0)) := (e150 389 168 (by first | decide | omega)).trans k47
    have k61 : ai_hv t150 383 20 = some (.inl (σ 8 0)) := (e150 383 20 (by first | decide | omega)).trans k48
    have k62 : ai_hv t150 383 19 = some (.inl (σ 15 0)) := (e150 383 19 (by first | decide | omega)).trans k49
    refine ex_go (S := (113, [(4, .inl k150), (3, .inl v138), (2, .inl v125), (1, .inl (σ 3 0)), (0, gx_r 383)], [.inl 254], t150, n, 0)) rfl (fun _ => rfl) rfl ?_
    refine ex_go (S := (114, [(4, .inl k150), (3, .inl v138), (2, .inl v125), (1, .inl (σ 3 0)), (0, gx_r 383)], [.inl 4, .inl 254], t150, n, 0)) rfl (fun _ => rfl) rfl ?_
    refine ex_go (S := (115, [(4, .inl k150), (3, .inl v138), (2, .inl v125), (1, .inl (σ 3 0)), (0, gx_r 383)], [.inl (σ 3 0), .inl 4, .inl 254], t150, n, 0)) rfl (fun _ => rfl) rfl ?_
    refine gx_imul rfl (by first | decide | omega) rfl ?_
    refine ex_iadd rfl (by first | decide | omega) rfl ?_
    refine ex_go (S := (119, [(4, .inl (254 + (4 * (σ 3 0)))), (3, .inl v138), (2, .inl v125), (1, .inl (σ 3 0)), (0, gx_r 383)], [], t150, n, 0)) rfl (fun _ => rfl) rfl ?_
    refine ex_go (S := (120, [(4, .inl (254 + (4 * (σ 3 0)))), (3, .inl v138), (2, .inl v125), (1, .inl (σ 3 0)), (0, gx_r 383)], [gx_r 383], t150, n, 0)) rfl (fun _ => rfl) rfl ?_
    refine gx_ref (c := 389) rfl s150.1 rfl rfl rfl rfl ?_
    refine ex_go (S := (125, [(4, .inl (254 + (4 * (σ 3 0)))), (3, .inl v138), (2, .inl v125), (1, .inl (σ 3 0)), (0, gx_r 383)], [.inl (254 + (4 * (σ 3 0))), gx_r 389], t150, n, 0)) rfl (fun _ => rfl) rfl ?_
    refine ex_go (S := (127, [(4, .inl (254 + (4 * (σ 3 0)))), (3, .inl v138), (2, .inl v125), (1, .inl (σ 3 0)), (0, gx_r 383)], [.inl 8, .inl (254 + (4 * (σ 3 0))), gx_r 389], t150, n, 0)) rfl (fun _ => rfl) rfl ?_
    refine ex_go (S := (128, [(4, .inl (254 + (4 * (σ 3 0)))), (3, .inl v138), (2, .inl v125), (1, .inl (σ 3 0)), (0, gx_r 383)], [.inl v138, .inl 8, .inl (254 + (4 * (σ 3 0))), gx_r 389], t150, n, 0)) rfl (fun _ => rfl) rfl ?_
    refine gx_imul rfl (by first | decide | omega) rfl ?_
    refine ex_go (S := (130, [(4, .inl (254 + (4 * (σ 3 0)))), (3, .inl v138), (2, .inl v125), (1, .inl (σ 3 0)), (0, gx_r 383)], [.inl v125, .inl (8 * v138), .inl (254 + (4 * (σ 3 0))), gx_r 389], t150, n, 0)) rfl (fun _ => rfl) rfl ?_
    refine ex_iadd rfl (by first | decide | omega) rfl ?_
    refine gx_ap rfl (fun _ => rfl) s150.1 rfl rfl rfl (show 254 + (4 * (σ 3 0)) < 320 from by omega) (px_run_lead0 ((σ 3 0)) (by first | decide | omega) (by first | decide | omega)) (ai_in_h (by first | decide | omega) (by first | decide | omega) (by first | decide | omega)) rfl (fun t163 g163 k163 e163 => ?_)
    have k64 : ai_hv t163 389 160 = some (.inl (σ 0 0)) := (e163 389 160 (by first | decide | omega)).trans k53
    have k65 : ai_hv t163 389 161 = some (.inl (σ 1 0)) := (e163 389 161 (by first | decide | omega)).trans k54
    have k66 : ai_hv t163 389 162 = some (.inl (σ 2 0)) := (e163 389 162 (by first | decide | omega)).trans k55
    have k67 : ai_hv t163 389 163 = some (.inl (σ 3 0)) := (e163 389 163 (by first | decide | omega)).trans k56
    have k68 : ai_hv t163 389 164 = some (.inl (σ 4 0)) := (e163 389 164 (by first | decide | omega)).trans k57
    have k69 : ai_hv t163 389 166 = some (.inl (σ 5 0)) := (e163 389 166 (by first | decide | omega)).trans k58
    have k70 : ai_hv t163 389 167 = some (.inl (σ 6 0)) := (e163 389 167 (by first | decide | omega)).trans k59
    have k71 : ai_hv t163 389 168 = some (.inl (σ 7 0)) := (e163 389 168 (by first | decide | omega)).trans k60
    have k72 : ai_hv t163 383 20 = some (.inl (σ 8 0)) := (e163 383 20 (by first | decide | omega)).trans k61
    have k73 : ai_hv t163 383 19 = some (.inl (σ 15 0)) := (e163 383 19 (by first | decide | omega)).trans k62
    have s163 : px_S t163 a150 f150 := ⟨g163, (e163 383 7 (by first | decide | omega)).trans s150.2.1, (e163 383 8 (by first | decide | omega)).trans s150.2.2.1, s150.2.2.2⟩
    refine ex_go (S := (133, [(4, .inl (254 + (4 * (σ 3 0)))), (3, .inl v138), (2, .inl v125), (1, .inl (σ 3 0)), (0, gx_r 383)], [gx_r 383], t163, n, 0)) rfl (fun _ => rfl) rfl ?_
    refine gx_ref (c := 389) rfl s163.1 rfl rfl rfl rfl ?_
    refine ex_go (S := (138, [(4, .inl (254 + (4 * (σ 3 0)))), (3, .inl v138), (2, .inl v125), (1, .inl (σ 3 0)), (0, gx_r 383)], [.inl (254 + (4 * (σ 3 0))), gx_r 389], t163, n, 0)) rfl (fun _ => rfl) rfl ?_
    refine ex_go (S := (139, [(4, .inl (254 + (4 * (σ 3 0)))), (3, .inl v138), (2, .inl v125), (1, .inl (σ 3 0)), (0, gx_r 383)], [.inl 1, .inl (254 + (4 * (σ 3 0))), gx_r 389], t163, n, 0)) rfl (fun _ => rfl) rfl ?_
    refine ex_iadd rfl (by first | decide | omega) rfl ?_
    refine ex_go (S := (141, [(4, .inl (254 + (4 * (σ 3 0)))), (3, .inl v138), (2, .inl v125), (1, .inl (σ 3 0)), (0, gx_r 383)], [gx_r 383, .inl ((254 + (4 * (σ 3 0))) + 1), gx_r 389], t163, n, 0)) rfl (fun _ => rfl) rfl ?_
    refine ex_go (S := (142, [(4, .inl (254 + (4 * (σ 3 0)))), (3, .inl v138), (2, .inl v125), (1, .inl (σ 3 0)), (0, gx_r 383)], [.inl 5, gx_r 383, .inl ((254 + (4 * (σ 3 0))) + 1), gx_r 389], t163, n, 0)) rfl (fun _ => rfl) rfl ?_
    refine ex_go (S := (143, [(4, .inl (254 + (4 * (σ 3 0)))), (3, .inl v138), (2, .inl v125), (1, .inl (σ 3 0)), (0, gx_r 383)], [.inl 1, .inl 5, gx_r 383, .inl ((254 + (4 * (σ 3 0))) + 1), gx_r 389], t163, n, 0)) rfl (fun _ => rfl) rfl ?_
    refine ex_go (S := (145, [(4, .inl (254 + (4 * (σ 3 0)))), (3, .inl v138), (2, .inl v125), (1, .inl (σ 3 0)), (0, gx_r 383)], [.inl 30, .inl 1, .inl 5, gx_r 383, .inl ((254 + (4 * (σ 3 0))) + 1), gx_r 389], t163, n, 0)) rfl (fun _ => rfl) rfl ?_
    have hT75 := rT_keep (t' := t163) hT (fun c i h => (e163 c i (by first | decide | omega)).trans ((e150 c i (by first | decide | omega)).trans ((e138 c i (by first | decide | omega)).trans ((e125 c i (by first | decide | omega)).trans (e113 c i (by first | decide | omega))))))
    obtain ⟨_, r174, v174, t174, a174, f174, rfl, s174, e174, z174, q174⟩ := pf_takeAfter d n (s163) hT75 (by first | decide | omega) (w := 5) (lo := 1) (hi := 30) (by first | decide | omega) (by first | decide | omega) (by first | decide | omega)
    have b174 := s174.2.2.2
    have y174 := z174.trans (congrArg (fun p9 => fn S m N 1 30 (fw S m N 5 p9)) y150)
    refine gx_call1 rfl rfl s163.1 rfl rfl r174 rfl ?_
    have k76 : ai_hv t174 389 160 = some (.inl (σ 0 0)) := (e174 389 160 (by first | decide | omega)).trans k64
    have k77 : ai_hv t174 389 161 = some (.inl (σ 1 0)) := (e174 389 161 (by first | decide | omega)).trans k65
    have k78 : ai_hv t174 389 162 = some (.inl (σ 2 0)) := (e174 389 162 (by first | decide | omega)).trans k66
    have k79 : ai_hv t174 389 163 = some (.inl (σ 3 0)) := (e174 389 163 (by first | decide | omega)).trans k67
    have k80 : ai_hv t174 389 164 = some (.inl (σ 4 0)) := (e174 389 164 (by first | decide | omega)).trans k68
    have k81 : ai_hv t174 389 166 = some (.inl (σ 5 0)) := (e174 389 166 (by first | decide | omega)).trans k69
    have k82 : ai_hv t174 389 167 = some (.inl (σ 6 0)) := (e174 389 167 (by first | decide | omega)).trans k70
    have k83 : ai_hv t174 389 168 = some (.inl (σ 7 0)) := (e174 389 168 (by first | decide | omega)).trans k71
    have k84 : ai_hv t174 383 20 = some (.inl (σ 8 0)) := (e174 383 20 (by first | decide | omega)).trans k72
    have k85 : ai_hv t174 383 19 = some (.inl (σ 15 0)) := (e174 383 19 (by first | decide | omega)).trans k73
    have k86 : ai_hv t174 389 (254 + (4 * (σ 3 0))) = some (.inl ((8 * v138) + v125)) := (e174 389 (254 + (4 * (σ 3 0))) (by first | decide | omega)).trans k163
    have h4 : f174 = 0 → v174 = sp_nv S m (a + 4) := fun z => by rw [← show a150 + 1 = a + 4 by omega]; omega
    refine gx_ap rfl (fun _ => rfl) s174.1 rfl rfl rfl (show (254 + (4 * (σ 3 0))) + 1 < 320 from by omega) (px_run_lead1 ((σ 3 0)) (by first | decide | omega) (by first | decide | omega)) (ai_in_h (by first | decide | omega) (by first | decide | omega) (by first | decide | omega)) rfl (fun t187 g187 k187 e187 => ?_)
    have k88 : ai_hv t187 389 160 = some (.inl (σ 0 0)) := (e187 389 160 (by first | decide | omega)).trans k76
    have k89 : ai_hv t187 389 161 = some (.inl (σ 1 0)) := (e187 389 161 (by first | decide | omega)).trans k77
    have k90 : ai_hv t187 389 162 = some (.inl (σ 2 0)) := (e187 389 162 (by first | decide | omega)).trans k78
    have k91 : ai_hv t187 389 163 = some (.inl (σ 3 0)) := (e187 389 163 (by first | decide | omega)).trans k79
    have k92 : ai_hv t187 389 164 = some (.inl (σ 4 0)) := (e187 389 164 (by first | decide | omega)).trans k80
    have k93 : ai_hv t187 389 166 = some (.inl (σ 5 0)) := (e187 389 166 (by first | decide | omega)).trans k81
    have k94 : ai_hv t187 389 167 = some (.inl (σ 6 0)) := (e187 389 167 (by first | decide | omega)).trans k82
    have k95 : ai_hv t187 389 168 = some (.inl (σ 7 0)) := (e187 389 168 (by first | decide | omega)).trans k83
    have k96 : ai_hv t187 383 20 = some (.inl (σ 8 0)) := (e187 383 20 (by first | decide | omega)).trans k84
    have k97 : ai_hv t187 383 19 = some (.inl (σ 15 0)) := (e187 383 19 (by first | decide | omega)).trans k85
    have k98 : ai_hv t187 389 (254 + (4 * (σ 3 0))) = some (.inl ((8 * v138) + v125)) := (e187 389 (254 + (4 * (σ 3 0))) (by first | decide | omega)).trans k86
    have s187 : px_S t187 a174 f174 := ⟨g187, (e187 383 7 (by first | decide | omega)).trans s174.2.1, (e187 383 8 (by first | decide | omega)).trans s174.2.2.1, s174.2.2.2⟩
    refine ex_go (S := (150, [(4, .inl (254 + (4 * (σ 3 0)))), (3, .inl v138), (2, .inl v125), (1, .inl (σ 3 0)), (0, gx_r 383)], [gx_r 383], t187, n, 0)) rfl (fun _ => rfl) rfl ?_
    refine gx_ref (c := 389) rfl s187.1 rfl rfl rfl rfl ?_
    refine ex_go (S := (155, [(4, .inl (254 + (4 * (σ 3 0)))), (3, .inl v138), (2, .inl v125), (1, .inl (σ 3 0)), (0, gx_r 383)], [.inl (254 + (4 * (σ 3 0))), gx_r 389], t187, n, 0)) rfl (fun _ => rfl) rfl ?_
    refine ex_go (S := (156, [(4, .inl (254 + (4 * (σ 3 0)))), (3, .inl v138), (2, .inl v125), (1, .inl (σ 3 0)), (0, gx_r 383)], [.inl 2, .inl (254 + (4 * (σ 3 0))), gx_r 389], t187, n, 0)) rfl (fun _ => rfl) rfl ?_
    refine ex_iadd rfl (by first | decide | omega) rfl ?_
    refine ex_go (S := (158, [(4, .inl (254 + (4 * (σ 3 0)))), (3, .inl v138), (2, .inl v125), (1, .inl (σ 3 0)), (0, gx_r 383)], [gx_r 383, .inl ((254 + (4 * (σ 3 0))) + 2), gx_r 389], t187, n, 0)) rfl (fun _ => rfl) rfl ?_
    refine ex_go (S := (160, [(4, .inl (254 + (4 * (σ 3 0)))), (3, .inl v138), (2, .inl v125), (1, .inl (σ 3 0)), (0, gx_r 383)], [.inl 6, gx_r 383, .inl ((254 + (4 * (σ 3 0))) + 2), gx_r 389], t187, n, 0)) rfl (fun _ => rfl) rfl ?_
    refine ex_go (S := (161, [(4, .inl (254 + (4 * (σ 3 0)))), (3, .inl v138), (2, .inl v125), (1, .inl (σ 3 0)), (0, gx_r 383)], [.inl 0, .inl 6, gx_r 383, .inl ((254 + (4 * (σ 3 0))) + 2), gx_r 389], t187, n, 0)) rfl (fun _ => rfl) rfl ?_
    refine ex_go (S := (162, [(4, .inl (254 + (4 * (σ 3 0)))), (3, .inl v138), (2, .inl v125), (1, .inl (σ 3 0)), (0, gx_r 383)], [gx_r 383, .inl 0, .inl 6, gx_r 383, .inl ((254 + (4 * (σ 3 0))) + 2), gx_r 389], t187, n, 0)) rfl (fun _ => rfl) rfl ?_
    refine gx_ref (c := 389) rfl s187.1 rfl rfl rfl rfl ?_
    refine ex_go (S := (167, [(4, .inl (254 + (4 * (σ 3 0)))), (3, .inl v138), (2, .inl v125), (1, .inl (σ 3 0)), (0, gx_r 383)], [.inl (254 + (4 * (σ 3 0))), gx_r 389, .inl 0, .inl 6, gx_r 383, .inl ((254 + (4 * (σ 3 0))) + 2), gx_r 389], t187, n, 0)) rfl (fun _ => rfl) rfl ?_
    refine ex_go (S := (168, [(4, .inl (254 + (4 * (σ 3 0)))), (3, .inl v138), (2, .inl v125), (1, .inl (σ 3 0)), (0, gx_r 383)], [.inl 1, .inl (254 + (4 * (σ 3 0))), gx_r 389, .inl 0, .inl 6, gx_r 383, .inl ((254 + (4 * (σ 3 0))) + 2), gx_r 389], t187, n, 0)) rfl (fun _ => rfl) rfl ?_
    refine ex_iadd rfl (by first | decide | omega) rfl ?_
    refine gx_ag (v := .inl v174) (cb := fun c => Nat.beq c 0) rfl (fun _ => rfl) s187.1 rfl rfl k187 (by first | decide | omega) rfl ?_
    refine ex_go (S := (171, [(4, .inl (254 + (4 * (σ 3 0)))), (3, .inl v138), (2, .inl v125), (1, .inl (σ 3 0)), (0, gx_r 383)], [.inl 1, .inl v174, .inl 0, .inl 6, gx_r 383, .inl ((254 + (4 * (σ 3 0))) + 2), gx_r 389], t187, n, 0)) rfl (fun _ => rfl) rfl ?_
    rcases Nat.eq_zero_or_pos v174 with hz99 | hz99
    · subst hz99
      refine ex_go (S := (172, [(4, .inl (254 + (4 * (σ 3 0)))), (3, .inl v138), (2, .inl v125), (1, .inl (σ 3 0)), (0, gx_r 383)], [.inl 4294967295, .inl 0, .inl 6, gx_r 383, .inl ((254 + (4 * (σ 3 0))) + 2), gx_r 389], t187, n, 0)) rfl (fun _ => rfl) rfl ?_
      have hT101 := rT_keep (t' := t187) hT (fun c i h => (e187 c i (by first | decide | omega)).trans ((e174 c i (by first | decide | omega)).trans ((e163 c i (by first | decide | omega)).trans ((e150 c i (by first | decide | omega)).trans ((e138 c i (by first | decide | omega)).trans ((e125 c i (by first | decide | omega)).trans (e113 c i (by first | decide | omega))))))))
      obtain ⟨_, r200, v200, t200, a200, f200, rfl, s200, e200, z200, q200⟩ := pf_takeAfter d n (s187) hT101 (by first | decide | omega) (w := 6) (lo := 0) (hi := 4294967295) (by first | decide | omega) (by first | decide | omega) (by first | decide | omega)
      have b200 := s200.2.2.2
      have y200 := z200.trans (congrArg (fun p9 => fn S m N 0 4294967295 (fw S m N 6 p9)) y174)
      refine gx_call1 rfl rfl s187.1 rfl rfl r200 rfl ?_
      have k102 : ai_hv t200 389 160 = some (.inl (σ 0 0)) := (e200 389 160 (by first | decide | omega)).trans k88
      have k103 : ai_hv t200 389 161 = some (.inl (σ 1 0)) := (e200 389 161 (by first | decide | omega)).trans k89
      have k104 : ai_hv t200 389 162 = some (.inl (σ 2 0)) := (e200 389 162 (by first | decide | omega)).trans k90
      have k105 : ai_hv t200 389 163 = some (.inl (σ 3 0)) := (e200 389 163 (by first | decide | omega)).trans k91
      have k106 : ai_hv t200 389 164 = some (.inl (σ 4 0)) := (e200 389 164 (by first | decide | omega)).trans k92
      have k107 : ai_hv t200 389 166 = some (.inl (σ 5 0)) := (e200 389 166 (by first | decide | omega)).trans k93
      have k108 : ai_hv t200 389 167 = some (.inl (σ 6 0)) := (e200 389 167 (by first | decide | omega)).trans k94
      have k109 : ai_hv t200 389 168 = some (.inl (σ 7 0)) := (e200 389 168 (by first | decide | omega)).trans k95
      have k110 : ai_hv t200 383 20 = some (.inl (σ 8 0)) := (e200 383 20 (by first | decide | omega)).trans k96
      have k111 : ai_hv t200 383 19 = some (.inl (σ 15 0)) := (e200 383 19 (by first | decide | omega)).trans k97
      have k112 : ai_hv t200 389 (254 + (4 * (σ 3 0))) = some (.inl ((8 * v138) + v125)) := (e200 389 (254 + (4 * (σ 3 0))) (by first | decide | omega)).trans k98
      have k113 : ai_hv t200 389 ((254 + (4 * (σ 3 0))) + 1) = some (.inl 0) := (e200 389 ((254 + (4 * (σ 3 0))) + 1) (by first | decide | omega)).trans k187
      have x200 := y200.trans (fn_any (lo' := 0) (hi' := sp_nv S m (a + 4) - 1) (fun h => ⟨rfl, by
        have h9 : f174 = 0 := (congrArg Prod.snd y174).trans (fw_2 h)
        have h8 := h4 (by first | decide | omega)
        omega⟩))
      refine gx_ap rfl (fun _ => rfl) s200.1 rfl rfl rfl (show (254 + (4 * (σ 3 0))) + 2 < 320 from by omega) (px_run_lead2 ((σ 3 0)) (by first | decide | omega) (by first | decide | omega)) (ai_in_h (by first | decide | omega) (by first | decide | omega) (by first | decide | omega)) rfl (fun t214 g214 k214 e214 => ?_)
      have k115 : ai_hv t214 389 160 = some (.inl (σ 0 0)) := (e214 389 160 (by first | decide | omega)).trans k102
      have k116 : ai_hv t214 389 161 = some (.inl (σ 1 0)) := (e214 389 161 (by first | decide | omega)).trans k103
      have k117 : ai_hv t214 389 162 = some (.inl (σ 2 0)) := (e214 389 162 (by first | decide | omega)).trans k104
      have k118 : ai_hv t214 389 163 = some (.inl (σ 3 0)) := (e214 389 163 (by first | decide | omega)).trans k105
      have k119 : ai_hv t214 389 164 = some (.inl (σ 4 0)) := (e214 389 164 (by first | decide | omega)).trans k106
      have k120 : ai_hv t214 389 166 = some (.inl (σ 5 0)) := (e214 389 166 (by first | decide | omega)).trans k107
      have k121 : ai_hv t214 389 167 = some (.inl (σ 6 0)) := (e214 389 167 (by first | decide | omega)).trans k108
      have k122 : ai_hv t214 389 168 = some (.inl (σ 7 0)) := (e214 389 168 (by first | decide | omega)).trans k109
      have k123 : ai_hv t214 383 20 = some (.inl (σ 8 0)) := (e214 383 20 (by first | decide | omega)).trans k110
      have k124 : ai_hv t214 383 19 = some (.inl (σ 15 0)) := (e214 383 19 (by first | decide | omega)).trans k111
      have k125 : ai_hv t214 389 (254 + (4 * (σ 3 0))) = some (.inl ((8 * v138) + v125)) := (e214 389 (254 + (4 * (σ 3 0))) (by first | decide | omega)).trans k112
      have k126 : ai_hv t214 389 ((254 + (4 * (σ 3 0))) + 1) = some (.inl 0) := (e214 389 ((254 + (4 * (σ 3 0))) + 1) (by first | decide | omega)).trans k113
      have s214 : px_S t214 a200 f200 := ⟨g214, (e214 383 7 (by first | decide | omega)).trans s200.2.1, (e214 383 8 (by first | decide | omega)).trans s200.2.2.1, s200.2.2.2⟩
      refine ex_go (S := (177, [(4, .inl (254 + (4 * (σ 3 0)))), (3, .inl v138), (2, .inl v125), (1, .inl (σ 3 0)), (0, gx_r 383)], [gx_r 383], t214, n, 0)) rfl (fun _ => rfl) rfl ?_
      refine gx_ref (c := 389) rfl s214.1 rfl rfl rfl rfl ?_
      refine ex_go (S := (182, [(4, .inl (254 + (4 * (σ 3 0)))), (3, .inl v138), (2, .inl v125), (1, .inl (σ 3 0)), (0, gx_r 383)], [.inl (254 + (4 * (σ 3 0))), gx_r 389], t214, n, 0)) rfl (fun _ => rfl) rfl ?_
      refine ex_go (S := (183, [(4, .inl (254 + (4 * (σ 3 0)))), (3, .inl v138), (2, .inl v125), (1, .inl (σ 3 0)), (0, gx_r 383)], [.inl 3, .inl (254 + (4 * (σ 3 0))), gx_r 389], t214, n, 0)) rfl (fun _ => rfl) rfl ?_
      refine ex_iadd rfl (by first | decide | omega) rfl ?_
      refine ex_go (S := (185, [(4, .inl (254 + (4 * (σ 3 0)))), (3, .inl v138), (2, .inl v125), (1, .inl (σ 3 0)), (0, gx_r 383)], [gx_r 383, .inl ((254 + (4 * (σ 3 0))) + 3), gx_r 389], t214, n, 0)) rfl (fun _ => rfl) rfl ?_
      refine ex_go (S := (187, [(4, .inl (254 + (4 * (σ 3 0)))), (3, .inl v138), (2, .inl v125), (1, .inl (σ 3 0)), (0, gx_r 383)], [.inl 7, gx_r 383, .inl ((254 + (4 * (σ 3 0))) + 3), gx_r 389], t214, n, 0)) rfl (fun _ => rfl) rfl ?_
      refine ex_go (S := (188, [(4, .inl (254 + (4 * (σ 3 0)))), (3, .inl v138), (2, .inl v125), (1, .inl (σ 3 0)), (0, gx_r 383)], [.inl 0, .inl 7, gx_r 383, .inl ((254 + (4 * (σ 3 0))) + 3), gx_r 389], t214, n, 0)) rfl (fun _ => rfl) rfl ?_
      refine ex_go (S := (189, [(4, .inl (254 + (4 * (σ 3 0)))), (3, .inl v138), (2, .inl v125), (1, .inl (σ 3 0)), (0, gx_r 383)], [gx_r 383, .inl 0, .inl 7, gx_r 383, .inl ((254 + (4 * (σ 3 0))) + 3), gx_r 389], t214, n, 0)) rfl (fun _ => rfl) rfl ?_
      refine gx_ref (c := 389) rfl s214.1 rfl rfl rfl rfl ?_
      refine ex_go (S := (194, [(4, .inl (254 + (4 * (σ 3 0)))), (3, .inl v138), (2, .inl v125), (1, .inl (σ 3 0)), (0, gx_r 383)], [.inl (254 + (4 * (σ 3 0))), gx_r 389, .inl 0, .inl 7, gx_r 383, .inl ((254 + (4 * (σ 3 0))) + 3), gx_r 389], t214, n, 0)) rfl (fun _ => rfl) rfl ?_
      refine ex_go (S := (195, [(4, .inl (254 + (4 * (σ 3 0)))), (3, .inl v138), (2, .inl v125), (1, .inl (σ 3 0)), (0, gx_r 383)], [.inl 1, .inl (254 + (4 * (σ 3 0))), gx_r 389, .inl 0, .inl 7, gx_r 383, .inl ((254 + (4 * (σ 3 0))) + 3), gx_r 389], t214, n, 0)) rfl (fun _ => rfl) rfl ?_
      refine ex_iadd rfl (by first | decide | omega) rfl ?_
      refine gx_ag (v := .inl 0) (cb := fun c => Nat.beq c 0) rfl (fun _ => rfl) s214.1 rfl rfl k126 (by first | decide | omega) rfl ?_
      have hT128 := rT_keep (t' := t214) hT (fun c i h => (e214 c i (by first | decide | omega)).trans ((e200 c i (by first | decide | omega)).trans ((e187 c i (by first | decide | omega)).trans ((e174 c i (by first | decide | omega)).trans ((e163 c i (by first | decide | omega)).trans ((e150 c i (by first | decide | omega)).trans ((e138 c i (by first | decide | omega)).trans ((e125 c i (by first | decide | omega)).trans (e113 c i (by first | decide | omega))))))))))
      obtain ⟨_, r227, v227, t227, a227, f227, rfl, s227, e227, z227, q227⟩ := pf_takeAfter d n (s214) hT128 (by first | decide | omega) (w := 7) (lo := 0) (hi := 0) (by first | decide | omega) (by first | decide | omega) (by first | decide | omega)
      have b227 := s227.2.2.2
      have y227 := z227.trans (congrArg (fun p9 => fn S m N 0 0 (fw S m N 7 p9)) x200)
      refine gx_call1 rfl rfl s214.1 rfl rfl r227 rfl ?_
      have k129 : ai_hv t227 389 160 = some (.inl (σ 0 0)) := (e227 389 160 (by first | decide | omega)).trans k115
      have k130 : ai_hv t227 389 161 = some (.inl (σ 1 0)) := (e227 389 161 (by first | decide | omega)).trans k116
      have k131 : ai_hv t227 389 162 = some (.inl (σ 2 0)) := (e227 389 162 (by first | decide | omega)).trans k117
      have k132 : ai_hv t227 389 163 = some (.inl (σ 3 0)) := (e227 389 163 (by first | decide | omega)).trans k118
      have k133 : ai_hv t227 389 164 = some (.inl (σ 4 0)) := (e227 389 164 (by first | decide | omega)).trans k119
      have k134 : ai_hv t227 389 166 = some (.inl (σ 5 0)) := (e227 389 166 (by first | decide | omega)).trans k120
      have k135 : ai_hv t227 389 167 = some (.inl (σ 6 0)) := (e227 389 167 (by first | decide | omega)).trans k121
      have k136 : ai_hv t227 389 168 = some (.inl (σ 7 0)) := (e227 389 168 (by first | decide | omega)).trans k122
      have k137 : ai_hv t227 383 20 = some (.inl (σ 8 0)) := (e227 383 20 (by first | decide | omega)).trans k123
      have k138 : ai_hv t227 383 19 = some (.inl (σ 15 0)) := (e227 383 19 (by first | decide | omega)).trans k124
      have k139 : ai_hv t227 389 (254 + (4 * (σ 3 0))) = some (.inl ((8 * v138) + v125)) := (e227 389 (254 + (4 * (σ 3 0))) (by first | decide | omega)).trans k125
      have k140 : ai_hv t227 389 ((254 + (4 * (σ 3 0))) + 1) = some (.inl 0) := (e227 389 ((254 + (4 * (σ 3 0))) + 1) (by first | decide | omega)).trans k126
      have k141 : ai_hv t227 389 ((254 + (4 * (σ 3 0))) + 2) = some (.inl v200) := (e227 389 ((254 + (4 * (σ 3 0))) + 2) (by first | decide | omega)).trans k214
      have x227 := y227.trans (fn_any (lo' := 0) (hi' := sp_nv S m (a + 4)) (fun h => ⟨rfl, by
        have h9 : f200 = 0 := (congrArg Prod.snd x200).trans (fw_2 h)
        have h8 := h4 (by first | decide | omega)
        omega⟩))
      refine gx_ap rfl (fun _ => rfl) s227.1 rfl rfl rfl (show (254 + (4 * (σ 3 0))) + 3 < 320 from by omega) (px_run_lead3 ((σ 3 0)) (by first | decide | omega) (by first | decide | omega)) (ai_in_h (by first | decide | omega) (by first | decide | omega) (by first | decide | omega)) rfl (fun t242 g242 k242 e242 => ?_)
      have k143 : ai_hv t242 389 160 = some (.inl (σ 0 0)) := (e242 389 160 (by first | decide | omega)).trans k129
      have k144 : ai_hv t242 389 161 = some (.inl (σ 1 0)) := (e242 389 161 (by first | decide | omega)).trans k130
      have k145 : ai_hv t242 389 162 = some (.inl (σ 2 0)) := (e242 389 162 (by first | decide | omega)).trans k131
      have k146 : ai_hv t242 389 163 = some (.inl (σ 3 0)) := (e242 389 163 (by first | decide | omega)).trans k132
      have k147 : ai_hv t242 389 164 = some (.inl (σ 4 0)) := (e242 389 164 (by first | decide | omega)).trans k133
      have k148 : ai_hv t242 389 166 = some (.inl (σ 5 0)) := (e242 389 166 (by first | decide | omega)).trans k134
      have k149 : ai_hv t242 389 167 = some (.inl (σ 6 0)) := (e242 389 167 (by first | decide | omega)).trans k135
      have k150 : ai_hv t242 389 168 = some (.inl (σ 7 0)) := (e242 389 168 (by first | decide | omega)).trans k136
      have k151 : ai_hv t242 383 20 = some (.inl (σ 8 0)) := (e242 383 20 (by first | decide | omega)).trans k137
      have k152 : ai_hv t242 383 19 = some (.inl (σ 15 0)) := (e242 383 19 (by first | decide | omega)).trans k138
      have k153 : ai_hv t242 389 (254 + (4 * (σ 3 0))) = some (.inl ((8 * v138) + v125)) := (e242 389 (254 + (4 * (σ 3 0))) (by first | decide | omega)).trans k139
      have k154 : ai_hv t242 389 ((254 + (4 * (σ 3 0))) + 1) = some (.inl 0) := (e242 389 ((254 + (4 * (σ 3 0))) + 1) (by first | decide | omega)).trans k140
      have k155 : ai_hv t242 389 ((254 + (4 * (σ 3 0))) + 2) = some (.inl v200) := (e242 389 ((254 + (4 * (σ 3 0))) + 2) (by first | decide | omega)).trans k141
      have s242 : px_S t242 a227 f227 := ⟨g242, (e242 383 7 (by first | decide | omega)).trans s227.2.1, (e242 383 8 (by first | decide | omega)).trans s227.2.2.1, s227.2.2.2⟩
      refine ex_go (S := (202, [(4, .inl (254 + (4 * (σ 3 0)))), (3, .inl v138), (2, .inl v125), (1, .inl (σ 3 0)), (0, gx_r 383)], [gx_r 383], t242, n, 0)) rfl (fun _ => rfl) rfl ?_
      refine gx_ref (c := 389) rfl s242.1 rfl rfl rfl rfl ?_
      refine ex_go (S := (208, [(4, .inl (254 + (4 * (σ 3 0)))), (3, .inl v138), (2, .inl v125), (1, .inl (σ 3 0)), (0, gx_r 383)], [.inl 163, gx_r 389], t242, n, 0)) rfl (fun _ => rfl) rfl ?_
      refine ex_go (S := (209, [(4, .inl (254 + (4 * (σ 3 0)))), (3, .inl v138), (2, .inl v125), (1, .inl (σ 3 0)), (0, gx_r 383)], [.inl 163, gx_r 389, .inl 163, gx_r 389], t242, n, 0)) rfl (fun _ => rfl) rfl ?_
      refine gx_ag (v := .inl (σ 3 0)) (cb := fun c => Nat.beq c 0) rfl (fun _ => rfl) s242.1 rfl rfl k146 (by first | decide | omega) rfl ?_
      refine ex_go (S := (211, [(4, .inl (254 + (4 * (σ 3 0)))), (3, .inl v138), (2, .inl v125), (1, .inl (σ 3 0)), (0, gx_r 383)], [.inl 1, .inl (σ 3 0), .inl 163, gx_r 389], t242, n, 0)) rfl (fun _ => rfl) rfl ?_
      refine ex_iadd rfl (by first | decide | omega) rfl ?_
      refine gx_ap rfl (fun _ => rfl) s242.1 rfl rfl rfl (show 163 < 320 from by omega) rfl (ai_in_h (by first | decide | omega) (by first | decide | omega) (by first | decide | omega)) rfl (fun t256 g256 k256 e256 => ?_)
      have k157 : ai_hv t256 389 160 = some (.inl (σ 0 0)) := (e256 389 160 (by first | decide | omega)).trans k143
      have k158 : ai_hv t256 389 161 = some (.inl (σ 1 0)) := (e256 389 161 (by first | decide | omega)).trans k144
      have k159 : ai_hv t256 389 162 = some (.inl (σ 2 0)) := (e256 389 162 (by first | decide | omega)).trans k145
      have k160 : ai_hv t256 389 164 = some (.inl (σ 4 0)) := (e256 389 164 (by first | decide | omega)).trans k147
      have k161 : ai_hv t256 389 166 = some (.inl (σ 5 0)) := (e256 389 166 (by first | decide | omega)).trans k148
      have k162 : ai_hv t256 389 167 = some (.inl (σ 6 0)) := (e256 389 167 (by first | decide | omega)).trans k149
      have k163 : ai_hv t256 389 168 = some (.inl (σ 7 0)) := (e256 389 168 (by first | decide | omega)).trans k150
      have k164 : ai_hv t256 383 20 = some (.inl (σ 8 0)) := (e256 383 20 (by first | decide | omega)).trans k151
      have k165 : ai_hv t256 383 19 = some (.inl (σ 15 0)) := (e256 383 19 (by first | decide | omega)).trans k152
      have k166 : ai_hv t256 389 (254 + (4 * (σ 3 0))) = some (.inl ((8 * v138) + v125)) := (e256 389 (254 + (4 * (σ 3 0))) (by first | decide | omega)).trans k153
      have k167 : ai_hv t256 389 ((254 + (4 * (σ 3 0))) + 1) = some (.inl 0) := (e256 389 ((254 + (4 * (σ 3 0))) + 1) (by first | decide | omega)).trans k154
      have k168 : ai_hv t256 389 ((254 + (4 * (σ 3 0))) + 2) = some (.inl v200) := (e256 389 ((254 + (4 * (σ 3 0))) + 2) (by first | decide | omega)).trans k155
      have k169 : ai_hv t256 389 ((254 + (4 * (σ 3 0))) + 3) = some (.inl v227) := (e256 389 ((254 + (4 * (σ 3 0))) + 3) (by first | decide | omega)).trans k242
      have s256 : px_S t256 a227 f227 := ⟨g256, (e256 383 7 (by first | decide | omega)).trans s242.2.1, (e256 383 8 (by first | decide | omega)).trans s242.2.2.1, s242.2.2.2⟩
      refine ex_ret (r := (none, t256, n, 0)) rfl (fun _ => rfl) ?_
      have hT170 := rT_keep (t' := t256) hT (fun c i h => (e256 c i (by first | decide | omega)).trans ((e242 c i (by first | decide | omega)).trans ((e227 c i (by first | decide | omega)).trans ((e214 c i (by first | decide | omega)).trans ((e200 c i (by first | decide | omega)).trans ((e187 c i (by first | decide | omega)).trans ((e174 c i (by first | decide | omega)).trans ((e163 c i (by first | decide | omega)).trans ((e150 c i (by first | decide | omega)).trans ((e138 c i (by first | decide | omega)).trans ((e125 c i (by first | decide | omega)).trans (e113 c i (by first | decide | omega)))))))))))))
      refine ⟨_, rfl, t256, a227, f227, rfl, s256, hT170, x227, by omega, fun h0 => ⟨by omega, ?_⟩⟩
      exfalso; omega
    · have := hz99
      refine gx_isub rfl (by first | decide | omega) (by first | decide | omega) rfl ?_
      have hT172 := rT_keep (t' := t187) hT (fun c i h => (e187 c i (by first | decide | omega)).trans ((e174 c i (by first | decide | omega)).trans ((e163 c i (by first | decide | omega)).trans ((e150 c i (by first | decide | omega)).trans ((e138 c i (by first | decide | omega)).trans ((e125 c i (by first | decide | omega)).trans (e113 c i (by first | decide | omega))))))))
      obtain ⟨_, r271, v271, t271, a271, f271, rfl, s271, e271, z271, q271⟩ := pf_takeAfter d n (s187) hT172 (by first | decide | omega) (w := 6) (lo := 0) (hi := v174 - 1) (by first | decide | omega) (by first | decide | omega) (by first | decide | omega)
      have b271 := s271.2.2.2
      have y271 := z271.trans (congrArg (fun p9 => fn S m N 0 (v174 - 1) (fw S m N 6 p9)) y174)
      refine gx_call1 rfl rfl s187.1 rfl rfl r271 rfl ?_
      have k173 : ai_hv t271 389 160 = some (.inl (σ 0 0)) := (e271 389 160 (by first | decide | omega)).trans k88
      have k174 : ai_hv t271 389 161 = some (.inl (σ 1 0)) := (e271 389 161 (by first | decide | omega)).trans k89
      have k175 : ai_hv t271 389 162 = some (.inl (σ 2 0)) := (e271 389 162 (by first | decide | omega)).trans k90
      have k176 : ai_hv t271 389 163 = some (.inl (σ 3 0)) := (e271 389 163 (by first | decide | omega)).trans k91
      have k177 : ai_hv t271 389 164 = some (.inl (σ 4 0)) := (e271 389 164 (by first | decide | omega)).trans k92
      have k178 : ai_hv t271 389 166 = some (.inl (σ 5 0)) := (e271 389 166 (by first | decide | omega)).trans k93
      have k179 : ai_hv t271 389 167 = some (.inl (σ 6 0)) := (e271 389 167 (by first | decide | omega)).trans k94
      have k180 : ai_hv t271 389 168 = some (.inl (σ 7 0)) := (e271 389 168 (by first | decide | omega)).trans k95
      have k181 : ai_hv t271 383 20 = some (.inl (σ 8 0)) := (e271 383 20 (by first | decide | omega)).trans k96
      have k182 : ai_hv t271 383 19 = some (.inl (σ 15 0)) := (e271 383 19 (by first | decide | omega)).trans k97
      have k183 : ai_hv t271 389 (254 + (4 * (σ 3 0))) = some (.inl ((8 * v138) + v125)) := (e271 389 (254 + (4 * (σ 3 0))) (by first | decide | omega)).trans k98
      have k184 : ai_hv t271 389 ((254 + (4 * (σ 3 0))) + 1) = some (.inl v174) := (e271 389 ((254 + (4 * (σ 3 0))) + 1) (by first | decide | omega)).trans k187
      have x271 := y271.trans (fn_any (lo' := 0) (hi' := sp_nv S m (a + 4) - 1) (fun h => ⟨rfl, by
        have h9 : f174 = 0 := (congrArg Prod.snd y174).trans (fw_2 h)
        have h8 := h4 (by first | decide | omega)
        omega⟩))
      refine gx_ap rfl (fun _ => rfl) s271.1 rfl rfl rfl (show (254 + (4 * (σ 3 0))) + 2 < 320 from by omega) (px_run_lead2 ((σ 3 0)) (by first | decide | omega) (by first | decide | omega)) (ai_in_h (by first | decide | omega) (by first | decide | omega) (by first | decide | omega)) rfl (fun t285 g285 k285 e285 => ?_)
      have k186 : ai_hv t285 389 160 = some (.inl (σ 0 0)) := (e285 389 160 (by first | decide | omega)).trans k173
      have k187 : ai_hv t285 389 161 = some (.inl (σ 1 0)) := (e285 389 161 (by first | decide | omega)).trans k174
      have k188 : ai_hv t285 389 162 = some (.inl (σ 2 0)) := (e285 389 162 (by first | decide | omega)).trans k175
      have k189 : ai_hv t285 389 163 = some (.inl (σ 3 0)) := (e285 389 163 (by first | decide | omega)).trans k176
      have k190 : ai_hv t285 389 164 = some (.inl (σ 4 0)) := (e285 389 164 (by first | decide | omega)).trans k177
      have k191 : ai_hv t285 389 166 = some (.inl (σ 5 0)) := (e285 389 166 (by first | decide | omega)).trans k178
      have k192 : ai_hv t285 389 167 = some (.inl (σ 6 0)) := (e285 389 167 (by first | decide | omega)).trans k179
      have k193 : ai_hv t285 389 168 = some (.inl (σ 7 0)) := (e285 389 168 (by first | decide | omega)).trans k180
      have k194 : ai_hv t285 383 20 = some (.inl (σ 8 0)) := (e285 383 20 (by first | decide | omega)).trans k181
      have k195 : ai_hv t285 383 19 = some (.inl (σ 15 0)) := (e285 383 19 (by first | decide | omega)).trans k182
      have k196 : ai_hv t285 389 (254 + (4 * (σ 3 0))) = some (.inl ((8 * v138) + v125)) := (e285 389 (254 + (4 * (σ 3 0))) (by first | decide | omega)).trans k183
      have k197 : ai_hv t285 389 ((254 + (4 * (σ 3 0))) + 1) = some (.inl v174) := (e285 389 ((254 + (4 * (σ 3 0))) + 1) (by first | decide | omega)).trans k184
      have s285 : px_S t285 a271 f271 := ⟨g285, (e285 383 7 (by first | decide | omega)).trans s271.2.1, (e285 383 8 (by first | decide | omega)).trans s271.2.2.1, s271.2.2.2⟩
      refine ex_go (S := (177, [(4, .inl (254 + (4 * (σ 3 0)))), (3, .inl v138), (2, .inl v125), (1, .inl (σ 3 0)), (0, gx_r 383)], [gx_r 383], t285, n, 0)) rfl (fun _ => rfl) rfl ?_
      refine gx_ref (c := 389) rfl s285.1 rfl rfl rfl rfl ?_
      refine ex_go (S := (182, [(4, .inl (254 + (4 * (σ 3 0)))), (3, .inl v138), (2, .inl v125), (1, .inl (σ 3 0)), (0, gx_r 383)], [.inl (254 + (4 * (σ 3 0))), gx_r 389], t285, n, 0)) rfl (fun _ => rfl) rfl ?_
      refine ex_go (S := (183, [(4, .inl (254 + (4 * (σ 3 0)))), (3, .inl v138), (2, .inl v125), (1, .inl (σ 3 0)), (0, gx_r 383)], [.inl 3, .inl (254 + (4 * (σ 3 0))), gx_r 389], t285, n, 0)) rfl (fun _ => rfl) rfl ?_
      refine ex_iadd rfl (by first | decide | omega) rfl ?_
      refine ex_go (S := (185, [(4, .inl (254 + (4 * (σ 3 0)))), (3, .inl v138), (2, .inl v125), (1, .inl (σ 3 0)), (0, gx_r 383)], [gx_r 383, .inl ((254 + (4 * (σ 3 0))) + 3), gx_r 389], t285, n, 0)) rfl (fun _ => rfl) rfl ?_
      refine ex_go (S := (187, [(4, .inl (254 + (4 * (σ 3 0)))), (3, .inl v138), (2, .inl v125), (1, .inl (σ 3 0)), (0, gx_r 383)], [.inl 7, gx_r 383, .inl ((254 + (4 * (σ 3 0))) + 3), gx_r 389], t285, n, 0)) rfl (fun _ => rfl) rfl ?_
      refine ex_go (S := (188, [(4, .inl (254 + (4 * (σ 3 0)))), (3, .inl v138), (2, .inl v125), (1, .inl (σ 3 0)), (0, gx_r 383)], [.inl 0, .inl 7, gx_r 383, .inl ((254 + (4 * (σ 3 0))) + 3), gx_r 389], t285, n, 0)) rfl (fun _ => rfl) rfl ?_
      refine ex_go (S := (189, [(4, .inl (254 + (4 * (σ 3 0)))), (3, .inl v138), (2, .inl v125), (1, .inl (σ 3 0)), (0, gx_r 383)], [gx_r 383, .inl 0, .inl 7, gx_r 383, .inl ((254 + (4 * (σ 3 0))) + 3), gx_r 389], t285, n, 0)) rfl (fun _ => rfl) rfl ?_
      refine gx_ref (c := 389) rfl s285.1 rfl rfl rfl rfl ?_
      refine ex_go (S := (194, [(4, .inl (254 + (4 * (σ 3 0)))), (3, .inl v138), (2, .inl v125), (1, .inl (σ 3 0)), (0, gx_r 383)], [.inl (254 + (4 * (σ 3 0))), gx_r 389, .inl 0, .inl 7, gx_r 383, .inl ((254 + (4 * (σ 3 0))) + 3), gx_r 389], t285, n, 0)) rfl (fun _ => rfl) rfl ?_
      refine ex_go (S := (195, [(4, .inl (254 + (4 * (σ 3 0)))), (3, .inl v138), (2, .inl v125), (1, .inl (σ 3 0)), (0, gx_r 383)], [.inl 1, .inl (254 + (4 * (σ 3 0))), gx_r 389, .inl 0, .inl 7, gx_r 383, .inl ((254 + (4 * (σ 3 0))) + 3), gx_r 389], t285, n, 0)) rfl (fun _ => rfl) rfl ?_
      refine ex_iadd rfl (by first | decide | omega) rfl ?_
      refine gx_ag (v := .inl v174) (cb := fun c => Nat.beq c 0) rfl (fun _ => rfl) s285.1 rfl rfl k197 (by first | decide | omega) rfl ?_
      have hT199 := rT_keep (t' := t285) hT (fun c i h => (e285 c i (by first | decide | omega)).trans ((e271 c i (by first | decide | omega)).trans ((e187 c i (by first | decide | omega)).trans ((e174 c i (by first | decide | omega)).trans ((e163 c i (by first | decide | omega)).trans ((e150 c i (by first | decide | omega)).trans ((e138 c i (by first | decide | omega)).trans ((e125 c i (by first | decide | omega)).trans (e113 c i (by first | decide | omega))))))))))
      obtain ⟨_, r298, v298, t298, a298, f298, rfl, s298, e298, z298, q298⟩ := pf_takeAfter d n (s285) hT199 (by first | decide | omega) (w := 7) (lo := 0) (hi := v174) (by first | decide | omega) (by first | decide | omega) (by first | decide | omega)
      have b298 := s298.2.2.2
      have y298 := z298.trans (congrArg (fun p9 => fn S m N 0 v174 (fw S m N 7 p9)) x271)
      refine gx_call1 rfl rfl s285.1 rfl rfl r298 rfl ?_
      have k200 : ai_hv t298 389 160 = some (.inl (σ 0 0)) := (e298 389 160 (by first | decide | omega)).trans k186
      have k201 : ai_hv t298 389 161 = some (.inl (σ 1 0)) := (e298 389 161 (by first | decide | omega)).trans k187
      have k202 : ai_hv t298 389 162 = some (.inl (σ 2 0)) := (e298 389 162 (by first | decide | omega)).trans k188
      have k203 : ai_hv t298 389 163 = some (.inl (σ 3 0)) := (e298 389 163 (by first | decide | omega)).trans k189
      have k204 : ai_hv t298 389 164 = some (.inl (σ 4 0)) := (e298 389 164 (by first | decide | omega)).trans k190
      have k205 : ai_hv t298 389 166 = some (.inl (σ 5 0)) := (e298 389 166 (by first | decide | omega)).trans k191
      have k206 : ai_hv t298 389 167 = some (.inl (σ 6 0)) := (e298 389 167 (by first | decide | omega)).trans k192
      have k207 : ai_hv t298 389 168 = some (.inl (σ 7 0)) := (e298 389 168 (by first | decide | omega)).trans k193
      have k208 : ai_hv t298 383 20 = some (.inl (σ 8 0)) := (e298 383 20 (by first | decide | omega)).trans k194
      have k209 : ai_hv t298 383 19 = some (.inl (σ 15 0)) := (e298 383 19 (by first | decide | omega)).trans k195
      have k210 : ai_hv t298 389 (254 + (4 * (σ 3 0))) = some (.inl ((8 * v138) + v125)) := (e298 389 (254 + (4 * (σ 3 0))) (by first | decide | omega)).trans k196
      have k211 : ai_hv t298 389 ((254 + (4 * (σ 3 0))) + 1) = some (.inl v174) := (e298 389 ((254 + (4 * (σ 3 0))) + 1) (by first | decide | omega)).trans k197
      have k212 : ai_hv t298 389 ((254 + (4 * (σ 3 0))) + 2) = some (.inl v271) := (e298 389 ((254 + (4 * (σ 3 0))) + 2) (by first | decide | omega)).trans k285
      have x298 := y298.trans (fn_any (lo' := 0) (hi' := sp_nv S m (a + 4)) (fun h => ⟨rfl, by
        have h9 : f271 = 0 := (congrArg Prod.snd x271).trans (fw_2 h)
        have h8 := h4 (by first | decide | omega)
        omega⟩))
      refine gx_ap rfl (fun _ => rfl) s298.1 rfl rfl rfl (show (254 + (4 * (σ 3 0))) + 3 < 320 from by omega) (px_run_lead3 ((σ 3 0)) (by first | decide | omega) (by first | decide | omega)) (ai_in_h (by first | decide | omega) (by first | decide | omega) (by first | decide | omega)) rfl (fun t313 g313 k313 e313 => ?_)
      have k214 : ai_hv t313 389 160 = some (.inl (σ 0 0)) := (e313 389 160 (by first | decide | omega)).trans k200
      have k215 : ai_hv t313 389 161 = some (.inl (σ 1 0)) := (e313 389 161 (by first | decide | omega)).trans k201
      have k216 : ai_hv t313 389 162 = some (.inl (σ 2 0)) := (e313 389 162 (by first | decide | omega)).trans k202
      have k217 : ai_hv t313 389 163 = some (.inl (σ 3 0)) := (e313 389 163 (by first | decide | omega)).trans k203
      have k218 : ai_hv t313 389 164 = some (.inl (σ 4 0)) := (e313 389 164 (by first | decide | omega)).trans k204
      have k219 : ai_hv t313 389 166 = some (.inl (σ 5 0)) := (e313 389 166 (by first | decide | omega)).trans k205
      have k220 : ai_hv t313 389 167 = some (.inl (σ 6 0)) := (e313 389 167 (by first | decide | omega)).trans k206
      have k221 : ai_hv t313 389 168 = some (.inl (σ 7 0)) := (e313 389 168 (by first | decide | omega)).trans k207
      have k222 : ai_hv t313 383 20 = some (.inl (σ 8 0)) := (e313 383 20 (by first | decide | omega)).trans k208
      have k223 : ai_hv t313 383 19 = some (.inl (σ 15 0)) := (e313 383 19 (by first | decide | omega)).trans k209
      have k224 : ai_hv t313 389 (254 + (4 * (σ 3 0))) = some (.inl ((8 * v138) + v125)) := (e313 389 (254 + (4 * (σ 3 0))) (by first | decide | omega)).trans k210
      have k225 : ai_hv t313 389 ((254 + (4 * (σ 3 0))) + 1) = some (.inl v174) := (e313 389 ((254 + (4 * (σ 3 0))) + 1) (by first | decide | omega)).trans k211
      have k226 : ai_hv t313 389 ((254 + (4 * (σ 3 0))) + 2) = some (.inl v271) := (e313 389 ((254 + (4 * (σ 3 0))) + 2) (by first | decide | omega)).trans k212
      have s313 : px_S t313 a298 f298 := ⟨g313, (e313 383 7 (by first | decide | omega)).trans s298.2.1, (e313 383 8 (by first | decide | omega)).trans s298.2.2.1, s298.2.2.2⟩
      refine ex_go (S := (202, [(4, .inl (254 + (4 * (σ 3 0)))), (3, .inl v138), (2, .inl v125), (1, .inl (σ 3 0)), (0, gx_r 383)], [gx_r 383], t313, n, 0)) rfl (fun _ => rfl) rfl ?_
      refine gx_ref (c := 389) rfl s313.1 rfl rfl rfl rfl ?_
      refine ex_go (S := (208, [(4, .inl (254 + (4 * (σ 3 0)))), (3, .inl v138), (2, .inl v125), (1, .inl (σ 3 0)), (0, gx_r 383)], [.inl 163, gx_r 389], t313, n, 0)) rfl (fun _ => rfl) rfl ?_
      refine ex_go (S := (209, [(4, .inl (254 + (4 * (σ 3 0)))), (3, .inl v138), (2, .inl v125), (1, .inl (σ 3 0)), (0, gx_r 383)], [.inl 163, gx_r 389, .inl 163, gx_r 389], t313, n, 0)) rfl (fun _ => rfl) rfl ?_
      refine gx_ag (v := .inl (σ 3 0)) (cb := fun c => Nat.beq c 0) rfl (fun _ => rfl) s313.1 rfl rfl k217 (by first | decide | omega) rfl ?_
      refine ex_go (S := (211, [(4, .inl (254 + (4 * (σ 3 0)))), (3, .inl v138), (2, .inl v125), (1, .inl (σ 3 0)), (0, gx_r 383)], [.inl 1, .inl (σ 3 0), .inl 163, gx_r 389], t313, n, 0)) rfl (fun _ => rfl) rfl ?_
      refine ex_iadd rfl (by first | decide | omega) rfl ?_
      refine gx_ap rfl (fun _ => rfl) s313.1 rfl rfl rfl (show 163 < 320 from by omega) rfl (ai_in_h (by first | decide | omega) (by first | decide | omega) (by first | decide | omega)) rfl (fun t327 g327 k327 e327 => ?_)
      have k228 : ai_hv t327 389 160 = some (.inl (σ 0 0)) := (e327 389 160 (by first | decide | omega)).trans k214
      have k229 : ai_hv t327 389 161 = some (.inl (σ 1 0)) := (e327 389 161 (by first | decide | omega)).trans k215
      have k230 : ai_hv t327 389 162 = some (.inl (σ 2 0)) := (e327 389 162 (by first | decide | omega)).trans k216
      have k231 : ai_hv t327 389 164 = some (.inl (σ 4 0)) := (e327 389 164 (by first | decide | omega)).trans k218
      have k232 : ai_hv t327 389 166 = some (.inl (σ 5 0)) := (e327 389 166 (by first | decide | omega)).trans k219
      have k233 : ai_hv t327 389 167 = some (.inl (σ 6 0)) := (e327 389 167 (by first | decide | omega)).trans k220
      have k234 : ai_hv t327 389 168 = some (.inl (σ 7 0)) := (e327 389 168 (by first | decide | omega)).trans k221
      have k235 : ai_hv t327 383 20 = some (.inl (σ 8 0)) := (e327 383 20 (by first | decide | omega)).trans k222
      have k236 : ai_hv t327 383 19 = some (.inl (σ 15 0)) := (e327 383 19 (by first | decide | omega)).trans k223
      have k237 : ai_hv t327 389 (254 + (4 * (σ 3 0))) = some (.inl ((8 * v138) + v125)) := (e327 389 (254 + (4 * (σ 3 0))) (by first | decide | omega)).trans k224
      have k238 : ai_hv t327 389 ((254 + (4 * (σ 3 0))) + 1) = some (.inl v174) := (e327 389 ((254 + (4 * (σ 3 0))) + 1) (by first | decide | omega)).trans k225
      have k239 : ai_hv t327 389 ((254 + (4 * (σ 3 0))) + 2) = some (.inl v271) := (e327 389 ((254 + (4 * (σ 3 0))) + 2) (by first | decide | omega)).trans k226
      have k240 : ai_hv t327 389 ((254 + (4 * (σ 3 0))) + 3) = some (.inl v298) := (e327 389 ((254 + (4 * (σ 3 0))) + 3) (by first | decide | omega)).trans k313
      have s327 : px_S t327 a298 f298 := ⟨g327, (e327 383 7 (by first | decide | omega)).trans s313.2.1, (e327 383 8 (by first | decide | omega)).trans s313.2.2.1, s313.2.2.2⟩
      refine ex_ret (r := (none, t327, n, 0)) rfl (fun _ => rfl) ?_
      have hT241 := rT_keep (t' := t327) hT (fun c i h => (e327 c i (by first | decide | omega)).trans ((e313 c i (by first | decide | omega)).trans ((e298 c i (by first | decide | omega)).trans ((e285 c i (by first | decide | omega)).trans ((e271 c i (by first | decide | omega)).trans ((e187 c i (by first | decide | omega)).trans ((e174 c i (by first | decide | omega)).trans ((e163 c i (by first | decide | omega)).trans ((e150 c i (by first | decide | omega)).trans ((e138 c i (by first | decide | omega)).trans ((e125 c i (by first | decide | omega)).trans (e113 c i (by first | decide | omega)))))))))))))
      refine ⟨_, rfl, t327, a298, f298, rfl, s327, hT241, x298, by omega, fun h0 => ⟨by omega, ?_⟩⟩
      have x7 : ai_hv t327 389 (254 + 4 * σ 3 0) = some (.inl (8 * sp_nv S m (a + 2) + sp_nv S m (a + 1))) := by rw [← hxy (by first | decide | omega)]; exact k237
      have xb242 : rows t327 389 237 3 (σ 2 0) (fun i => sp_nv S m (σ 16 i + 3)) := rows_keep hb0 (fun i hi => (e327 389 (237 + 3 * i) (by first | decide | omega)).trans ((e313 389 (237 + 3 * i) (by first | decide | omega)).trans ((e298 389 (237 + 3 * i) (by first | decide | omega)).trans ((e285 389 (237 + 3 * i) (by first | decide | omega)).trans ((e271 389 (237 + 3 * i) (by first | decide | omega)).trans ((e187 389 (237 + 3 * i) (by first | decide | omega)).trans ((e174 389 (237 + 3 * i) (by first | decide | omega)).trans ((e163 389 (237 + 3 * i) (by first | decide | omega)).trans ((e150 389 (237 + 3 * i) (by first | decide | omega)).trans ((e138 389 (237 + 3 * i) (by first | decide | omega)).trans ((e125 389 (237 + 3 * i) (by first | decide | omega)).trans (e113 389 (237 + 3 * i) (by first | decide | omega)))))))))))))
      have xb243 : rows t327 389 238 3 (σ 2 0) (fun i => sp_nv S m (σ 16 i + 4)) := rows_keep hb1 (fun i hi => (e327 389 (238 + 3 * i) (by first | decide | omega)).trans ((e313 389 (238 + 3 * i) (by first | decide | omega)).trans ((e298 389 (238 + 3 * i) (by first | decide | omega)).trans ((e285 389 (238 + 3 * i) (by first | decide | omega)).trans ((e271 389 (238 + 3 * i) (by first | decide | omega)).trans ((e187 389 (238 + 3 * i) (by first | decide | omega)).trans ((e174 389 (238 + 3 * i) (by first | decide | omega)).trans ((e163 389 (238 + 3 * i) (by first | decide | omega)).trans ((e150 389 (238 + 3 * i) (by first | decide | omega)).trans ((e138 389 (238 + 3 * i) (by first | decide | omega)).trans ((e125 389 (238 + 3 * i) (by first | decide | omega)).trans (e113 389 (238 + 3 * i) (by first | decide | omega)))))))))))))
      have xb244 : rows t327 389 255 4 (σ 3 0) (fun i => sp_nv S m (σ 20 i + 4)) := rows_keep hb2 (fun i hi => (e327 389 (255 + 4 * i) (by first | decide | omega)).trans ((e313 389 (255 + 4 * i) (by first | decide | omega)).trans ((e298 389 (255 + 4 * i) (by first | decide | omega)).trans ((e285 389 (255 + 4 * i) (by first | decide | omega)).trans ((e271 389 (255 + 4 * i) (by first | decide | omega)).trans ((e187 389 (255 + 4 * i) (by first | decide | omega)).trans ((e174 389 (255 + 4 * i) (by first | decide | omega)).trans ((e163 389 (255 + 4 * i) (by first | decide | omega)).trans ((e150 389 (255 + 4 * i) (by first | decide | omega)).trans ((e138 389 (255 + 4 * i) (by first | decide | omega)).trans ((e125 389 (255 + 4 * i) (by first | decide | omega)).trans (e113 389 (255 + 4 * i) (by first | decide | omega)))))))))))))
      have hnv245 : ai_hv t327 389 (255 + 4 * σ 3 0) = some (.inl (sp_nv S m (a + 4))) := by
        have h9 : v174 = sp_nv S m (a + 4) := by rw [← show a150 + 1 = a + 4 by omega]; omega
        show _ = some (Sum.inl (sp_nv S m (a + 4)))
        rw [← h9, show 255 + 4 * σ 3 0 = (254 + (4 * (σ 3 0))) + 1 by omega]
        exact k238
      have xb246 : rows t327 389 256 4 (σ 3 0) (fun i => sp_nv S m (σ 20 i + 6)) := rows_keep hb3 (fun i hi => (e327 389 (256 + 4 * i) (by first | decide | omega)).trans ((e313 389 (256 + 4 * i) (by first | decide | omega)).trans ((e298 389 (256 + 4 * i) (by first | decide | omega)).trans ((e285 389 (256 + 4 * i) (by first | decide | omega)).trans ((e271 389 (256 + 4 * i) (by first | decide | omega)).trans ((e187 389 (256 + 4 * i) (by first | decide | omega)).trans ((e174 389 (256 + 4 * i) (by first | decide | omega)).trans ((e163 389 (256 + 4 * i) (by first | decide | omega)).trans ((e150 389 (256 + 4 * i) (by first | decide | omega)).trans ((e138 389 (256 + 4 * i) (by first | decide | omega)).trans ((e125 389 (256 + 4 * i) (by first | decide | omega)).trans (e113 389 (256 + 4 * i) (by first | decide | omega)))))))))))))
      have hnv247 : ai_hv t327 389 (256 + 4 * σ 3 0) = some (.inl (sp_nv S m (a + 6))) := by
        have h9 : v271 = sp_nv S m (a + 6) := by rw [← show a174 + 1 = a + 6 by omega]; omega
        show _ = some (Sum.inl (sp_nv S m (a + 6)))
        rw [← h9, show 256 + 4 * σ 3 0 = (254 + (4 * (σ 3 0))) + 2 by omega]
        exact k239
      have xb248 : rows t327 389 257 4 (σ 3 0) (fun i => sp_nv S m (σ 20 i + 8)) := rows_keep hb4 (fun i hi => (e327 389 (257 + 4 * i) (by first | decide | omega)).trans ((e313 389 (257 + 4 * i) (by first | decide | omega)).trans ((e298 389 (257 + 4 * i) (by first | decide | omega)).trans ((e285 389 (257 + 4 * i) (by first | decide | omega)).trans ((e271 389 (257 + 4 * i) (by first | decide | omega)).trans ((e187 389 (257 + 4 * i) (by first | decide | omega)).trans ((e174 389 (257 + 4 * i) (by first | decide | omega)).trans ((e163 389 (257 + 4 * i) (by first | decide | omega)).trans ((e150 389 (257 + 4 * i) (by first | decide | omega)).trans ((e138 389 (257 + 4 * i) (by first | decide | omega)).trans ((e125 389 (257 + 4 * i) (by first | decide | omega)).trans (e113 389 (257 + 4 * i) (by first | decide | omega)))))))))))))
      have hnv249 : ai_hv t327 389 (257 + 4 * σ 3 0) = some (.inl (sp_nv S m (a + 8))) := by
        have h9 : v298 = sp_nv S m (a + 8) := by rw [← show a271 + 1 = a + 8 by omega]; omega
        show _ = some (Sum.inl (sp_nv S m (a + 8)))
        rw [← h9, show 257 + 4 * σ 3 0 = (254 + (4 * (σ 3 0))) + 3 by omega]
        exact k240
      have xb250 : rows t327 389 279 3 (σ 4 0) (fun i => sp_nv S m (σ 21 i + 3)) := rows_keep hb5 (fun i hi => (e327 389 (279 + 3 * i) (by first | decide | omega)).trans ((e313 389 (279 + 3 * i) (by first | decide | omega)).trans ((e298 389 (279 + 3 * i) (by first | decide | omega)).trans ((e285 389 (279 + 3 * i) (by first | decide | omega)).trans ((e271 389 (279 + 3 * i) (by first | decide | omega)).trans ((e187 389 (279 + 3 * i) (by first | decide | omega)).trans ((e174 389 (279 + 3 * i) (by first | decide | omega)).trans ((e163 389 (279 + 3 * i) (by first | decide | omega)).trans ((e150 389 (279 + 3 * i) (by first | decide | omega)).trans ((e138 389 (279 + 3 * i) (by first | decide | omega)).trans ((e125 389 (279 + 3 * i) (by first | decide | omega)).trans (e113 389 (279 + 3 * i) (by first | decide | omega)))))))))))))
      have xb251 : rows t327 389 280 3 (σ 4 0) (fun i => sp_nv S m (σ 21 i + 5)) := rows_keep hb6 (fun i hi => (e327 389 (280 + 3 * i) (by first | decide | omega)).trans ((e313 389 (280 + 3 * i) (by first | decide | omega)).trans ((e298 389 (280 + 3 * i) (by first | decide | omega)).trans ((e285 389 (280 + 3 * i) (by first | decide | omega)).trans ((e271 389 (280 + 3 * i) (by first | decide | omega)).trans ((e187 389 (280 + 3 * i) (by first | decide | omega)).trans ((e174 389 (280 + 3 * i) (by first | decide | omega)).trans ((e163 389 (280 + 3 * i) (by first | decide | omega)).trans ((e150 389 (280 + 3 * i) (by first | decide | omega)).trans ((e138 389 (280 + 3 * i) (by first | decide | omega)).trans ((e125 389 (280 + 3 * i) (by first | decide | omega)).trans (e113 389 (280 + 3 * i) (by first | decide | omega)))))))))))))
      have xb252 : rows t327 389 284 2 (σ 5 0) (fun i => sp_nv S m (σ 17 i + 2)) := rows_keep hb7 (fun i hi => (e327 389 (284 + 2 * i) (by first | decide | omega)).trans ((e313 389 (284 + 2 * i) (by first | decide | omega)).trans ((e298 389 (284 + 2 * i) (by first | decide | omega)).trans ((e285 389 (284 + 2 * i) (by first | decide | omega)).trans ((e271 389 (284 + 2 * i) (by first | decide | omega)).trans ((e187 389 (284 + 2 * i) (by first | decide | omega)).trans ((e174 389 (284 + 2 * i) (by first | decide | omega)).trans ((e163 389 (284 + 2 * i) (by first | decide | omega)).trans ((e150 389 (284 + 2 * i) (by first | decide | omega)).trans ((e138 389 (284 + 2 * i) (by first | decide | omega)).trans ((e125 389 (284 + 2 * i) (by first | decide | omega)).trans (e113 389 (284 + 2 * i) (by first | decide | omega)))))))))))))
      have xb253 : rows t327 389 285 2 (σ 5 0) (fun i => sp_nv S m (σ 17 i + 4)) := rows_keep hb8 (fun i hi => (e327 389 (285 + 2 * i) (by first | decide | omega)).trans ((e313 389 (285 + 2 * i) (by first | decide | omega)).trans ((e298 389 (285 + 2 * i) (by first | decide | omega)).trans ((e285 389 (285 + 2 * i) (by first | decide | omega)).trans ((e271 389 (285 + 2 * i) (by first | decide | omega)).trans ((e187 389 (285 + 2 * i) (by first | decide | omega)).trans ((e174 389 (285 + 2 * i) (by first | decide | omega)).trans ((e163 389 (285 + 2 * i) (by first | decide | omega)).trans ((e150 389 (285 + 2 * i) (by first | decide | omega)).trans ((e138 389 (285 + 2 * i) (by first | decide | omega)).trans ((e125 389 (285 + 2 * i) (by first | decide | omega)).trans (e113 389 (285 + 2 * i) (by first | decide | omega)))))))))))))
      have xb254 : rows t327 389 294 1 (σ 6 0) (fun i => sp_nv S m (σ 18 i + 2)) := rows_keep hb9 (fun i hi => (e327 389 (294 + 1 * i) (by first | decide | omega)).trans ((e313 389 (294 + 1 * i) (by first | decide | omega)).trans ((e298 389 (294 + 1 * i) (by first | decide | omega)).trans ((e285 389 (294 + 1 * i) (by first | decide | omega)).trans ((e271 389 (294 + 1 * i) (by first | decide | omega)).trans ((e187 389 (294 + 1 * i) (by first | decide | omega)).trans ((e174 389 (294 + 1 * i) (by first | decide | omega)).trans ((e163 389 (294 + 1 * i) (by first | decide | omega)).trans ((e150 389 (294 + 1 * i) (by first | decide | omega)).trans ((e138 389 (294 + 1 * i) (by first | decide | omega)).trans ((e125 389 (294 + 1 * i) (by first | decide | omega)).trans (e113 389 (294 + 1 * i) (by first | decide | omega)))))))))))))
      have xb255 : rows t327 389 300 2 (σ 7 0) (fun i => sp_nv S m (σ 19 i + 2)) := rows_keep hb10 (fun i hi => (e327 389 (300 + 2 * i) (by first | decide | omega)).trans ((e313 389 (300 + 2 * i) (by first | decide | omega)).trans ((e298 389 (300 + 2 * i) (by first | decide | omega)).trans ((e285 389 (300 + 2 * i) (by first | decide | omega)).trans ((e271 389 (300 + 2 * i) (by first | decide | omega)).trans ((e187 389 (300 + 2 * i) (by first | decide | omega)).trans ((e174 389 (300 + 2 * i) (by first | decide | omega)).trans ((e163 389 (300 + 2 * i) (by first | decide | omega)).trans ((e150 389 (300 + 2 * i) (by first | decide | omega)).trans ((e138 389 (300 + 2 * i) (by first | decide | omega)).trans ((e125 389 (300 + 2 * i) (by first | decide | omega)).trans (e113 389 (300 + 2 * i) (by first | decide | omega)))))))))))))
      have xb256 : rows t327 389 301 2 (σ 7 0) (fun i => sp_nv S m (σ 19 i + 4)) := rows_keep hb11 (fun i hi => (e327 389 (301 + 2 * i) (by first | decide | omega)).trans ((e313 389 (301 + 2 * i) (by first | decide | omega)).trans ((e298 389 (301 + 2 * i) (by first | decide | omega)).trans ((e285 389 (301 + 2 * i) (by first | decide | omega)).trans ((e271 389 (301 + 2 * i) (by first | decide | omega)).trans ((e187 389 (301 + 2 * i) (by first | decide | omega)).trans ((e174 389 (301 + 2 * i) (by first | decide | omega)).trans ((e163 389 (301 + 2 * i) (by first | decide | omega)).trans ((e150 389 (301 + 2 * i) (by first | decide | omega)).trans ((e138 389 (301 + 2 * i) (by first | decide | omega)).trans ((e125 389 (301 + 2 * i) (by first | decide | omega)).trans (e113 389 (301 + 2 * i) (by first | decide | omega)))))))))))))
      have xb257 : rows t327 389 172 1 64 (σ 23) := rows_keep hb13 (fun i hi => (e327 389 (172 + 1 * i) (by first | decide | omega)).trans ((e313 389 (172 + 1 * i) (by first | decide | omega)).trans ((e298 389 (172 + 1 * i) (by first | decide | omega)).trans ((e285 389 (172 + 1 * i) (by first | decide | omega)).trans ((e271 389 (172 + 1 * i) (by first | decide | omega)).trans ((e187 389 (172 + 1 * i) (by first | decide | omega)).trans ((e174 389 (172 + 1 * i) (by first | decide | omega)).trans ((e163 389 (172 + 1 * i) (by first | decide | omega)).trans ((e150 389 (172 + 1 * i) (by first | decide | omega)).trans ((e138 389 (172 + 1 * i) (by first | decide | omega)).trans ((e125 389 (172 + 1 * i) (by first | decide | omega)).trans (e113 389 (172 + 1 * i) (by first | decide | omega)))))))))))))
      have xk258 : rows t327 389 236 3 (σ 2 0) (σ 10) := rows_keep hRk (fun i hi => (e327 389 (236 + 3 * i) (by first | decide | omega)).trans ((e313 389 (236 + 3 * i) (by first | decide | omega)).trans ((e298 389 (236 + 3 * i) (by first | decide | omega)).trans ((e285 389 (236 + 3 * i) (by first | decide | omega)).trans ((e271 389 (236 + 3 * i) (by first | decide | omega)).trans ((e187 389 (236 + 3 * i) (by first | decide | omega)).trans ((e174 389 (236 + 3 * i) (by first | decide | omega)).trans ((e163 389 (236 + 3 * i) (by first | decide | omega)).trans ((e150 389 (236 + 3 * i) (by first | decide | omega)).trans ((e138 389 (236 + 3 * i) (by first | decide | omega)).trans ((e125 389 (236 + 3 * i) (by first | decide | omega)).trans (e113 389 (236 + 3 * i) (by first | decide | omega)))))))))))))
      have xk259 : rows t327 389 254 4 (σ 3 0) (σ 11) := rows_keep hRl (fun i hi => (e327 389 (254 + 4 * i) (by first | decide | omega)).trans ((e313 389 (254 + 4 * i) (by first | decide | omega)).trans ((e298 389 (254 + 4 * i) (by first | decide | omega)).trans ((e285 389 (254 + 4 * i) (by first | decide | omega)).trans ((e271 389 (254 + 4 * i) (by first | decide | omega)).trans ((e187 389 (254 + 4 * i) (by first | decide | omega)).trans ((e174 389 (254 + 4 * i) (by first | decide | omega)).trans ((e163 389 (254 + 4 * i) (by first | decide | omega)).trans ((e150 389 (254 + 4 * i) (by first | decide | omega)).trans ((e138 389 (254 + 4 * i) (by first | decide | omega)).trans ((e125 389 (254 + 4 * i) (by first | decide | omega)).trans (e113 389 (254 + 4 * i) (by first | decide | omega)))))))))))))
      have xk260 : rows t327 389 278 3 (σ 4 0) (σ 12) := rows_keep hRs (fun i hi => (e327 389 (278 + 3 * i) (by first | decide | omega)).trans ((e313 389 (278 + 3 * i) (by first | decide | omega)).trans ((e298 389 (278 + 3 * i) (by first | decide | omega)).trans ((e285 389 (278 + 3 * i) (by first | decide | omega)).trans ((e271 389 (278 + 3 * i) (by first | decide | omega)).trans ((e187 389 (278 + 3 * i) (by first | decide | omega)).trans ((e174 389 (278 + 3 * i) (by first | decide | omega)).trans ((e163 389 (278 + 3 * i) (by first | decide | omega)).trans ((e150 389 (278 + 3 * i) (by first | decide | omega)).trans ((e138 389 (278 + 3 * i) (by first | decide | omega)).trans ((e125 389 (278 + 3 * i) (by first | decide | omega)).trans (e113 389 (278 + 3 * i) (by first | decide | omega)))))))))))))
      exact ⟨⟨k228, k229, k230, k327, k231, k232, k233, k234, k235, k236⟩, fun k hk => by
          rcases hRL k hk with ⟨h1, h2⟩ | ⟨h1, z, h2, h3⟩
          · exact Or.inl ⟨h1, ((e327 389 (169 + k) (by first | decide | omega)).trans ((e313 389 (169 + k) (by first | decide | omega)).trans ((e298 389 (169 + k) (by first | decide | omega)).trans ((e285 389 (169 + k) (by first | decide | omega)).trans ((e271 389 (169 + k) (by first | decide | omega)).trans ((e187 389 (169 + k) (by first | decide | omega)).trans ((e174 389 (169 + k) (by first | decide | omega)).trans ((e163 389 (169 + k) (by first | decide | omega)).trans ((e150 389 (169 + k) (by first | decide | omega)).trans ((e138 389 (169 + k) (by first | decide | omega)).trans ((e125 389 (169 + k) (by first | decide | omega)).trans (e113 389 (169 + k) (by first | decide | omega))))))))))))).trans h2⟩
          · exact Or.inr ⟨h1, z, ((e327 389 (169 + k) (by first | decide | omega)).trans ((e313 389 (169 + k) (by first | decide | omega)).trans ((e298 389 (169 + k) (by first | decide | omega)).trans ((e285 389 (169 + k) (by first | decide | omega)).trans ((e271 389 (169 + k) (by first | decide | omega)).trans ((e187 389 (169 + k) (by first | decide | omega)).trans ((e174 389 (169 + k) (by first | decide | omega)).trans ((e163 389 (169 + k) (by first | decide | omega)).trans ((e150 389 (169 + k) (by first | decide | omega)).trans ((e138 389 (169 + k) (by first | decide | omega)).trans ((e125 389 (169 + k) (by first | decide | omega)).trans (e113 389 (169 + k) (by first | decide | omega))))))))))))).trans h2, h3⟩, xk258, rows_up xk259 x7, xk260, (fun k hk => ⟨((e327 393 k (by first | decide | omega)).trans ((e313 393 k (by first | decide | omega)).trans ((e298 393 k (by first | decide | omega)).trans ((e285 393 k (by first | decide | omega)).trans ((e271 393 k (by first | decide | omega)).trans ((e187 393 k (by first | decide | omega)).trans ((e174 393 k (by first | decide | omega)).trans ((e163 393 k (by first | decide | omega)).trans ((e150 393 k (by first | decide | omega)).trans ((e138 393 k (by first | decide | omega)).trans ((e125 393 k (by first | decide | omega)).trans (e113 393 k (by first | decide | omega))))))))))))).trans (hRN k hk).1, ((e327 395 k (by first | decide | omega)).trans ((e313 395 k (by first | decide | omega)).trans ((e298 395 k (by first | decide | omega)).trans ((e285 395 k (by first | decide | omega)).trans ((e271 395 k (by first | decide | omega)).trans ((e187 395 k (by first | decide | omega)).trans ((e174 395 k (by first | decide | omega)).trans ((e163 395 k (by first | decide | omega)).trans ((e150 395 k (by first | decide | omega)).trans ((e138 395 k (by first | decide | omega)).trans ((e125 395 k (by first | decide | omega)).trans (e113 395 k (by first | decide | omega))))))))))))).trans (hRN k hk).2⟩), xb242, xb243, rows_tk (g := σ 20) xb244 hnv245, rows_tk (g := σ 20) xb246 hnv247, rows_tk (g := σ 20) xb248 hnv249, xb250, xb251, xb252, xb253, xb254, xb255, xb256, ((e327 389 165 (by first | decide | omega)).trans ((e313 389 165 (by first | decide | omega)).trans ((e298 389 165 (by first | decide | omega)).trans ((e285 389 165 (by first | decide | omega)).trans ((e271 389 165 (by first | decide | omega)).trans ((e187 389 165 (by first | decide | omega)).trans ((e174 389 165 (by first | decide | omega)).trans ((e163 389 165 (by first | decide | omega)).trans ((e150 389 165 (by first | decide | omega)).trans ((e138 389 165 (by first | decide | omega)).trans ((e125 389 165 (by first | decide | omega)).trans (e113 389 165 (by first | decide | omega))))))))))))).trans hb12, xb257⟩
end SPM
