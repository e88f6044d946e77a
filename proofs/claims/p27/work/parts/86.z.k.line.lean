section SPL
noncomputable def rows (t : en_H) (c b s n : Nat) (g : Nat → Nat) : Prop := ∀ i, i < n → ai_hv t c (b + s * i) = some (.inl (g i))
theorem rows_keep {t t' : en_H} {c b s n : Nat} {g : Nat → Nat} (h : rows t c b s n g) (e : ∀ i, i < n → ai_hv t' c (b + s * i) = ai_hv t c (b + s * i)) : rows t' c b s n g := fun i hi => (e i hi).trans (h i hi)
theorem rows_up {t : en_H} {c b s n v : Nat} {g : Nat → Nat} (h : rows t c b s n g) (hn : ai_hv t c (b + s * n) = some (.inl v)) : rows t c b s (n + 1) (fun i => bif Nat.beq i n then v else g i) := fun i hi => by
  by_cases e : i = n
  · subst e
    show _ = some (Sum.inl (bif Nat.beq i i then v else g i))
    rw [show Nat.beq i i = true from Nat.beq_refl i]; exact hn
  · show _ = some (Sum.inl (bif Nat.beq i n then v else g i))
    rw [show Nat.beq i n = false from Bool.eq_false_iff.mpr (fun z => e (Nat.eq_of_beq_eq_true z))]
    exact h i (by first | decide | omega)
noncomputable def nx (g : Nat → Nat) (n v : Nat) : Nat → Nat := fun k => bif Nat.beq k n then v else g k
theorem nx_t {g : Nat → Nat} {n v : Nat} : nx g n v n = v := by unfold nx; rw [show Nat.beq n n = true from Nat.beq_refl n]; rfl
theorem nx_f {g : Nat → Nat} {n v k : Nat} (h : k ≠ n) : nx g n v k = g k := by unfold nx; rw [show Nat.beq k n = false from Bool.eq_false_iff.mpr (fun z => h (Nat.eq_of_beq_eq_true z))]; rfl
theorem nx_lt {g : Nat → Nat} {n v k : Nat} (h : k < n) : nx g n v k = g k := nx_f (by first | decide | omega)
/-- a row more whose number is read at a token near the row's own -/
theorem rows_tk {t : en_H} {S : Nat → Nat} {m c b s n a o : Nat} {g : Nat → Nat} (h : rows t c b s n (fun i => sp_nv S m (g i + o))) (hn : ai_hv t c (b + s * n) = some (.inl (sp_nv S m (a + o)))) : rows t c b s (n + 1) (fun i => sp_nv S m (nx g n a i + o)) := fun i hi => by
  by_cases e : i = n
  · subst e
    show _ = some (Sum.inl (sp_nv S m (nx g i a i + o)))
    rw [nx_t]; exact hn
  · show _ = some (Sum.inl (sp_nv S m (nx g n a i + o)))
    rw [nx_f e]
    exact h i (by first | decide | omega)
/-- the pace told at the token z, or 2 -/
noncomputable def pcv (S : Nat → Nat) (m z : Nat) : Nat := if z = 0 then 2 else sp_nv S m z
/-- the numbers that the reference's draft holds -/
noncomputable def RB (t : en_H) (S : Nat → Nat) (m : Nat) (σ : Nat → Nat → Nat) : Prop := rows t 389 237 3 (σ 2 0) (fun i => sp_nv S m (σ 16 i + 3)) ∧ rows t 389 238 3 (σ 2 0) (fun i => sp_nv S m (σ 16 i + 4)) ∧ rows t 389 255 4 (σ 3 0) (fun i => sp_nv S m (σ 20 i + 4)) ∧ rows t 389 256 4 (σ 3 0) (fun i => sp_nv S m (σ 20 i + 6)) ∧ rows t 389 257 4 (σ 3 0) (fun i => sp_nv S m (σ 20 i + 8)) ∧ rows t 389 279 3 (σ 4 0) (fun i => sp_nv S m (σ 21 i + 3)) ∧ rows t 389 280 3 (σ 4 0) (fun i => sp_nv S m (σ 21 i + 5)) ∧ rows t 389 284 2 (σ 5 0) (fun i => sp_nv S m (σ 17 i + 2)) ∧ rows t 389 285 2 (σ 5 0) (fun i => sp_nv S m (σ 17 i + 4)) ∧ rows t 389 294 1 (σ 6 0) (fun i => sp_nv S m (σ 18 i + 2)) ∧ rows t 389 300 2 (σ 7 0) (fun i => sp_nv S m (σ 19 i + 2)) ∧ rows t 389 301 2 (σ 7 0) (fun i => sp_nv S m (σ 19 i + 4)) ∧ ai_hv t 389 165 = some (.inl (pcv S m (σ 22 0))) ∧ rows t 389 172 1 64 (σ 23)
noncomputable def RLw (t : en_H) (σ : Nat → Nat → Nat) : Prop := ∀ k, k < 3 → (σ 9 k = 0 ∧ ai_hv t 389 (169 + k) = some (.inl 4294967295)) ∨ (σ 9 k = 1 ∧ ∃ s, ai_hv t 389 (169 + k) = some (.inl s) ∧ s ≤ 1100)
/-- what the reference's draft holds -/
noncomputable def RA (t : en_H) (S : Nat → Nat) (m : Nat) (σ : Nat → Nat → Nat) : Prop := (ai_hv t 389 160 = some (.inl (σ 0 0)) ∧ ai_hv t 389 161 = some (.inl (σ 1 0)) ∧ ai_hv t 389 162 = some (.inl (σ 2 0)) ∧ ai_hv t 389 163 = some (.inl (σ 3 0)) ∧ ai_hv t 389 164 = some (.inl (σ 4 0)) ∧ ai_hv t 389 166 = some (.inl (σ 5 0)) ∧ ai_hv t 389 167 = some (.inl (σ 6 0)) ∧ ai_hv t 389 168 = some (.inl (σ 7 0)) ∧ ai_hv t 383 20 = some (.inl (σ 8 0)) ∧ ai_hv t 383 19 = some (.inl (σ 15 0))) ∧ RLw t σ ∧ rows t 389 236 3 (σ 2 0) (σ 10) ∧ rows t 389 254 4 (σ 3 0) (σ 11) ∧ rows t 389 278 3 (σ 4 0) (σ 12) ∧ RN t S m σ ∧ RB t S m σ
noncomputable def WB (σ : Nat → Nat → Nat) : Prop := (σ 2 0 ≤ 6 ∧ σ 3 0 ≤ 6 ∧ σ 4 0 ≤ 2 ∧ σ 5 0 ≤ 5 ∧ σ 6 0 ≤ 6 ∧ σ 7 0 ≤ 6 ∧ 2 ≤ σ 0 0 ∧ σ 0 0 ≤ 8 ∧ 2 ≤ σ 1 0 ∧ σ 1 0 ≤ 8 ∧ σ 8 0 ≤ 1 ∧ σ 15 0 = σ 2 0 + σ 5 0 + σ 6 0 + σ 7 0) ∧ ∀ i, i < σ 2 0 → σ 10 i ≤ 3
theorem RN_up {t : en_H} {S : Nat → Nat} {m a y z i : Nat} {σ : Nat → Nat → Nat} (hz : z = 16 ∨ z = 17 ∨ z = 18 ∨ z = 19) (h : RN t S m σ) (h1 : ai_hv t 393 (σ 15 0) = some (.inr (.inl (sp_w7 S m a)))) (h2 : ai_hv t 395 (σ 15 0) = some (.inl y)) : RN t S m (sg_name σ a y z i) := fun k hk => by
  have e1 : sg_name σ a y z i 13 k = bif Nat.beq k (σ 15 0) then a else σ 13 k := by rcases hz with rfl | rfl | rfl | rfl <;> rfl
  have e2 : sg_name σ a y z i 14 k = bif Nat.beq k (σ 15 0) then y else σ 14 k := by rcases hz with rfl | rfl | rfl | rfl <;> rfl
  have hk : k < σ 15 0 + 1 := hk
  rw [e1, e2]
  by_cases e : k = σ 15 0
  · rw [e, show Nat.beq (σ 15 0) (σ 15 0) = true from Nat.beq_refl _]; exact ⟨h1, h2⟩
  · rw [show Nat.beq k (σ 15 0) = false from Bool.eq_false_iff.mpr (fun z => e (Nat.eq_of_beq_eq_true z))]
    exact h k (by first | decide | omega)
theorem sp_ki_eq {S : Nat → Nat} {m N a v : Nat} (hv : v < 4) (h : sp_wd S m N a (31 + v)) : sp_ki S m N a = v := by
  have h1 := sp_fi_ex (P := fun k => sp_wd S m N a (31 + k)) (j := 4) (k := 0) (i := v) (by first | decide | omega) (by first | decide | omega) h
  have h2 := sp_fi_lt (P := fun k => sp_wd S m N a (31 + k)) (j := 4) (k := 0) (by first | decide | omega)
  have h3 := sp_wd_one (by first | decide | omega) (by first | decide | omega) h h2
  unfold sp_ki
  omega
theorem pe_readThing (d n : Nat) {t0 : en_H} {a : Nat} {S : Nat → Nat} {m N : Nat} {σ : Nat → Nat → Nat} (s0 : px_S t0 a 0) (hT : rT t0 S m N) (ha : a < N) (hA : RA t0 S m σ) (hB : WB σ) (hK : NK S m N σ) : ∃ r, en_u (d + 5) 187 [gx_r 383] t0 n = some r ∧ ∃ t' a' f', r = (none, t', n, 0) ∧ px_S t' a' f' ∧ rT t' S m N ∧ (a', f') = sl_thing S m N σ a ∧ a' ≤ N ∧ (f' = 0 → a < a' ∧ RA t' S m (sn_thing S m N σ a)) := by
  have b0 := s0.2.2.2
  have hN := hT.2.2.2.2.1
  obtain ⟨⟨kk0, kk1, kk2, kk3, kk4, kk5, kk6, kk7, kk8, kk9⟩, hRL, hRk, hRl, hRs, hRN, hb0, hb1, hb2, hb3, hb4, hb5, hb6, hb7, hb8, hb9, hb10, hb11, hb12, hb13⟩ := hA
  have hBB := hB.1
  refine en_u_ex (d := d + 4) rfl ?_
  show en_ex _ _ _ _ (0, [(0, gx_r 383)], [], t0, n, 0) _
  refine ex_go (S := (1, [(0, gx_r 383)], [gx_r 383], t0, n, 0)) rfl (fun _ => rfl) rfl ?_
  refine gx_ref (c := 389) rfl s0.1 rfl rfl rfl rfl ?_
  refine ex_go (S := (7, [(0, gx_r 383)], [.inl 162, gx_r 389], t0, n, 0)) rfl (fun _ => rfl) rfl ?_
  refine gx_ag (v := .inl (σ 2 0)) (cb := fun c => Nat.beq c 0) rfl (fun _ => rfl) s0.1 rfl rfl kk2 (by first | decide | omega) rfl ?_
  refine ex_go (S := (9, [(1, .inl (σ 2 0)), (0, gx_r 383)], [], t0, n, 0)) rfl (fun _ => rfl) rfl ?_
  refine ex_go (S := (10, [(1, .inl (σ 2 0)), (0, gx_r 383)], [.inl (σ 2 0)], t0, n, 0)) rfl (fun _ => rfl) rfl ?_
  refine ex_go (S := (12, [(1, .inl (σ 2 0)), (0, gx_r 383)], [.inl 6, .inl (σ 2 0)], t0, n, 0)) rfl (fun _ => rfl) rfl ?_
  by_cases hful : σ 2 0 = 6
  · refine gx_2f (c := .ne) rfl (by first | decide | omega) (by first | decide | omega) (show ¬ (σ 2 0 ≠ 6) from by omega) rfl ?_
    refine ex_go (S := (16, [(1, .inl (σ 2 0)), (0, gx_r 383)], [gx_r 383], t0, n, 0)) rfl (fun _ => rfl) rfl ?_
    refine ex_go (S := (17, [(1, .inl (σ 2 0)), (0, gx_r 383)], [.inl 5, gx_r 383], t0, n, 0)) rfl (fun _ => rfl) rfl ?_
    obtain ⟨_, r101, t101, a101, f101, rfl, s101, e101, q101⟩ := pe_wrong (d + 3) n (s0) hT (by first | decide | omega) (w := 5) (by first | decide | omega)
    have b101 := s101.2.2.2
    have hT101 := rT_keep hT (fun c i h => e101 c i (by first | decide | omega))
    refine gx_call0 rfl rfl s0.1 rfl rfl r101 rfl ?_
    have k2 : ai_hv t101 389 160 = some (.inl (σ 0 0)) := (e101 389 160 (by first | decide | omega)).trans kk0
    have k3 : ai_hv t101 389 161 = some (.inl (σ 1 0)) := (e101 389 161 (by first | decide | omega)).trans kk1
    have k4 : ai_hv t101 389 162 = some (.inl (σ 2 0)) := (e101 389 162 (by first | decide | omega)).trans kk2
    have k5 : ai_hv t101 389 163 = some (.inl (σ 3 0)) := (e101 389 163 (by first | decide | omega)).trans kk3
    have k6 : ai_hv t101 389 164 = some (.inl (σ 4 0)) := (e101 389 164 (by first | decide | omega)).trans kk4
    have k7 : ai_hv t101 389 166 = some (.inl (σ 5 0)) := (e101 389 166 (by first | decide | omega)).trans kk5
    have k8 : ai_hv t101 389 167 = some (.inl (σ 6 0)) := (e101 389 167 (by first | decide | omega)).trans kk6
    have k9 : ai_hv t101 389 168 = some (.inl (σ 7 0)) := (e101 389 168 (by first | decide | omega)).trans kk7
    have k10 : ai_hv t101 383 20 = some (.inl (σ 8 0)) := (e101 383 20 (by first | decide | omega)).trans kk8
    have k11 : ai_hv t101 383 19 = some (.inl (σ 15 0)) := (e101 383 19 (by first | decide | omega)).trans kk9
    refine ex_ret (r := (none, t101, n, 0)) rfl (fun _ => rfl) ?_
    have hT12 := rT_keep (t' := t101) hT (fun c i h => e101 c i (by first | decide | omega))
    refine ⟨_, rfl, t101, a101, f101, rfl, s101, hT12, ?_, by omega, fun h0 => by omega⟩
    rw [show a101 = a by omega, show f101 = 5 + 16 * sp_st S m a by omega]
    unfold sl_thing
    have h5 : 5 + 16 * sp_st S m a ≠ 0 := by omega
    rw [fr_w hful, fm_no h5, fo_no h5, fw_no h5, fn_no h5, fn_no h5]
  · refine gx_2t (c := .ne) rfl (by first | decide | omega) (by first | decide | omega) (show σ 2 0 ≠ 6 from by omega) rfl ?_
    refine ex_go (S := (22, [(1, .inl (σ 2 0)), (0, gx_r 383)], [gx_r 383], t0, n, 0)) rfl (fun _ => rfl) rfl ?_
    refine ex_go (S := (23, [(1, .inl (σ 2 0)), (0, gx_r 383)], [.inl (σ 2 0), gx_r 383], t0, n, 0)) rfl (fun _ => rfl) rfl ?_
    obtain ⟨_, r113, t113, a113, f113, rfl, s113, e113, z113, q113, u113⟩ := pe_readName d n (s0) hT ha (w := σ 2 0) (by first | decide | omega) kk9 hRN hK
    have b113 := s113.2.2.2
    have y113 : (a113, f113) = fm S m N (sg_told S m σ) (fr S m (σ 2 0 = 6) 5 (a, 0)) := z113.trans (congrArg (fm S m N (sg_told S m σ)) (fr_yes hful).symm)
    refine gx_call0 rfl rfl s0.1 rfl rfl r113 rfl ?_
    have k14 : ai_hv t113 389 160 = some (.inl (σ 0 0)) := (e113 389 160 (by first | decide | omega)).trans kk0
    have k15 : ai_hv t113 389 161 = some (.inl (σ 1 0)) := (e113 389 161 (by first | decide | omega)).trans kk1
    have k16 : ai_hv t113 389 162 = some (.inl (σ 2 0)) := (e113 389 162 (by first | decide | omega)).trans kk2
    have k17 : ai_hv t113 389 163 = some (.inl (σ 3 0)) := (e113 389 163 (by first | decide | omega)).trans kk3
    have k18 : ai_hv t113 389 164 = some (.inl (σ 4 0)) := (e113 389 164 (by first | decide | omega)).trans kk4
    have k19 : ai_hv t113 389 166 = some (.inl (σ 5 0)) := (e113 389 166 (by first | decide | omega)).trans kk5
    have k20 : ai_hv t113 389 167 = some (.inl (σ 6 0)) := (e113 389 167 (by first | decide | omega)).trans kk6
    have k21 : ai_hv t113 389 168 = some (.inl (σ 7 0)) := (e113 389 168 (by first | decide | omega)).trans kk7
    have k22 : ai_hv t113 383 20 = some (.inl (σ 8 0)) := (e113 383 20 (by first | decide | omega)).trans kk8
    refine ex_go (S := (29, [(1, .inl (σ 2 0)), (0, gx_r 383)], [.inl 236], t113, n, 0)) rfl (fun _ => rfl) rfl ?_
    refine ex_go (S := (30, [(1, .inl (σ 2 0)), (0, gx_r 383)], [.inl 3, .inl 236], t113, n, 0)) rfl (fun _ => rfl) rfl ?_
    refine ex_go (S := (31, [(1, .inl (σ 2 0)), (0, gx_r 383)], [.inl (σ 2 0), .inl 3, .inl 236], t113, n, 0)) rfl (fun _ => rfl) rfl ?_
    refine gx_imul rfl (by first | decide | omega) rfl ?_
    refine ex_iadd rfl (by first | decide | omega) rfl ?_
    refine ex_go (S := (34, [(2, .inl (236 + (3 * (σ 2 0)))), (1, .inl (σ 2 0)), (0, gx_r 383)], [], t113, n, 0)) rfl (fun _ => rfl) rfl ?_
    refine ex_go (S := (35, [(2, .inl (236 + (3 * (σ 2 0)))), (1, .inl (σ 2 0)), (0, gx_r 383)], [gx_r 383], t113, n, 0)) rfl (fun _ => rfl) rfl ?_
    refine gx_ref (c := 389) rfl s113.1 rfl rfl rfl rfl ?_
    refine ex_go (S := (39, [(2, .inl (236 + (3 * (σ 2 0)))), (1, .inl (σ 2 0)), (0, gx_r 383)], [.inl (236 + (3 * (σ 2 0))), gx_r 389], t113, n, 0)) rfl (fun _ => rfl) rfl ?_
    refine ex_go (S := (40, [(2, .inl (236 + (3 * (σ 2 0)))), (1, .inl (σ 2 0)), (0, gx_r 383)], [gx_r 383, .inl (236 + (3 * (σ 2 0))), gx_r 389], t113, n, 0)) rfl (fun _ => rfl) rfl ?_
    refine ex_go (S := (42, [(2, .inl (236 + (3 * (σ 2 0)))), (1, .inl (σ 2 0)), (0, gx_r 383)], [.inl 31, gx_r 383, .inl (236 + (3 * (σ 2 0))), gx_r 389], t113, n, 0)) rfl (fun _ => rfl) rfl ?_
    refine ex_go (S := (43, [(2, .inl (236 + (3 * (σ 2 0)))), (1, .inl (σ 2 0)), (0, gx_r 383)], [.inl 4, .inl 31, gx_r 383, .inl (236 + (3 * (σ 2 0))), gx_r 389], t113, n, 0)) rfl (fun _ => rfl) rfl ?_
    have hT24 := rT_keep (t' := t113) hT (fun c i h => e113 c i (by first | decide | omega))
    obtain ⟨_, r123, v123, t123, a123, f123, rfl, s123, e123, z123, q123⟩ := pf_takeOne (d + 1) n (s113) hT24 (by first | decide | omega) (w := 31) (mm := 4) (by first | decide | omega) (by first | decide | omega)
    have b123 := s123.2.2.2
    have y123 := z123.trans (congrArg (fo S m N 31 4) y113)
    refine gx_call1 rfl rfl s113.1 rfl rfl r123 rfl ?_
    have k25 : ai_hv t123 389 160 = some (.inl (σ 0 0)) := (e123 389 160 (by first | decide | omega)).trans k14
    have k26 : ai_hv t123 389 161 = some (.inl (σ 1 0)) := (e123 389 161 (by first | decide | omega)).trans k15
    have k27 : ai_hv t123 389 162 = some (.inl (σ 2 0)) := (e123 389 162 (by first | decide | omega)).trans k16
    have k28 : ai_hv t123 389 163 = some (.inl (σ 3 0)) := (e123 389 163 (by first | decide | omega)).trans k17
    have k29 : ai_hv t123 389 164 = some (.inl (σ 4 0)) := (e123 389 164 (by first | decide | omega)).trans k18
    have k30 : ai_hv t123 389 166 = some (.inl (σ 5 0)) := (e123 389 166 (by first | decide | omega)).trans k19
    have k31 : ai_hv t123 389 167 = some (.inl (σ 6 0)) := (e123 389 167 (by first | decide | omega)).trans k20
    have k32 : ai_hv t123 389 168 = some (.inl (σ 7 0)) := (e123 389 168 (by first | decide | omega)).trans k21
    have k33 : ai_hv t123 383 20 = some (.inl (σ 8 0)) := (e123 383 20 (by first | decide | omega)).trans k22
    refine gx_ap rfl (fun _ => rfl) s123.1 rfl rfl rfl (show 236 + (3 * (σ 2 0)) < 320 from by omega) (px_run_thing (3 * (σ 2 0)) (by first | decide | omega) (by first | decide | omega)) (ai_in_h (by first | decide | omega) (by first | decide | omega) (by first | decide | omega)) rfl (fun t134 g134 k134 e134 => ?_)
    have k35 : ai_hv t134 389 160 = some (.inl (σ 0 0)) := (e134 389 160 (by first | decide | omega)).trans k25
    have k36 : ai_hv t134 389 161 = some (.inl (σ 1 0)) := (e134 389 161 (by first | decide | omega)).trans k26
    have k37 : ai_hv t134 389 162 = some (.inl (σ 2 0)) := (e134 389 162 (by first | decide | omega)).trans k27
    have k38 : ai_hv t134 389 163 = some (.inl (σ 3 0)) := (e134 389 163 (by first | decide | omega)).trans k28
    have k39 : ai_hv t134 389 164 = some (.inl (σ 4 0)) := (e134 389 164 (by first | decide | omega)).trans k29
    have k40 : ai_hv t134 389 166 = some (.inl (σ 5 0)) := (e134 389 166 (by first | decide | omega)).trans k30
    have k41 : ai_hv t134 389 167 = some (.inl (σ 6 0)) := (e134 389 167 (by first | decide | omega)).trans k31
    have k42 : ai_hv t134 389 168 = some (.inl (σ 7 0)) := (e134 389 168 (by first | decide | omega)).trans k32
    have k43 : ai_hv t134 383 20 = some (.inl (σ 8 0)) := (e134 383 20 (by first | decide | omega)).trans k33
    have s134 : px_S t134 a123 f123 := ⟨g134, (e134 383 7 (by first | decide | omega)).trans s123.2.1, (e134 383 8 (by first | decide | omega)).trans s123.2.2.1, s123.2.2.2⟩
    refine ex_go (S := (48, [(2, .inl (236 + (3 * (σ 2 0)))), (1, .inl (σ 2 0)), (0, gx_r 383)], [gx_r 383], t134, n, 0)) rfl (fun _ => rfl) rfl ?_
    refine ex_go (S := (49, [(2, .inl (236 + (3 * (σ 2 0)))), (1, .inl (σ 2 0)), (0, gx_r 383)], [.inl 3, gx_r 383], t134, n, 0)) rfl (fun _ => rfl) rfl ?_
    have hT45 := rT_keep (t' := t134) hT (fun c i h => (e134 c i (by first | decide | omega)).trans ((e123 c i (by first | decide | omega)).trans (e113 c i (by first | decide | omega))))
    obtain ⟨_, r144, t144, a144, f144, rfl, s144, e144, z144, q144⟩ := pf_takeWord (d + 1) n (s134) hT45 (by first | decide | omega) (w := 3) (by first | decide | omega)
    have b144 := s144.2.2.2
    have y144 := z144.trans (congrArg (fw S m N 3) y123)
    refine gx_call0 rfl rfl s134.1 rfl rfl r144 rfl ?_
    have k46 : ai_hv t144 389 160 = some (.inl (σ 0 0)) := (e144 389 160 (by first | decide | omega)).trans k35
    have k47 : ai_hv t144 389 161 = some (.inl (σ 1 0)) := (e144 389 161 (by first | decide | omega)).trans k36
    have k48 : ai_hv t144 389 162 = some (.inl (σ 2 0)) := (e144 389 162 (by first | decide | omega)).trans k37
    have k49 : ai_hv t144 389 163 = some (.inl (σ 3 0)) := (e144 389 163 (by first | decide | omega)).trans k38
    have k50 : ai_hv t144 389 164 = some (.inl (σ 4 0)) := (e144 389 164 (by first | decide | omega)).trans k39
    have k51 : ai_hv t144 389 166 = some (.inl (σ 5 0)) := (e144 389 166 (by first | decide | omega)).trans k40
    have k52 : ai_hv t144 389 167 = some (.inl (σ 6 0)) := (e144 389 167 (by first | decide | omega)).trans k41
    have k53 : ai_hv t144 389 168 = some (.inl (σ 7 0)) := (e144 389 168 (by first | decide | omega)).trans k42
    have k54 : ai_hv t144 383 20 = some (.inl (σ 8 0)) := (e144 383 20 (by first | decide | omega)).trans k43
    have k55 : ai_hv t144 389 (236 + (3 * (σ 2 0))) = some (.inl v123) := (e144 389 (236 + (3 * (σ 2 0))) (by first | decide | omega)).trans k134
    refine ex_go (S := (53, [(2, .inl (236 + (3 * (σ 2 0)))), (1, .inl (σ 2 0)), (0, gx_r 383)], [gx_r 383], t144, n, 0)) rfl (fun _ => rfl) rfl ?_
    refine gx_ref (c := 389) rfl s144.1 rfl rfl rfl rfl ?_
    refine ex_go (S := (57, [(2, .inl (236 + (3 * (σ 2 0)))), (1, .inl (σ 2 0)), (0, gx_r 383)], [.inl (236 + (3 * (σ 2 0))), gx_r 389], t144, n, 0)) rfl (fun _ => rfl) rfl ?_
    refine ex_go (S := (58, [(2, .inl (236 + (3 * (σ 2 0)))), (1, .inl (σ 2 0)), (0, gx_r 383)], [.inl 1, .inl (236 + (3 * (σ 2 0))), gx_r 389], t144, n, 0)) rfl (fun _ => rfl) rfl ?_
    refine ex_iadd rfl (by first | decide | omega) rfl ?_
    refine ex_go (S := (60, [(2, .inl (236 + (3 * (σ 2 0)))), (1, .inl (σ 2 0)), (0, gx_r 383)], [gx_r 383, .inl ((236 + (3 * (σ 2 0))) + 1), gx_r 389], t144, n, 0)) rfl (fun _ => rfl) rfl ?_
    refine ex_go (S := (61, [(2, .inl (236 + (3 * (σ 2 0)))), (1, .inl (σ 2 0)), (0, gx_r 383)], [.inl 0, gx_r 383, .inl ((236 + (3 * (σ 2 0))) + 1), gx_r 389], t144, n, 0)) rfl (fun _ => rfl) rfl ?_
    refine ex_go (S := (62, [(2, .inl (236 + (3 * (σ 2 0)))), (1, .inl (σ 2 0)), (0, gx_r 383)], [gx_r 383, .inl 0, gx_r 383, .inl ((236 + (3 * (σ 2 0))) + 1), gx_r 389], t144, n, 0)) rfl (fun _ => rfl) rfl ?_
    obtain ⟨_, r56, rfl⟩ := pk_lastOver (d + 3) n s144.1 k46 (by first | decide | omega)
    refine gx_call1 rfl rfl s144.1 rfl rfl r56 rfl ?_
    have hT58 := rT_keep (t' := t144) hT (fun c i h => (e144 c i (by first | decide | omega)).trans ((e134 c i (by first | decide | omega)).trans ((e123 c i (by first | decide | omega)).trans (e113 c i (by first | decide | omega)))))
    obtain ⟨_, r157, v157, t157, a157, f157, rfl, s157, e157, z157, q157⟩ := pf_takeNumber (d + 2) n (s144) hT58 (by first | decide | omega) (lo := 0) (hi := σ 0 0 - 1) (by first | decide | omega) (by first | decide | omega)
    have b157 := s157.2.2.2
    have y157 := z157.trans (congrArg (fn S m N 0 (σ 0 0 - 1)) y144)
    refine gx_call1 rfl rfl s144.1 rfl rfl r157 rfl ?_
    have k59 : ai_hv t157 389 160 = some (.inl (σ 0 0)) := (e157 389 160 (by first | decide | omega)).trans k46
    have k60 : ai_hv t157 389 161 = some (.inl (σ 1 0)) := (e157 389 161 (by first | decide | omega)).trans k47
    have k61 : ai_hv t157 389 162 = some (.inl (σ 2 0)) := (e157 389 162 (by first | decide | omega)).trans k48
    have k62 : ai_hv t157 389 163 = some (.inl (σ 3 0)) := (e157 389 163 (by first | decide | omega)).trans k49
    have k63 : ai_hv t157 389 164 = some (.inl (σ 4 0)) := (e157 389 164 (by first | decide | omega)).trans k50
    have k64 : ai_hv t157 389 166 = some (.inl (σ 5 0)) := (e157 389 166 (by first | decide | omega)).trans k51
    have k65 : ai_hv t157 389 167 = some (.inl (σ 6 0)) := (e157 389 167 (by first | decide | omega)).trans k52
    have k66 : ai_hv t157 389 168 = some (.inl (σ 7 0)) := (e157 389 168 (by first | decide | omega)).trans k53
    have k67 : ai_hv t157 383 20 = some (.inl (σ 8 0)) := (e157 383 20 (by first | decide | omega)).trans k54
    have k68 : ai_hv t157 389 (236 + (3 * (σ 2 0))) = some (.inl v123) := (e157 389 (236 + (3 * (σ 2 0))) (by first | decide | omega)).trans k55
    refine gx_ap rfl (fun _ => rfl) s157.1 rfl rfl rfl (show (236 + (3 * (σ 2 0))) + 1 < 320 from by omega) (px_run_thing (3 * (σ 2 0) + 1) (by first | decide | omega) (by first | decide | omega)) (ai_in_h (by first | decide | omega) (by first | decide | omega) (by first | decide | omega)) rfl (fun t169 g169 k169 e169 => ?_)
    have k70 : ai_hv t169 389 160 = some (.inl (σ 0 0)) := (e169 389 160 (by first | decide | omega)).trans k59
    have k71 : ai_hv t169 389 161 = some (.inl (σ 1 0)) := (e169 389 161 (by first | decide | omega)).trans k60
    have k72 : ai_hv t169 389 162 = some (.inl (σ 2 0)) := (e169 389 162 (by first | decide | omega)).trans k61
    have k73 : ai_hv t169 389 163 = some (.inl (σ 3 0)) := (e169 389 163 (by first | decide | omega)).trans k62
    have k74 : ai_hv t169 389 164 = some (.inl (σ 4 0)) := (e169 389 164 (by first | decide | omega)).trans k63
    have k75 : ai_hv t169 389 166 = some (.inl (σ 5 0)) := (e169 389 166 (by first | decide | omega)).trans k64
    have k76 : ai_hv t169 389 167 = some (.inl (σ 6 0)) := (e169 389 167 (by first | decide | omega)).trans k65
    have k77 : ai_hv t169 389 168 = some (.inl (σ 7 0)) := (e169 389 168 (by first | decide | omega)).trans k66
    have k78 : ai_hv t169 383 20 = some (.inl (σ 8 0)) := (e169 383 20 (by first | decide | omega)).trans k67
    have k79 : ai_hv t169 389 (236 + (3 * (σ 2 0))) = some (.inl v123) := (e169 389 (236 + (3 * (σ 2 0))) (by first | decide | omega)).trans k68
    have s169 : px_S t169 a157 f157 := ⟨g169, (e169 383 7 (by first | decide | omega)).trans s157.2.1, (e169 383 8 (by first | decide | omega)).trans s157.2.2.1, s157.2.2.2⟩
    refine ex_go (S := (70, [(2, .inl (236 + (3 * (σ 2 0)))), (1, .inl (σ 2 0)), (0, gx_r 383)], [gx_r 383], t169, n, 0)) rfl (fun _ => rfl) rfl ?_
    refine gx_ref (c := 389) rfl s169.1 rfl rfl rfl rfl ?_
    refine ex_go (S := (74, [(2, .inl (236 + (3 * (σ 2 0)))), (1, .inl (σ 2 0)), (0, gx_r 383)], [.inl (236 + (3 * (σ 2 0))), gx_r 389], t169, n, 0)) rfl (fun _ => rfl) rfl ?_
    refine ex_go (S := (75, [(2, .inl (236 + (3 * (σ 2 0)))), (1, .inl (σ 2 0)), (0, gx_r 383)], [.inl 2, .inl (236 + (3 * (σ 2 0))), gx_r 389], t169, n, 0)) rfl (fun _ => rfl) rfl ?_
    refine ex_iadd rfl (by first | decide | omega) rfl ?_
    refine ex_go (S := (77, [(2, .inl (236 + (3 * (σ 2 0)))), (1, .inl (σ 2 0)), (0, gx_r 383)], [gx_r 383, .inl ((236 + (3 * (σ 2 0))) + 2), gx_r 389], t169, n, 0)) rfl (fun _ => rfl) rfl ?_
    refine ex_go (S := (78, [(2, .inl (236 + (3 * (σ 2 0)))), (1, .inl (σ 2 0)), (0, gx_r 383)], [.inl 0, gx_r 383, .inl ((236 + (3 * (σ 2 0))) + 2), gx_r 389], t169, n, 0)) rfl (fun _ => rfl) rfl ?_
    refine ex_go (S := (79, [(2, .inl (236 + (3 * (σ 2 0)))), (1, .inl (σ 2 0)), (0, gx_r 383)], [gx_r 383, .inl 0, gx_r 383, .inl ((236 + (3 * (σ 2 0))) + 2), gx_r 389], t169, n, 0)) rfl (fun _ => rfl) rfl ?_
    obtain ⟨_, r80, rfl⟩ := pk_lastDown (d + 3) n s169.1 k71 (by first | decide | omega)
    refine gx_call1 rfl rfl s169.1 rfl rfl r80 rfl ?_
    have hT82 := rT_keep (t' := t169) hT (fun c i h => (e169 c i (by first | decide | omega)).trans ((e157 c i (by first | decide | omega)).trans ((e144 c i (by first | decide | omega)).trans ((e134 c i (by first | decide | omega)).trans ((e123 c i (by first | decide | omega)).trans (e113 c i (by first | decide | omega)))))))
    obtain ⟨_, r181, v181, t181, a181, f181, rfl, s181, e181, z181, q181⟩ := pf_takeNumber (d + 2) n (s169) hT82 (by first | decide | omega) (lo := 0) (hi := σ 1 0 - 1) (by first | decide | omega) (by first | decide | omega)
    have b181 := s181.2.2.2
    have y181 := z181.trans (congrArg (fn S m N 0 (σ 1 0 - 1)) y157)
    refine gx_call1 rfl rfl s169.1 rfl rfl r181 rfl ?_
    have k83 : ai_hv t181 389 160 = some (.inl (σ 0 0)) := (e181 389 160 (by first | decide | omega)).trans k70
    have k84 : ai_hv t181 389 161 = some (.inl (σ 1 0)) := (e181 389 161 (by first | decide | omega)).trans k71
    have k85 : ai_hv t181 389 162 = some (.inl (σ 2 0)) := (e181 389 162 (by first | decide | omega)).trans k72
    have k86 : ai_hv t181 389 163 = some (.inl (σ 3 0)) := (e181 389 163 (by first | decide | omega)).trans k73
    have k87 : ai_hv t181 389 164 = some (.inl (σ 4 0)) := (e181 389 164 (by first | decide | omega)).trans k74
    have k88 : ai_hv t181 389 166 = some (.inl (σ 5 0)) := (e181 389 166 (by first | decide | omega)).trans k75
    have k89 : ai_hv t181 389 167 = some (.inl (σ 6 0)) := (e181 389 167 (by first | decide | omega)).trans k76
    have k90 : ai_hv t181 389 168 = some (.inl (σ 7 0)) := (e181 389 168 (by first | decide | omega)).trans k77
    have k91 : ai_hv t181 383 20 = some (.inl (σ 8 0)) := (e181 383 20 (by first | decide | omega)).trans k78
    have k92 : ai_hv t181 389 (236 + (3 * (σ 2 0))) = some (.inl v123) := (e181 389 (236 + (3 * (σ 2 0))) (by first | decide | omega)).trans k79
    have k93 : ai_hv t181 389 ((236 + (3 * (σ 2 0))) + 1) = some (.inl v157) := (e181 389 ((236 + (3 * (σ 2 0))) + 1) (by first | decide | omega)).trans k169
    refine gx_ap rfl (fun _ => rfl) s181.1 rfl rfl rfl (show (236 + (3 * (σ 2 0))) + 2 < 320 from by omega) (px_run_thing (3 * (σ 2 0) + 2) (by first | decide | omega) (by first | decide | omega)) (ai_in_h (by first | decide | omega) (by first | decide | omega) (by first | decide | omega)) rfl (fun t194 g194 k194 e194 => ?_)
    have k95 : ai_hv t194 389 160 = some (.inl (σ 0 0)) := (e194 389 160 (by first | decide | omega)).trans k83
    have k96 : ai_hv t194 389 161 = some (.inl (σ 1 0)) := (e194 389 161 (by first | decide | omega)).trans k84
    have k97 : ai_hv t194 389 162 = some (.inl (σ 2 0)) := (e194 389 162 (by first | decide | omega)).trans k85
    have k98 : ai_hv t194 389 163 = some (.inl (σ 3 0)) := (e194 389 163 (by first | decide | omega)).trans k86
    have k99 : ai_hv t194 389 164 = some (.inl (σ 4 0)) := (e194 389 164 (by first | decide | omega)).trans k87
    have k100 : ai_hv t194 389 166 = some (.inl (σ 5 0)) := (e194 389 166 (by first | decide | omega)).trans k88
    have k101 : ai_hv t194 389 167 = some (.inl (σ 6 0)) := (e194 389 167 (by first | decide | omega)).trans k89
    have k102 : ai_hv t194 389 168 = some (.inl (σ 7 0)) := (e194 389 168 (by first | decide | omega)).trans k90
    have k103 : ai_hv t194 383 20 = some (.inl (σ 8 0)) := (e194 383 20 (by first | decide | omega)).trans k91
    have k104 : ai_hv t194 389 (236 + (3 * (σ 2 0))) = some (.inl v123) := (e194 389 (236 + (3 * (σ 2 0))) (by first | decide | omega)).trans k92
    have k105 : ai_hv t194 389 ((236 + (3 * (σ 2 0))) + 1) = some (.inl v157) := (e194 389 ((236 + (3 * (σ 2 0))) + 1) (by first | decide | omega)).trans k93
    have s194 : px_S t194 a181 f181 := ⟨g194, (e194 383 7 (by first | decide | omega)).trans s181.2.1, (e194 383 8 (by first | decide | omega)).trans s181.2.2.1, s181.2.2.2⟩
    refine ex_go (S := (87, [(2, .inl (236 + (3 * (σ 2 0)))), (1, .inl (σ 2 0)), (0, gx_r 383)], [gx_r 383], t194, n, 0)) rfl (fun _ => rfl) rfl ?_
    refine gx_ref (c := 389) rfl s194.1 rfl rfl rfl rfl ?_
    refine ex_go (S := (93, [(2, .inl (236 + (3 * (σ 2 0)))), (1, .inl (σ 2 0)), (0, gx_r 383)], [.inl 162, gx_r 389], t194, n, 0)) rfl (fun _ => rfl) rfl ?_
    refine ex_go (S := (94, [(2, .inl (236 + (3 * (σ 2 0)))), (1, .inl (σ 2 0)), (0, gx_r 383)], [.inl 162, gx_r 389, .inl 162, gx_r 389], t194, n, 0)) rfl (fun _ => rfl) rfl ?_
    refine gx_ag (v := .inl (σ 2 0)) (cb := fun c => Nat.beq c 0) rfl (fun _ => rfl) s194.1 rfl rfl k97 (by first | decide | omega) rfl ?_
    refine ex_go (S := (96, [(2, .inl (236 + (3 * (σ 2 0)))), (1, .inl (σ 2 0)), (0, gx_r 383)], [.inl 1, .inl (σ 2 0), .inl 162, gx_r 389], t194, n, 0)) rfl (fun _ => rfl) rfl ?_
    refine ex_iadd rfl (by first | decide | omega) rfl ?_
    refine gx_ap rfl (fun _ => rfl) s194.1 rfl rfl rfl (show 162 < 320 from by omega) rfl (ai_in_h (by first | decide | omega) (by first | decide | omega) (by first | decide | omega)) rfl (fun t206 g206 k206 e206 => ?_)
    have k107 : ai_hv t206 389 160 = some (.inl (σ 0 0)) := (e206 389 160 (by first | decide | omega)).trans k95
    have k108 : ai_hv t206 389 161 = some (.inl (σ 1 0)) := (e206 389 161 (by first | decide | omega)).trans k96
    have k109 : ai_hv t206 389 163 = some (.inl (σ 3 0)) := (e206 389 163 (by first | decide | omega)).trans k98
    have k110 : ai_hv t206 389 164 = some (.inl (σ 4 0)) := (e206 389 164 (by first | decide | omega)).trans k99
    have k111 : ai_hv t206 389 166 = some (.inl (σ 5 0)) := (e206 389 166 (by first | decide | omega)).trans k100
    have k112 : ai_hv t206 389 167 = some (.inl (σ 6 0)) := (e206 389 167 (by first | decide | omega)).trans k101
    have k113 : ai_hv t206 389 168 = some (.inl (σ 7 0)) := (e206 389 168 (by first | decide | omega)).trans k102
    have k114 : ai_hv t206 383 20 = some (.inl (σ 8 0)) := (e206 383 20 (by first | decide | omega)).trans k103
    have k115 : ai_hv t206 389 (236 + (3 * (σ 2 0))) = some (.inl v123) := (e206 389 (236 + (3 * (σ 2 0))) (by first | decide | omega)).trans k104
    have k116 : ai_hv t206 389 ((236 + (3 * (σ 2 0))) + 1) = some (.inl v157) := (e206 389 ((236 + (3 * (σ 2 0))) + 1) (by first | decide | omega)).trans k105
    have k117 : ai_hv t206 389 ((236 + (3 * (σ 2 0))) + 2) = some (.inl v181) := (e206 389 ((236 + (3 * (σ 2 0))) + 2) (by first | decide | omega)).trans k194
    have s206 : px_S t206 a181 f181 := ⟨g206, (e206 383 7 (by first | decide | omega)).trans s194.2.1, (e206 383 8 (by first | decide | omega)).trans s194.2.2.1, s194.2.2.2⟩
    refine ex_ret (r := (none, t206, n, 0)) rfl (fun _ => rfl) ?_
    have hT118 := rT_keep (t' := t206) hT (fun c i h => (e206 c i (by first | decide | omega)).trans ((e194 c i (by first | decide | omega)).trans ((e181 c i (by first | decide | omega)).trans ((e169 c i (by first | decide | omega)).trans ((e157 c i (by first | decide | omega)).trans ((e144 c i (by first | decide | omega)).trans ((e134 c i (by first | decide | omega)).trans ((e123 c i (by first | decide | omega)).trans (e113 c i (by first | decide | omega))))))))))
    refine ⟨_, rfl, t206, a181, f181, rfl, s206, hT118, y181, by omega, fun h0 => ⟨by omega, ?_⟩⟩
    obtain ⟨w1, w2, w3, w4, w5⟩ := u113 (by first | decide | omega)
    have x9 : RN t206 S m σ := fun k hk => ⟨((e206 393 k (by first | decide | omega)).trans ((e194 393 k (by first | decide | omega)).trans ((e181 393 k (by first | decide | omega)).trans ((e169 393 k (by first | decide | omega)).trans ((e157 393 k (by first | decide | omega)).trans ((e144 393 k (by first | decide | omega)).trans ((e134 393 k (by first | decide | omega)).trans (e123 393 k (by first | decide | omega))))))))).trans (w3 k hk).1, ((e206 395 k (by first | decide | omega)).trans ((e194 395 k (by first | decide | omega)).trans ((e181 395 k (by first | decide | omega)).trans ((e169 395 k (by first | decide | omega)).trans ((e157 395 k (by first | decide | omega)).trans ((e144 395 k (by first | decide | omega)).trans ((e134 395 k (by first | decide | omega)).trans (e123 395 k (by first | decide | omega))))))))).trans (w3 k hk).2⟩
    have x8 := RN_up (a := a + 1) (z := 16) (i := σ 2 0) (by first | decide | omega) x9 (((e206 393 (σ 15 0) (by first | decide | omega)).trans ((e194 393 (σ 15 0) (by first | decide | omega)).trans ((e181 393 (σ 15 0) (by first | decide | omega)).trans ((e169 393 (σ 15 0) (by first | decide | omega)).trans ((e157 393 (σ 15 0) (by first | decide | omega)).trans ((e144 393 (σ 15 0) (by first | decide | omega)).trans ((e134 393 (σ 15 0) (by first | decide | omega)).trans (e123 393 (σ 15 0) (by first | decide | omega))))))))).trans w4) (((e206 395 (σ 15 0) (by first | decide | omega)).trans ((e194 395 (σ 15 0) (by first | decide | omega)).trans ((e181 395 (σ 15 0) (by first | decide | omega)).trans ((e169 395 (σ 15 0) (by first | decide | omega)).trans ((e157 395 (σ 15 0) (by first | decide | omega)).trans ((e144 395 (σ 15 0) (by first | decide | omega)).trans ((e134 395 (σ 15 0) (by first | decide | omega)).trans (e123 395 (σ 15 0) (by first | decide | omega))))))))).trans w5)
    have xk119 : rows t206 389 236 3 (σ 2 0) (σ 10) := rows_keep hRk (fun i hi => (e206 389 (236 + 3 * i) (by first | decide | omega)).trans ((e194 389 (236 + 3 * i) (by first | decide | omega)).trans ((e181 389 (236 + 3 * i) (by first | decide | omega)).trans ((e169 389 (236 + 3 * i) (by first | decide | omega)).trans ((e157 389 (236 + 3 * i) (by first | decide | omega)).trans ((e144 389 (236 + 3 * i) (by first | decide | omega)).trans ((e134 389 (236 + 3 * i) (by first | decide | omega)).trans ((e123 389 (236 + 3 * i) (by first | decide | omega)).trans (e113 389 (236 + 3 * i) (by first | decide | omega))))))))))
    have x7 : ai_hv t206 389 (236 + 3 * σ 2 0) = some (.inl (sp_ki S m N (a + 2))) := by
      have h9 := q123.2 (by first | decide | omega)
      rw [show a113 = a + 2 by omega] at h9
      rw [sp_ki_eq (by first | decide | omega) h9]
      exact k115
    have xb120 : rows t206 389 237 3 (σ 2 0) (fun i => sp_nv S m (σ 16 i + 3)) := rows_keep hb0 (fun i hi => (e206 389 (237 + 3 * i) (by first | decide | omega)).trans ((e194 389 (237 + 3 * i) (by first | decide | omega)).trans ((e181 389 (237 + 3 * i) (by first | decide | omega)).trans ((e169 389 (237 + 3 * i) (by first | decide | omega)).trans ((e157 389 (237 + 3 * i) (by first | decide | omega)).trans ((e144 389 (237 + 3 * i) (by first | decide | omega)).trans ((e134 389 (237 + 3 * i) (by first | decide | omega)).trans ((e123 389 (237 + 3 * i) (by first | decide | omega)).trans (e113 389 (237 + 3 * i) (by first | decide | omega))))))))))
    have hnv121 : ai_hv t206 389 (237 + 3 * σ 2 0) = some (.inl (sp_nv S m (a + 1 + 3))) := by
      have h9 : v157 = sp_nv S m (a + 4) := by rw [← show a144 = a + 4 by omega]; omega
      show _ = some (Sum.inl (sp_nv S m (a + 4)))
      rw [← h9, show 237 + 3 * σ 2 0 = (236 + (3 * (σ 2 0))) + 1 by omega]
      exact k116
    have xb122 : rows t206 389 238 3 (σ 2 0) (fun i => sp_nv S m (σ 16 i + 4)) := rows_keep hb1 (fun i hi => (e206 389 (238 + 3 * i) (by first | decide | omega)).trans ((e194 389 (238 + 3 * i) (by first | decide | omega)).trans ((e181 389 (238 + 3 * i) (by first | decide | omega)).trans ((e169 389 (238 + 3 * i) (by first | decide | omega)).trans ((e157 389 (238 + 3 * i) (by first | decide | omega)).trans ((e144 389 (238 + 3 * i) (by first | decide | omega)).trans ((e134 389 (238 + 3 * i) (by first | decide | omega)).trans ((e123 389 (238 + 3 * i) (by first | decide | omega)).trans (e113 389 (238 + 3 * i) (by first | decide | omega))))))))))
    have hnv123 : ai_hv t206 389 (238 + 3 * σ 2 0) = some (.inl (sp_nv S m (a + 1 + 4))) := by
      have h9 : v181 = sp_nv S m (a + 5) := by rw [← show a157 = a + 5 by omega]; omega
      show _ = some (Sum.inl (sp_nv S m (a + 5)))
      rw [← h9, show 238 + 3 * σ 2 0 = (236 + (3 * (σ 2 0))) + 2 by omega]
      exact k117
    have xb124 : rows t206 389 255 4 (σ 3 0) (fun i => sp_nv S m (σ 20 i + 4)) := rows_keep hb2 (fun i hi => (e206 389 (255 + 4 * i) (by first | decide | omega)).trans ((e194 389 (255 + 4 * i) (by first | decide | omega)).trans ((e181 389 (255 + 4 * i) (by first | decide | omega)).trans ((e169 389 (255 + 4 * i) (by first | decide | omega)).trans ((e157 389 (255 + 4 * i) (by first | decide | omega)).trans ((e144 389 (255 + 4 * i) (by first | decide | omega)).trans ((e134 389 (255 + 4 * i) (by first | decide | omega)).trans ((e123 389 (255 + 4 * i) (by first | decide | omega)).trans (e113 389 (255 + 4 * i) (by first | decide | omega))))))))))
    have xb125 : rows t206 389 256 4 (σ 3 0) (fun i => sp_nv S m (σ 20 i + 6)) := rows_keep hb3 (fun i hi => (e206 389 (256 + 4 * i) (by first | decide | omega)).trans ((e194 389 (256 + 4 * i) (by first | decide | omega)).trans ((e181 389 (256 + 4 * i) (by first | decide | omega)).trans ((e169 389 (256 + 4 * i) (by first | decide | omega)).trans ((e157 389 (256 + 4 * i) (by first | decide | omega)).trans ((e144 389 (256 + 4 * i) (by first | decide | omega)).trans ((e134 389 (256 + 4 * i) (by first | decide | omega)).trans ((e123 389 (256 + 4 * i) (by first | decide | omega)).trans (e113 389 (256 + 4 * i) (by first | decide | omega))))))))))
    have xb126 : rows t206 389 257 4 (σ 3 0) (fun i => sp_nv S m (σ 20 i + 8)) := rows_keep hb4 (fun i hi => (e206 389 (257 + 4 * i) (by first | decide | omega)).trans ((e194 389 (257 + 4 * i) (by first | decide | omega)).trans ((e181 389 (257 + 4 * i) (by first | decide | omega)).trans ((e169 389 (257 + 4 * i) (by first | decide | omega)).trans ((e157 389 (257 + 4 * i) (by first | decide | omega)).trans ((e144 389 (257 + 4 * i) (by first | decide | omega)).trans ((e134 389 (257 + 4 * i) (by first | decide | omega)).trans ((e123 389 (257 + 4 * i) (by first | decide | omega)).trans (e113 389 (257 + 4 * i) (by first | decide | omega))))))))))
    have xb127 : rows t206 389 279 3 (σ 4 0) (fun i => sp_nv S m (σ 21 i + 3)) := rows_keep hb5 (fun i hi => (e206 389 (279 + 3 * i) (by first | decide | omega)).trans ((e194 389 (279 + 3 * i) (by first | decide | omega)).trans ((e181 389 (279 + 3 * i) (by first | decide | omega)).trans ((e169 389 (279 + 3 * i) (by first | decide | omega)).trans ((e157 389 (279 + 3 * i) (by first | decide | omega)).trans ((e144 389 (279 + 3 * i) (by first | decide | omega)).trans ((e134 389 (279 + 3 * i) (by first | decide | omega)).trans ((e123 389 (279 + 3 * i) (by first | decide | omega)).trans (e113 389 (279 + 3 * i) (by first | decide | omega))))))))))
    have xb128 : rows t206 389 280 3 (σ 4 0) (fun i => sp_nv S m (σ 21 i + 5)) := rows_keep hb6 (fun i hi => (e206 389 (280 + 3 * i) (by first | decide | omega)).trans ((e194 389 (280 + 3 * i) (by first | decide | omega)).trans ((e181 389 (280 + 3 * i) (by first | decide | omega)).trans ((e169 389 (280 + 3 * i) (by first | decide | omega)).trans ((e157 389 (280 + 3 * i) (by first | decide | omega)).trans ((e144 389 (280 + 3 * i) (by first | decide | omega)).trans ((e134 389 (280 + 3 * i) (by first | decide | omega)).trans ((e123 389 (280 + 3 * i) (by first | decide | omega)).trans (e113 389 (280 + 3 * i) (by first | decide | omega))))))))))
    have xb129 : rows t206 389 284 2 (σ 5 0) (fun i => sp_nv S m (σ 17 i + 2)) := rows_keep hb7 (fun i hi => (e206 389 (284 + 2 * i) (by first | decide | omega)).trans ((e194 389 (284 + 2 * i) (by first | decide | omega)).trans ((e181 389 (284 + 2 * i) (by first | decide | omega)).trans ((e169 389 (284 + 2 * i) (by first | decide | omega)).trans ((e157 389 (284 + 2 * i) (by first | decide | omega)).trans ((e144 389 (284 + 2 * i) (by first | decide | omega)).trans ((e134 389 (284 + 2 * i) (by first | decide | omega)).trans ((e123 389 (284 + 2 * i) (by first | decide | omega)).trans (e113 389 (284 + 2 * i) (by first | decide | omega))))))))))
    have xb130 : rows t206 389 285 2 (σ 5 0) (fun i => sp_nv S m (σ 17 i + 4)) := rows_keep hb8 (fun i hi => (e206 389 (285 + 2 * i) (by first | decide | omega)).trans ((e194 389 (285 + 2 * i) (by first | decide | omega)).trans ((e181 389 (285 + 2 * i) (by first | decide | omega)).trans ((e169 389 (285 + 2 * i) (by first | decide | omega)).trans ((e157 389 (285 + 2 * i) (by first | decide | omega)).trans ((e144 389 (285 + 2 * i) (by first | decide | omega)).trans ((e134 389 (285 + 2 * i) (by first | decide | omega)).trans ((e123 389 (285 + 2 * i) (by first | decide | omega)).trans (e113 389 (285 + 2 * i) (by first | decide | omega))))))))))
    have xb131 : rows t206 389 294 1 (σ 6 0) (fun i => sp_nv S m (σ 18 i + 2)) := rows_keep hb9 (fun i hi => (e206 389 (294 + 1 * i) (by first | decide | omega)).trans ((e194 389 (294 + 1 * i) (by first | decide | omega)).trans ((e181 389 (294 + 1 * i) (by first | decide | omega)).trans ((e169 389 (294 + 1 * i) (by first | decide | omega)).trans ((e157 389 (294 + 1 * i) (by first | decide | omega)).trans ((e144 389 (294 + 1 * i) (by first | decide | omega)).trans ((e134 389 (294 + 1 * i) (by first | decide | omega)).trans ((e123 389 (294 + 1 * i) (by first | decide | omega)).trans (e113 389 (294 + 1 * i) (by first | decide | omega))))))))))
    have xb132 : rows t206 389 300 2 (σ 7 0) (fun i => sp_nv S m (σ 19 i + 2)) := rows_keep hb10 (fun i hi => (e206 389 (300 + 2 * i) (by first | decide | omega)).trans ((e194 389 (300 + 2 * i) (by first | decide | omega)).trans ((e181 389 (300 + 2 * i) (by first | decide | omega)).trans ((e169 389 (300 + 2 * i) (by first | decide | omega)).trans ((e157 389 (300 + 2 * i) (by first | decide | omega)).trans ((e144 389 (300 + 2 * i) (by first | decide | omega)).trans ((e134 389 (300 + 2 * i) (by first | decide | omega)).trans ((e123 389 (300 + 2 * i) (by first | decide | omega)).trans (e113 389 (300 + 2 * i) (by first | decide | omega))))))))))
    have xb133 : rows t206 389 301 2 (σ 7 0) (fun i => sp_nv S m (σ 19 i + 4)) := rows_keep hb11 (fun i hi => (e206 389 (301 + 2 * i) (by first | decide | omega)).trans ((e194 389 (301 + 2 * i) (by first | decide | omega)).trans ((e181 389 (301 + 2 * i) (by first | decide | omega)).trans ((e169 389 (301 + 2 * i) (by first | decide | omega)).trans ((e157 389 (301 + 2 * i) (by first | decide | omega)).trans ((e144 389 (301 + 2 * i) (by first | decide | omega)).trans ((e134 389 (301 + 2 * i) (by first | decide | omega)).trans ((e123 389 (301 + 2 * i) (by first | decide | omega)).trans (e113 389 (301 + 2 * i) (by first | decide | omega))))))))))
    have xb134 : rows t206 389 172 1 64 (σ 23) := rows_keep hb13 (fun i hi => (e206 389 (172 + 1 * i) (by first | decide | omega)).trans ((e194 389 (172 + 1 * i) (by first | decide | omega)).trans ((e181 389 (172 + 1 * i) (by first | decide | omega)).trans ((e169 389 (172 + 1 * i) (by first | decide | omega)).trans ((e157 389 (172 + 1 * i) (by first | decide | omega)).trans ((e144 389 (172 + 1 * i) (by first | decide | omega)).trans ((e134 389 (172 + 1 * i) (by first | decide | omega)).trans ((e123 389 (172 + 1 * i) (by first | decide | omega)).trans (e113 389 (172 + 1 * i) (by first | decide | omega))))))))))
    have xk135 : rows t206 389 254 4 (σ 3 0) (σ 11) := rows_keep hRl (fun i hi => (e206 389 (254 + 4 * i) (by first | decide | omega)).trans ((e194 389 (254 + 4 * i) (by first | decide | omega)).trans ((e181 389 (254 + 4 * i) (by first | decide | omega)).trans ((e169 389 (254 + 4 * i) (by first | decide | omega)).trans ((e157 389 (254 + 4 * i) (by first | decide | omega)).trans ((e144 389 (254 + 4 * i) (by first | decide | omega)).trans ((e134 389 (254 + 4 * i) (by first | decide | omega)).trans ((e123 389 (254 + 4 * i) (by first | decide | omega)).trans (e113 389 (254 + 4 * i) (by first | decide | omega))))))))))
    have xk136 : rows t206 389 278 3 (σ 4 0) (σ 12) := rows_keep hRs (fun i hi => (e206 389 (278 + 3 * i) (by first | decide | omega)).trans ((e194 389 (278 + 3 * i) (by first | decide | omega)).trans ((e181 389 (278 + 3 * i) (by first | decide | omega)).trans ((e169 389 (278 + 3 * i) (by first | decide | omega)).trans ((e157 389 (278 + 3 * i) (by first | decide | omega)).trans ((e144 389 (278 + 3 * i) (by first | decide | omega)).trans ((e134 389 (278 + 3 * i) (by first | decide | omega)).trans ((e123 389 (278 + 3 * i) (by first | decide | omega)).trans (e113 389 (278 + 3 * i) (by first | decide | omega))))))))))
    exact ⟨⟨k107, k108, k206, k109, k110, k111, k112, k113, k114, ((e206 383 19 (by first | decide | omega)).trans ((e194 383 19 (by first | decide | omega)).trans ((e181 383 19 (by first | decide | omega)).trans ((e169 383 19 (by first | decide | omega)).trans ((e157 383 19 (by first | decide | omega)).trans ((e144 383 19 (by first | decide | omega)).trans ((e134 383 19 (by first | decide | omega)).trans (e123 383 19 (by first | decide | omega))))))))).trans w2⟩, fun k hk => by
        rcases hRL k hk with ⟨h1, h2⟩ | ⟨h1, z, h2, h3⟩
        · exact Or.inl ⟨h1, ((e206 389 (169 + k) (by first | decide | omega)).trans ((e194 389 (169 + k) (by first | decide | omega)).trans ((e181 389 (169 + k) (by first | decide | omega)).trans ((e169 389 (169 + k) (by first | decide | omega)).trans ((e157 389 (169 + k) (by first | decide | omega)).trans ((e144 389 (169 + k) (by first | decide | omega)).trans ((e134 389 (169 + k) (by first | decide | omega)).trans ((e123 389 (169 + k) (by first | decide | omega)).trans (e113 389 (169 + k) (by first | decide | omega)))))))))).trans h2⟩
        · exact Or.inr ⟨h1, z, ((e206 389 (169 + k) (by first | decide | omega)).trans ((e194 389 (169 + k) (by first | decide | omega)).trans ((e181 389 (169 + k) (by first | decide | omega)).trans ((e169 389 (169 + k) (by first | decide | omega)).trans ((e157 389 (169 + k) (by first | decide | omega)).trans ((e144 389 (169 + k) (by first | decide | omega)).trans ((e134 389 (169 + k) (by first | decide | omega)).trans ((e123 389 (169 + k) (by first | decide | omega)).trans (e113 389 (169 + k) (by first | decide | omega)))))))))).trans h2, h3⟩, rows_up (xk119) x7, xk135, xk136, x8, rows_tk (g := σ 16) xb120 hnv121, rows_tk (g := σ 16) xb122 hnv123, xb124, xb125, xb126, xb127, xb128, xb129, xb130, xb131, xb132, xb133, ((e206 389 165 (by first | decide | omega)).trans ((e194 389 165 (by first | decide | omega)).trans ((e181 389 165 (by first | decide | omega)).trans ((e169 389 165 (by first | decide | omega)).trans ((e157 389 165 (by first | decide | omega)).trans ((e144 389 165 (by first | decide | omega)).trans ((e134 389 165 (by first | decide | omega)).trans ((e123 389 165 (by first | decide | omega)).trans (e113 389 165 (by first | decide | omega)))))))))).trans hb12, xb134⟩
theorem pe_readGap (d n : Nat) {t0 : en_H} {a : Nat} {S : Nat → Nat} {m N : Nat} {σ : Nat → Nat → Nat} (s0 : px_S t0 a 0) (hT : rT t0 S m N) (ha : a < N) (hA : RA t0 S m σ) (hB : WB σ) (hK : NK S m N σ) : ∃ r, en_u (d + 5) 190 [gx_r 383] t0 n = some r ∧ ∃ t' a' f', r = (none, t', n, 0) ∧ px_S t' a' f' ∧ rT t' S m N ∧ (a', f') = sl_gap S m N σ a ∧ a' ≤ N ∧ (f' = 0 → a < a' ∧ RA t' S m (sn_gap σ a)) := by
  have b0 := s0.2.2.2
  have hN := hT.2.2.2.2.1
  obtain ⟨⟨kk0, kk1, kk2, kk3, kk4, kk5, kk6, kk7, kk8, kk9⟩, hRL, hRk, hRl, hRs, hRN, hb0, hb1, hb2, hb3, hb4, hb5, hb6, hb7, hb8, hb9, hb10, hb11, hb12, hb13⟩ := hA
  have hBB := hB.1
  refine en_u_ex (d := d + 4) rfl ?_
  show en_ex _ _ _ _ (0, [(0, gx_r 383)], [], t0, n, 0) _
  refine ex_go (S := (1, [(0, gx_r 383)], [gx_r 383], t0, n, 0)) rfl (fun _ => rfl) rfl ?_
  refine gx_ref (c := 389) rfl s0.1 rfl rfl rfl rfl ?_
  refine ex_go (S := (7, [(0, gx_r 383)], [.inl 166, gx_r 389], t0, n, 0)) rfl (fun _ => rfl) rfl ?_
  refine gx_ag (v := .inl (σ 5 0)) (cb := fun c => Nat.beq c 0) rfl (fun _ => rfl) s0.1 rfl rfl kk5 (by first | decide | omega) rfl ?_
  refine ex_go (S := (9, [(1, .inl (σ 5 0)), (0, gx_r 383)], [], t0, n, 0)) rfl (fun _ => rfl) rfl ?_
  refine ex_go (S := (10, [(1, .inl (σ 5 0)), (0, gx_r 383)], [.inl (σ 5 0)], t0, n, 0)) rfl (fun _ => rfl) rfl ?_
  refine ex_go (S := (11, [(1, .inl (σ 5 0)), (0, gx_r 383)], [.inl 5, .inl (σ 5 0)], t0, n, 0)) rfl (fun _ => rfl) rfl ?_
  by_cases hful : σ 5 0 = 5
  · refine gx_2f (c := .ne) rfl (by first | decide | omega) (by first | decide | omega) (show ¬ (σ 5 0 ≠ 5) from by omega) rfl ?_
    refine ex_go (S := (15, [(1, .inl (σ 5 0)), (0, gx_r 383)], [gx_r 383], t0, n, 0)) rfl (fun _ => rfl) rfl ?_
    refine ex_go (S := (16, [(1, .inl (σ 5 0)), (0, gx_r 383)], [.inl 5, gx_r 383], t0, n, 0)) rfl (fun _ => rfl) rfl ?_
    obtain ⟨_, r101, t101, a101, f101, rfl, s101, e101, q101⟩ := pe_wrong (d + 3) n (s0) hT (by first | decide | omega) (w := 5) (by first | decide | omega)
    have b101 := s101.2.2.2
    have hT101 := rT_keep hT (fun c i h => e101 c i (by first | decide | omega))
    refine gx_call0 rfl rfl s0.1 rfl rfl r101 rfl ?_
    have k2 : ai_hv t101 389 160 = some (.inl (σ 0 0)) := (e101 389 160 (by first | decide | omega)).trans kk0
    have k3 : ai_hv t101 389 161 = some (.inl (σ 1 0)) := (e101 389 161 (by first | decide | omega)).trans kk1
    have k4 : ai_hv t101 389 162 = some (.inl (σ 2 0)) := (e101 389 162 (by first | decide | omega)).trans kk2
    have k5 : ai_hv t101 389 163 = some (.inl (σ 3 0)) := (e101 389 163 (by first | decide | omega)).trans kk3
    have k6 : ai_hv t101 389 164 = some (.inl (σ 4 0)) := (e101 389 164 (by first | decide | omega)).trans kk4
    have k7 : ai_hv t101 389 166 = some (.inl (σ 5 0)) := (e101 389 166 (by first | decide | omega)).trans kk5
    have k8 : ai_hv t101 389 167 = some (.inl (σ 6 0)) := (e101 389 167 (by first | decide | omega)).trans kk6
    have k9 : ai_hv t101 389 168 = some (.inl (σ 7 0)) := (e101 389 168 (by first | decide | omega)).trans kk7
    have k10 : ai_hv t101 383 20 = some (.inl (σ 8 0)) := (e101 383 20 (by first | decide | omega)).trans kk8
    have k11 : ai_hv t101 383 19 = some (.inl (σ 15 0)) := (e101 383 19 (by first | decide | omega)).trans kk9
    refine ex_ret (r := (none, t101, n, 0)) rfl (fun _ => rfl) ?_
    have hT12 := rT_keep (t' := t101) hT (fun c i h => e101 c i (by first | decide | omega))
    refine ⟨_, rfl, t101, a101, f101, rfl, s101, hT12, ?_, by omega, fun h0 => by omega⟩
    rw [show a101 = a by omega, show f101 = 5 + 16 * sp_st S m a by omega]
    unfold sl_gap
    have h5 : 5 + 16 * sp_st S m a ≠ 0 := by omega
    rw [fr_w hful, fm_no h5, fw_no h5, fn_no h5, fw_no h5, fn_no h5]
  · refine gx_2t (c := .ne) rfl (by first | decide | omega) (by first | decide | omega) (show σ 5 0 ≠ 5 from by omega) rfl ?_
    refine ex_go (S := (21, [(1, .inl (σ 5 0)), (0, gx_r 383)], [gx_r 383], t0, n, 0)) rfl (fun _ => rfl) rfl ?_
    refine ex_go (S := (23, [(1, .inl (σ 5 0)), (0, gx_r 383)], [.inl 20, gx_r 383], t0, n, 0)) rfl (fun _ => rfl) rfl ?_
    obtain ⟨_, r113, t113, a113, f113, rfl, s113, e113, z113, q113, u113⟩ := pe_readName d n (s0) hT ha (w := 20) (by first | decide | omega) kk9 hRN hK
    have b113 := s113.2.2.2
    have y113 : (a113, f113) = fm S m N (sg_told S m σ) (fr S m (σ 5 0 = 5) 5 (a, 0)) := z113.trans (congrArg (fm S m N (sg_told S m σ)) (fr_yes hful).symm)
    refine gx_call0 rfl rfl s0.1 rfl rfl r113 rfl ?_
    have k14 : ai_hv t113 389 160 = some (.inl (σ 0 0)) := (e113 389 160 (by first | decide | omega)).trans kk0
    have k15 : ai_hv t113 389 161 = some (.inl (σ 1 0)) := (e113 389 161 (by first | decide | omega)).trans kk1
    have k16 : ai_hv t113 389 162 = some (.inl (σ 2 0)) := (e113 389 162 (by first | decide | omega)).trans kk2
    have k17 : ai_hv t113 389 163 = some (.inl (σ 3 0)) := (e113 389 163 (by first | decide | omega)).trans kk3
    have k18 : ai_hv t113 389 164 = some (.inl (σ 4 0)) := (e113 389 164 (by first | decide | omega)).trans kk4
    have k19 : ai_hv t113 389 166 = some (.inl (σ 5 0)) := (e113 389 166 (by first | decide | omega)).trans kk5
    have k20 : ai_hv t113 389 167 = some (.inl (σ 6 0)) := (e113 389 167 (by first | decide | omega)).trans kk6
    have k21 : ai_hv t113 389 168 = some (.inl (σ 7 0)) := (e113 389 168 (by first | decide | omega)).trans kk7
    have k22 : ai_hv t113 383 20 = some (.inl (σ 8 0)) := (e113 383 20 (by first | decide | omega)).trans kk8
    refine ex_go (S := (27, [(1, .inl (σ 5 0)), (0, gx_r 383)], [gx_r 383], t113, n, 0)) rfl (fun _ => rfl) rfl ?_
    refine gx_ref (c := 389) rfl s113.1 rfl rfl rfl rfl ?_
    refine ex_go (S := (33, [(1, .inl (σ 5 0)), (0, gx_r 383)], [.inl 284, gx_r 389], t113, n, 0)) rfl (fun _ => rfl) rfl ?_
    refine ex_go (S := (34, [(1, .inl (σ 5 0)), (0, gx_r 383)], [.inl 2, .inl 284, gx_r 389], t113, n, 0)) rfl (fun _ => rfl) rfl ?_
    refine ex_go (S := (35, [(1, .inl (σ 5 0)), (0, gx_r 383)], [.inl (σ 5 0), .inl 2, .inl 284, gx_r 389], t113, n, 0)) rfl (fun _ => rfl) rfl ?_
    refine gx_imul rfl (by first | decide | omega) rfl ?_
    refine ex_iadd rfl (by first | decide | omega) rfl ?_
    refine ex_go (S := (38, [(1, .inl (σ 5 0)), (0, gx_r 383)], [gx_r 383, .inl (284 + (2 * (σ 5 0))), gx_r 389], t113, n, 0)) rfl (fun _ => rfl) rfl ?_
    refine ex_go (S := (40, [(1, .inl (σ 5 0)), (0, gx_r 383)], [.inl 13, gx_r 383, .inl (284 + (2 * (σ 5 0))), gx_r 389], t113, n, 0)) rfl (fun _ => rfl) rfl ?_
    refine ex_go (S := (41, [(1, .inl (σ 5 0)), (0, gx_r 383)], [.inl 0, .inl 13, gx_r 383, .inl (284 + (2 * (σ 5 0))), gx_r 389], t113, n, 0)) rfl (fun _ => rfl) rfl ?_
    refine ex_go (S := (43, [(1, .inl (σ 5 0)), (0, gx_r 383)], [.inl 10, .inl 0, .inl 13, gx_r 383, .inl (284 + (2 * (σ 5 0))), gx_r 389], t113, n, 0)) rfl (fun _ => rfl) rfl ?_
    have hT24 := rT_keep (t' := t113) hT (fun c i h => e113 c i (by first | decide | omega))
    obtain ⟨_, r123, v123, t123, a123, f123, rfl, s123, e123, z123, q123⟩ := pf_takeAfter d n (s113) hT24 (by first | decide | omega) (w := 13) (lo := 0) (hi := 10) (by first | decide | omega) (by first | decide | omega) (by first | decide | omega)
    have b123 := s123.2.2.2
    have y123 := z123.trans (congrArg (fun p9 => fn S m N 0 10 (fw S m N 13 p9)) y113)
    refine gx_call1 rfl rfl s113.1 rfl rfl r123 rfl ?_
    have k25 : ai_hv t123 389 160 = some (.inl (σ 0 0)) := (e123 389 160 (by first | decide | omega)).trans k14
    have k26 : ai_hv t123 389 161 = some (.inl (σ 1 0)) := (e123 389 161 (by first | decide | omega)).trans k15
    have k27 : ai_hv t123 389 162 = some (.inl (σ 2 0)) := (e123 389 162 (by first | decide | omega)).trans k16
    have k28 : ai_hv t123 389 163 = some (.inl (σ 3 0)) := (e123 389 163 (by first | decide | omega)).trans k17
    have k29 : ai_hv t123 389 164 = some (.inl (σ 4 0)) := (e123 389 164 (by first | decide | omega)).trans k18
    have k30 : ai_hv t123 389 166 = some (.inl (σ 5 0)) := (e123 389 166 (by first | decide | omega)).trans k19
    have k31 : ai_hv t123 389 167 = some (.inl (σ 6 0)) := (e123 389 167 (by first | decide | omega)).trans k20
    have k32 : ai_hv t123 389 168 = some (.inl (σ 7 0)) := (e123 389 168 (by first | decide | omega)).trans k21
    have k33 : ai_hv t123 383 20 = some (.inl (σ 8 0)) := (e123 383 20 (by first | decide | omega)).trans k22
    refine gx_ap rfl (fun _ => rfl) s123.1 rfl rfl rfl (show 284 + (2 * (σ 5 0)) < 320 from by omega) (px_run_gap (2 * (σ 5 0)) (by first | decide | omega) (by first | decide | omega)) (ai_in_h (by first | decide | omega) (by first | decide | omega) (by first | decide | omega)) rfl (fun t134 g134 k134 e134 => ?_)
    have k35 : ai_hv t134 389 160 = some (.inl (σ 0 0)) := (e134 389 160 (by first | decide | omega)).trans k25
    have k36 : ai_hv t134 389 161 = some (.inl (σ 1 0)) := (e134 389 161 (by first | decide | omega)).trans k26
    have k37 : ai_hv t134 389 162 = some (.inl (σ 2 0)) := (e134 389 162 (by first | decide | omega)).trans k27
    have k38 : ai_hv t134 389 163 = some (.inl (σ 3 0)) := (e134 389 163 (by first | decide | omega)).trans k28
    have k39 : ai_hv t134 389 164 = some (.inl (σ 4 0)) := (e134 389 164 (by first | decide | omega)).trans k29
    have k40 : ai_hv t134 389 166 = some (.inl (σ 5 0)) := (e134 389 166 (by first | decide | omega)).trans k30
    have k41 : ai_hv t134 389 167 = some (.inl (σ 6 0)) := (e134 389 167 (by first | decide | omega)).trans k31
    have k42 : ai_hv t134 389 168 = some (.inl (σ 7 0)) := (e134 389 168 (by first | decide | omega)).trans k32
    have k43 : ai_hv t134 383 20 = some (.inl (σ 8 0)) := (e134 383 20 (by first | decide | omega)).trans k33
    have s134 : px_S t134 a123 f123 := ⟨g134, (e134 383 7 (by first | decide | omega)).trans s123.2.1, (e134 383 8 (by first | decide | omega)).trans s123.2.2.1, s123.2.2.2⟩
    refine ex_go (S := (48, [(1, .inl (σ 5 0)), (0, gx_r 383)], [gx_r 383], t134, n, 0)) rfl (fun _ => rfl) rfl ?_
    refine gx_ref (c := 389) rfl s134.1 rfl rfl rfl rfl ?_
    refine ex_go (S := (54, [(1, .inl (σ 5 0)), (0, gx_r 383)], [.inl 284, gx_r 389], t134, n, 0)) rfl (fun _ => rfl) rfl ?_
    refine ex_go (S := (55, [(1, .inl (σ 5 0)), (0, gx_r 383)], [.inl 2, .inl 284, gx_r 389], t134, n, 0)) rfl (fun _ => rfl) rfl ?_
    refine ex_go (S := (56, [(1, .inl (σ 5 0)), (0, gx_r 383)], [.inl (σ 5 0), .inl 2, .inl 284, gx_r 389], t134, n, 0)) rfl (fun _ => rfl) rfl ?_
    refine gx_imul rfl (by first | decide | omega) rfl ?_
    refine ex_iadd rfl (by first | decide | omega) rfl ?_
    refine ex_go (S := (59, [(1, .inl (σ 5 0)), (0, gx_r 383)], [.inl 1, .inl (284 + (2 * (σ 5 0))), gx_r 389], t134, n, 0)) rfl (fun _ => rfl) rfl ?_
    refine ex_iadd rfl (by first | decide | omega) rfl ?_
    refine ex_go (S := (61, [(1, .inl (σ 5 0)), (0, gx_r 383)], [gx_r 383, .inl ((284 + (2 * (σ 5 0))) + 1), gx_r 389], t134, n, 0)) rfl (fun _ => rfl) rfl ?_
    refine ex_go (S := (63, [(1, .inl (σ 5 0)), (0, gx_r 383)], [.inl 14, gx_r 383, .inl ((284 + (2 * (σ 5 0))) + 1), gx_r 389], t134, n, 0)) rfl (fun _ => rfl) rfl ?_
    refine ex_go (S := (64, [(1, .inl (σ 5 0)), (0, gx_r 383)], [.inl 0, .inl 14, gx_r 383, .inl ((284 + (2 * (σ 5 0))) + 1), gx_r 389], t134, n, 0)) rfl (fun _ => rfl) rfl ?_
    refine ex_go (S := (66, [(1, .inl (σ 5 0)), (0, gx_r 383)], [.inl 10, .inl 0, .inl 14, gx_r 383, .inl ((284 + (2 * (σ 5 0))) + 1), gx_r 389], t134, n, 0)) rfl (fun _ => rfl) rfl ?_
    have hT45 := rT_keep (t' := t134) hT (fun c i h => (e134 c i (by first | decide | omega)).trans ((e123 c i (by first | decide | omega)).trans (e113 c i (by first | decide | omega))))
    obtain ⟨_, r144, v144, t144, a144, f144, rfl, s144, e144, z144, q144⟩ := pf_takeAfter d n (s134) hT45 (by first | decide | omega) (w := 14) (lo := 0) (hi := 10) (by first | decide | omega) (by first | decide | omega) (by first | decide | omega)
    have b144 := s144.2.2.2
    have y144 := z144.trans (congrArg (fun p9 => fn S m N 0 10 (fw S m N 14 p9)) y123)
    refine gx_call1 rfl rfl s134.1 rfl rfl r144 rfl ?_
    have k46 : ai_hv t144 389 160 = some (.inl (σ 0 0)) := (e144 389 160 (by first | decide | omega)).trans k35
    have k47 : ai_hv t144 389 161 = some (.inl (σ 1 0)) := (e144 389 161 (by first | decide | omega)).trans k36
    have k48 : ai_hv t144 389 162 = some (.inl (σ 2 0)) := (e144 389 162 (by first | decide | omega)).trans k37
    have k49 : ai_hv t144 389 163 = some (.inl (σ 3 0)) := (e144 389 163 (by first | decide | omega)).trans k38
    have k50 : ai_hv t144 389 164 = some (.inl (σ 4 0)) := (e144 389 164 (by first | decide | omega)).trans k39
    have k51 : ai_hv t144 389 166 = some (.inl (σ 5 0)) := (e144 389 166 (by first | decide | omega)).trans k40
    have k52 : ai_hv t144 389 167 = some (.inl (σ 6 0)) := (e144 389 167 (by first | decide | omega)).trans k41
    have k53 : ai_hv t144 389 168 = some (.inl (σ 7 0)) := (e144 389 168 (by first | decide | omega)).trans k42
    have k54 : ai_hv t144 383 20 = some (.inl (σ 8 0)) := (e144 383 20 (by first | decide | omega)).trans k43
    have k55 : ai_hv t144 389 (284 + (2 * (σ 5 0))) = some (.inl v123) := (e144 389 (284 + (2 * (σ 5 0))) (by first | decide | omega)).trans k134
    refine gx_ap rfl (fun _ => rfl) s144.1 rfl rfl rfl (show (284 + (2 * (σ 5 0))) + 1 < 320 from by omega) (px_run_gap (2 * (σ 5 0) + 1) (by first | decide | omega) (by first | decide | omega)) (ai_in_h (by first | decide | omega) (by first | decide | omega) (by first | decide | omega)) rfl (fun t156 g156 k156 e156 => ?_)
    have k57 : ai_hv t156 389 160 = some (.inl (σ 0 0)) := (e156 389 160 (by first | decide | omega)).trans k46
    have k58 : ai_hv t156 389 161 = some (.inl (σ 1 0)) := (e156 389 161 (by first | decide | omega)).trans k47
    have k59 : ai_hv t156 389 162 = some (.inl (σ 2 0)) := (e156 389 162 (by first | decide | omega)).trans k48
    have k60 : ai_hv t156 389 163 = some (.inl (σ 3 0)) := (e156 389 163 (by first | decide | omega)).trans k49
    have k61 : ai_hv t156 389 164 = some (.inl (σ 4 0)) := (e156 389 164 (by first | decide | omega)).trans k50
    have k62 : ai_hv t156 389 166 = some (.inl (σ 5 0)) := (e156 389 166 (by first | decide | omega)).trans k51
    have k63 : ai_hv t156 389 167 = some (.inl (σ 6 0)) := (e156 389 167 (by first | decide | omega)).trans k52
    have k64 : ai_hv t156 389 168 = some (.inl (σ 7 0)) := (e156 389 168 (by first | decide | omega)).trans k53
    have k65 : ai_hv t156 383 20 = some (.inl (σ 8 0)) := (e156 383 20 (by first | decide | omega)).trans k54
    have k66 : ai_hv t156 389 (284 + (2 * (σ 5 0))) = some (.inl v123) := (e156 389 (284 + (2 * (σ 5 0))) (by first | decide | omega)).trans k55
    have s156 : px_S t156 a144 f144 := ⟨g156, (e156 383 7 (by first | decide | omega)).trans s144.2.1, (e156 383 8 (by first | decide | omega)).trans s144.2.2.1, s144.2.2.2⟩
    refine ex_go (S := (71, [(1, .inl (σ 5 0)), (0, gx_r 383)], [gx_r 383], t156, n, 0)) rfl (fun _ => rfl) rfl ?_
    refine gx_ref (c := 389) rfl s156.1 rfl rfl rfl rfl ?_
    refine ex_go (S := (77, [(1, .inl (σ 5 0)), (0, gx_r 383)], [.inl 166, gx_r 389], t156, n, 0)) rfl (fun _ => rfl) rfl ?_
    refine ex_go (S := (78, [(1, .inl (σ 5 0)), (0, gx_r 383)], [.inl 166, gx_r 389, .inl 166, gx_r 389], t156, n, 0)) rfl (fun _ => rfl) rfl ?_
    refine gx_ag (v := .inl (σ 5 0)) (cb := fun c => Nat.beq c 0) rfl (fun _ => rfl) s156.1 rfl rfl k62 (by first | decide | omega) rfl ?_
    refine ex_go (S := (80, [(1, .inl (σ 5 0)), (0, gx_r 383)], [.inl 1, .inl (σ 5 0), .inl 166, gx_r 389], t156, n, 0)) rfl (fun _ => rfl) rfl ?_
    refine ex_iadd rfl (by first | decide | omega) rfl ?_
    refine gx_ap rfl (fun _ => rfl) s156.1 rfl rfl rfl (show 166 < 320 from by omega) rfl (ai_in_h (by first | decide | omega) (by first | decide | omega) (by first | decide | omega)) rfl (fun t167 g167 k167 e167 => ?_)
    have k68 : ai_hv t167 389 160 = some (.inl (σ 0 0)) := (e167 389 160 (by first | decide | omega)).trans k57
    have k69 : ai_hv t167 389 161 = some (.inl (σ 1 0)) := (e167 389 161 (by first | decide | omega)).trans k58
    have k70 : ai_hv t167 389 162 = some (.inl (σ 2 0)) := (e167 389 162 (by first | decide | omega)).trans k59
    have k71 : ai_hv t167 389 163 = some (.inl (σ 3 0)) := (e167 389 163 (by first | decide | omega)).trans k60
    have k72 : ai_hv t167 389 164 = some (.inl (σ 4 0)) := (e167 389 164 (by first | decide | omega)).trans k61
    have k73 : ai_hv t167 389 167 = some (.inl (σ 6 0)) := (e167 389 167 (by first | decide | omega)).trans k63
    have k74 : ai_hv t167 389 168 = some (.inl (σ 7 0)) := (e167 389 168 (by first | decide | omega)).trans k64
    have k75 : ai_hv t167 383 20 = some (.inl (σ 8 0)) := (e167 383 20 (by first | decide | omega)).trans k65
    have k76 : ai_hv t167 389 (284 + (2 * (σ 5 0))) = some (.inl v123) := (e167 389 (284 + (2 * (σ 5 0))) (by first | decide | omega)).trans k66
    have k77 : ai_hv t167 389 ((284 + (2 * (σ 5 0))) + 1) = some (.inl v144) := (e167 389 ((284 + (2 * (σ 5 0))) + 1) (by first | decide | omega)).trans k156
    have s167 : px_S t167 a144 f144 := ⟨g167, (e167 383 7 (by first | decide | omega)).trans s156.2.1, (e167 383 8 (by first | decide | omega)).trans s156.2.2.1, s156.2.2.2⟩
    refine ex_ret (r := (none, t167, n, 0)) rfl (fun _ => rfl) ?_
    have hT78 := rT_keep (t' := t167) hT (fun c i h => (e167 c i (by first | decide | omega)).trans ((e156 c i (by first | decide | omega)).trans ((e144 c i (by first | decide | omega)).trans ((e134 c i (by first | decide | omega)).trans ((e123 c i (by first | decide | omega)).trans (e113 c i (by first | decide | omega)))))))
    refine ⟨_, rfl, t167, a144, f144, rfl, s167, hT78, y144, by omega, fun h0 => ⟨by omega, ?_⟩⟩
    obtain ⟨w1, w2, w3, w4, w5⟩ := u113 (by first | decide | omega)
    have x9 : RN t167 S m σ := fun k hk => ⟨((e167 393 k (by first | decide | omega)).trans ((e156 393 k (by first | decide | omega)).trans ((e144 393 k (by first | decide | omega)).trans ((e134 393 k (by first | decide | omega)).trans (e123 393 k (by first | decide | omega)))))).trans (w3 k hk).1, ((e167 395 k (by first | decide | omega)).trans ((e156 395 k (by first | decide | omega)).trans ((e144 395 k (by first | decide | omega)).trans ((e134 395 k (by first | decide | omega)).trans (e123 395 k (by first | decide | omega)))))).trans (w3 k hk).2⟩
    have x8 := RN_up (a := a + 1) (z := 17) (i := σ 5 0) (by first | decide | omega) x9 (((e167 393 (σ 15 0) (by first | decide | omega)).trans ((e156 393 (σ 15 0) (by first | decide | omega)).trans ((e144 393 (σ 15 0) (by first | decide | omega)).trans ((e134 393 (σ 15 0) (by first | decide | omega)).trans (e123 393 (σ 15 0) (by first | decide | omega)))))).trans w4) (((e167 395 (σ 15 0) (by first | decide | omega)).trans ((e156 395 (σ 15 0) (by first | decide | omega)).trans ((e144 395 (σ 15 0) (by first | decide | omega)).trans ((e134 395 (σ 15 0) (by first | decide | omega)).trans (e123 395 (σ 15 0) (by first | decide | omega)))))).trans w5)
    have xk79 : rows t167 389 236 3 (σ 2 0) (σ 10) := rows_keep hRk (fun i hi => (e167 389 (236 + 3 * i) (by first | decide | omega)).trans ((e156 389 (236 + 3 * i) (by first | decide | omega)).trans ((e144 389 (236 + 3 * i) (by first | decide | omega)).trans ((e134 389 (236 + 3 * i) (by first | decide | omega)).trans ((e123 389 (236 + 3 * i) (by first | decide | omega)).trans (e113 389 (236 + 3 * i) (by first | decide | omega)))))))
    have xb80 : rows t167 389 237 3 (σ 2 0) (fun i => sp_nv S m (σ 16 i + 3)) := rows_keep hb0 (fun i hi => (e167 389 (237 + 3 * i) (by first | decide | omega)).trans ((e156 389 (237 + 3 * i) (by first | decide | omega)).trans ((e144 389 (237 + 3 * i) (by first | decide | omega)).trans ((e134 389 (237 + 3 * i) (by first | decide | omega)).trans ((e123 389 (237 + 3 * i) (by first | decide | omega)).trans (e113 389 (237 + 3 * i) (by first | decide | omega)))))))
    have xb81 : rows t167 389 238 3 (σ 2 0) (fun i => sp_nv S m (σ 16 i + 4)) := rows_keep hb1 (fun i hi => (e167 389 (238 + 3 * i) (by first | decide | omega)).trans ((e156 389 (238 + 3 * i) (by first | decide | omega)).trans ((e144 389 (238 + 3 * i) (by first | decide | omega)).trans ((e134 389 (238 + 3 * i) (by first | decide | omega)).trans ((e123 389 (238 + 3 * i) (by first | decide | omega)).trans (e113 389 (238 + 3 * i) (by first | decide | omega)))))))
    have xb82 : rows t167 389 255 4 (σ 3 0) (fun i => sp_nv S m (σ 20 i + 4)) := rows_keep hb2 (fun i hi => (e167 389 (255 + 4 * i) (by first | decide | omega)).trans ((e156 389 (255 + 4 * i) (by first | decide | omega)).trans ((e144 389 (255 + 4 * i) (by first | decide | omega)).trans ((e134 389 (255 + 4 * i) (by first | decide | omega)).trans ((e123 389 (255 + 4 * i) (by first | decide | omega)).trans (e113 389 (255 + 4 * i) (by first | decide | omega)))))))
    have xb83 : rows t167 389 256 4 (σ 3 0) (fun i => sp_nv S m (σ 20 i + 6)) := rows_keep hb3 (fun i hi => (e167 389 (256 + 4 * i) (by first | decide | omega)).trans ((e156 389 (256 + 4 * i) (by first | decide | omega)).trans ((e144 389 (256 + 4 * i) (by first | decide | omega)).trans ((e134 389 (256 + 4 * i) (by first | decide | omega)).trans ((e123 389 (256 + 4 * i) (by first | decide | omega)).trans (e113 389 (256 + 4 * i) (by first | decide | omega)))))))
    have xb84 : rows t167 389 257 4 (σ 3 0) (fun i => sp_nv S m (σ 20 i + 8)) := rows_keep hb4 (fun i hi => (e167 389 (257 + 4 * i) (by first | decide | omega)).trans ((e156 389 (257 + 4 * i) (by first | decide | omega)).trans ((e144 389 (257 + 4 * i) (by first | decide | omega)).trans ((e134 389 (257 + 4 * i) (by first | decide | omega)).trans ((e123 389 (257 + 4 * i) (by first | decide | omega)).trans (e113 389 (257 + 4 * i) (by first | decide | omega)))))))
    have xb85 : rows t167 389 279 3 (σ 4 0) (fun i => sp_nv S m (σ 21 i + 3)) := rows_keep hb5 (fun i hi => (e167 389 (279 + 3 * i) (by first | decide | omega)).trans ((e156 389 (279 + 3 * i) (by first | decide | omega)).trans ((e144 389 (279 + 3 * i) (by first | decide | omega)).trans ((e134 389 (279 + 3 * i) (by first | decide | omega)).trans ((e123 389 (279 + 3 * i) (by first | decide | omega)).trans (e113 389 (279 + 3 * i) (by first | decide | omega)))))))
    have xb86 : rows t167 389 280 3 (σ 4 0) (fun i => sp_nv S m (σ 21 i + 5)) := rows_keep hb6 (fun i hi => (e167 389 (280 + 3 * i) (by first | decide | omega)).trans ((e156 389 (280 + 3 * i) (by first | decide | omega)).trans ((e144 389 (280 + 3 * i) (by first | decide | omega)).trans ((e134 389 (280 + 3 * i) (by first | decide | omega)).trans ((e123 389 (280 + 3 * i) (by first | decide | omega)).trans (e113 389 (280 + 3 * i) (by first | decide | omega)))))))
    have xb87 : rows t167 389 284 2 (σ 5 0) (fun i => sp_nv S m (σ 17 i + 2)) := rows_keep hb7 (fun i hi => (e167 389 (284 + 2 * i) (by first | decide | omega)).trans ((e156 389 (284 + 2 * i) (by first | decide | omega)).trans ((e144 389 (284 + 2 * i) (by first | decide | omega)).trans ((e134 389 (284 + 2 * i) (by first | decide | omega)).trans ((e123 389 (284 + 2 * i) (by first | decide | omega)).trans (e113 389 (284 + 2 * i) (by first | decide | omega)))))))
    have hnv88 : ai_hv t167 389 (284 + 2 * σ 5 0) = some (.inl (sp_nv S m (a + 1 + 2))) := by
      have h9 : v123 = sp_nv S m (a + 3) := by rw [← show a113 + 1 = a + 3 by omega]; omega
      show _ = some (Sum.inl (sp_nv S m (a + 3)))
      rw [← h9, show 284 + 2 * σ 5 0 = 284 + (2 * (σ 5 0)) by omega]
      exact k76
    have xb89 : rows t167 389 285 2 (σ 5 0) (fun i => sp_nv S m (σ 17 i + 4)) := rows_keep hb8 (fun i hi => (e167 389 (285 + 2 * i) (by first | decide | omega)).trans ((e156 389 (285 + 2 * i) (by first | decide | omega)).trans ((e144 389 (285 + 2 * i) (by first | decide | omega)).trans ((e134 389 (285 + 2 * i) (by first | decide | omega)).trans ((e123 389 (285 + 2 * i) (by first | decide | omega)).trans (e113 389 (285 + 2 * i) (by first | decide | omega)))))))
    have hnv90 : ai_hv t167 389 (285 + 2 * σ 5 0) = some (.inl (sp_nv S m (a + 1 + 4))) := by
      have h9 : v144 = sp_nv S m (a + 5) := by rw [← show a123 + 1 = a + 5 by omega]; omega
      show _ = some (Sum.inl (sp_nv S m (a + 5)))
      rw [← h9, show 285 + 2 * σ 5 0 = (284 + (2 * (σ 5 0))) + 1 by omega]
      exact k77
    have xb91 : rows t167 389 294 1 (σ 6 0) (fun i => sp_nv S m (σ 18 i + 2)) := rows_keep hb9 (fun i hi => (e167 389 (294 + 1 * i) (by first | decide | omega)).trans ((e156 389 (294 + 1 * i) (by first | decide | omega)).trans ((e144 389 (294 + 1 * i) (by first | decide | omega)).trans ((e134 389 (294 + 1 * i) (by first | decide | omega)).trans ((e123 389 (294 + 1 * i) (by first | decide | omega)).trans (e113 389 (294 + 1 * i) (by first | decide | omega)))))))
    have xb92 : rows t167 389 300 2 (σ 7 0) (fun i => sp_nv S m (σ 19 i + 2)) := rows_keep hb10 (fun i hi => (e167 389 (300 + 2 * i) (by first | decide | omega)).trans ((e156 389 (300 + 2 * i) (by first | decide | omega)).trans ((e144 389 (300 + 2 * i) (by first | decide | omega)).trans ((e134 389 (300 + 2 * i) (by first | decide | omega)).trans ((e123 389 (300 + 2 * i) (by first | decide | omega)).trans (e113 389 (300 + 2 * i) (by first | decide | omega)))))))
    have xb93 : rows t167 389 301 2 (σ 7 0) (fun i => sp_nv S m (σ 19 i + 4)) := rows_keep hb11 (fun i hi => (e167 389 (301 + 2 * i) (by first | decide | omega)).trans ((e156 389 (301 + 2 * i) (by first | decide | omega)).trans ((e144 389 (301 + 2 * i) (by first | decide | omega)).trans ((e134 389 (301 + 2 * i) (by first | decide | omega)).trans ((e123 389 (301 + 2 * i) (by first | decide | omega)).trans (e113 389 (301 + 2 * i) (by first | decide | omega)))))))
    have xb94 : rows t167 389 172 1 64 (σ 23) := rows_keep hb13 (fun i hi => (e167 389 (172 + 1 * i) (by first | decide | omega)).trans ((e156 389 (172 + 1 * i) (by first | decide | omega)).trans ((e144 389 (172 + 1 * i) (by first | decide | omega)).trans ((e134 389 (172 + 1 * i) (by first | decide | omega)).trans ((e123 389 (172 + 1 * i) (by first | decide | omega)).trans (e113 389 (172 + 1 * i) (by first | decide | omega)))))))
    have xk95 : rows t167 389 254 4 (σ 3 0) (σ 11) := rows_keep hRl (fun i hi => (e167 389 (254 + 4 * i) (by first | decide | omega)).trans ((e156 389 (254 + 4 * i) (by first | decide | omega)).trans ((e144 389 (254 + 4 * i) (by first | decide | omega)).trans ((e134 389 (254 + 4 * i) (by first | decide | omega)).trans ((e123 389 (254 + 4 * i) (by first | decide | omega)).trans (e113 389 (254 + 4 * i) (by first | decide | omega)))))))
    have xk96 : rows t167 389 278 3 (σ 4 0) (σ 12) := rows_keep hRs (fun i hi => (e167 389 (278 + 3 * i) (by first | decide | omega)).trans ((e156 389 (278 + 3 * i) (by first | decide | omega)).trans ((e144 389 (278 + 3 * i) (by first | decide | omega)).trans ((e134 389 (278 + 3 * i) (by first | decide | omega)).trans ((e123 389 (278 + 3 * i) (by first | decide | omega)).trans (e113 389 (278 + 3 * i) (by first | decide | omega)))))))
    exact ⟨⟨k68, k69, k70, k71, k72, k167, k73, k74, k75, ((e167 383 19 (by first | decide | omega)).trans ((e156 383 19 (by first | decide | omega)).trans ((e144 383 19 (by first | decide | omega)).trans ((e134 383 19 (by first | decide | omega)).trans (e123 383 19 (by first | decide | omega)))))).trans w2⟩, fun k hk => by
        rcases hRL k hk with ⟨h1, h2⟩ | ⟨h1, z, h2, h3⟩
        · exact Or.inl ⟨h1, ((e167 389 (169 + k) (by first | decide | omega)).trans ((e156 389 (169 + k) (by first | decide | omega)).trans ((e144 389 (169 + k) (by first | decide | omega)).trans ((e134 389 (169 + k) (by first | decide | omega)).trans ((e123 389 (169 + k) (by first | decide | omega)).trans (e113 389 (169 + k) (by first | decide | omega))))))).trans h2⟩
        · exact Or.inr ⟨h1, z, ((e167 389 (169 + k) (by first | decide | omega)).trans ((e156 389 (169 + k) (by first | decide | omega)).trans ((e144 389 (169 + k) (by first | decide | omega)).trans ((e134 389 (169 + k) (by first | decide | omega)).trans ((e123 389 (169 + k) (by first | decide | omega)).trans (e113 389 (169 + k) (by first | decide | omega))))))).trans h2, h3⟩, xk79, xk95, xk96, x8, xb80, xb81, xb82, xb83, xb84, xb85, xb86, rows_tk (g := σ 17) xb87 hnv88, rows_tk (g := σ 17) xb89 hnv90, xb91, xb92, xb93, ((e167 389 165 (by first | decide | omega)).trans ((e156 389 165 (by first | decide | omega)).trans ((e144 389 165 (by first | decide | omega)).trans ((e134 389 165 (by first | decide | omega)).trans ((e123 389 165 (by first | decide | omega)).trans (e113 389 165 (by first | decide | omega))))))).trans hb12, xb94⟩
theorem pe_readSign (d n : Nat) {t0 : en_H} {a : Nat} {S : Nat → Nat} {m N : Nat} {σ : Nat → Nat → Nat} (s0 : px_S t0 a 0) (hT : rT t0 S m N) (ha : a < N) (hA : RA t0 S m σ) (hB : WB σ) (hK : NK S m N σ) : ∃ r, en_u (d + 5) 191 [gx_r 383] t0 n = some r ∧ ∃ t' a' f', r = (none, t', n, 0) ∧ px_S t' a' f' ∧ rT t' S m N ∧ (a', f') = sl_sign S m N σ a ∧ a' ≤ N ∧ (f' = 0 → a < a' ∧ RA t' S m (sn_sign σ a)) := by
  have b0 := s0.2.2.2
  have hN := hT.2.2.2.2.1
  obtain ⟨⟨kk0, kk1, kk2, kk3, kk4, kk5, kk6, kk7, kk8, kk9⟩, hRL, hRk, hRl, hRs, hRN, hb0, hb1, hb2, hb3, hb4, hb5, hb6, hb7, hb8, hb9, hb10, hb11, hb12, hb13⟩ := hA
  have hBB := hB.1
  refine en_u_ex (d := d + 4) rfl ?_
  show en_ex _ _ _ _ (0, [(0, gx_r 383)], [], t0, n, 0) _
  refine ex_go (S := (1, [(0, gx_r 383)], [gx_r 383], t0, n, 0)) rfl (fun _ => rfl) rfl ?_
  refine gx_ref (c := 389) rfl s0.1 rfl rfl rfl rfl ?_
  refine ex_go (S := (7, [(0, gx_r 383)], [.inl 167, gx_r 389], t0, n, 0)) rfl (fun _ => rfl) rfl ?_
  refine gx_ag (v := .inl (σ 6 0)) (cb := fun c => Nat.beq c 0) rfl (fun _ => rfl) s0.1 rfl rfl kk6 (by first | decide | omega) rfl ?_
  refine ex_go (S := (9, [(1, .inl (σ 6 0)), (0, gx_r 383)], [], t0, n, 0)) rfl (fun _ => rfl) rfl ?_
  refine ex_go (S := (10, [(1, .inl (σ 6 0)), (0, gx_r 383)], [.inl (σ 6 0)], t0, n, 0)) rfl (fun _ => rfl) rfl ?_
  refine ex_go (S := (12, [(1, .inl (σ 6 0)), (0, gx_r 383)], [.inl 6, .inl (σ 6 0)], t0, n, 0)) rfl (fun _ => rfl) rfl ?_
  by_cases hful : σ 6 0 = 6
  · refine gx_2f (c := .ne) rfl (by first | decide | omega) (by first | decide | omega) (show ¬ (σ 6 0 ≠ 6) from by omega) rfl ?_
    refine ex_go (S := (16, [(1, .inl (σ 6 0)), (0, gx_r 383)], [gx_r 383], t0, n, 0)) rfl (fun _ => rfl) rfl ?_
    refine ex_go (S := (17, [(1, .inl (σ 6 0)), (0, gx_r 383)], [.inl 5, gx_r 383], t0, n, 0)) rfl (fun _ => rfl) rfl ?_
    obtain ⟨_, r101, t101, a101, f101, rfl, s101, e101, q101⟩ := pe_wrong (d + 3) n (s0) hT (by first | decide | omega) (w := 5) (by first | decide | omega)
    have b101 := s101.2.2.2
    have hT101 := rT_keep hT (fun c i h => e101 c i (by first | decide | omega))
    refine gx_call0 rfl rfl s0.1 rfl rfl r101 rfl ?_
    have k2 : ai_hv t101 389 160 = some (.inl (σ 0 0)) := (e101 389 160 (by first | decide | omega)).trans kk0
    have k3 : ai_hv t101 389 161 = some (.inl (σ 1 0)) := (e101 389 161 (by first | decide | omega)).trans kk1
    have k4 : ai_hv t101 389 162 = some (.inl (σ 2 0)) := (e101 389 162 (by first | decide | omega)).trans kk2
    have k5 : ai_hv t101 389 163 = some (.inl (σ 3 0)) := (e101 389 163 (by first | decide | omega)).trans kk3
    have k6 : ai_hv t101 389 164 = some (.inl (σ 4 0)) := (e101 389 164 (by first | decide | omega)).trans kk4
    have k7 : ai_hv t101 389 166 = some (.inl (σ 5 0)) := (e101 389 166 (by first | decide | omega)).trans kk5
    have k8 : ai_hv t101 389 167 = some (.inl (σ 6 0)) := (e101 389 167 (by first | decide | omega)).trans kk6
    have k9 : ai_hv t101 389 168 = some (.inl (σ 7 0)) := (e101 389 168 (by first | decide | omega)).trans kk7
    have k10 : ai_hv t101 383 20 = some (.inl (σ 8 0)) := (e101 383 20 (by first | decide | omega)).trans kk8
    have k11 : ai_hv t101 383 19 = some (.inl (σ 15 0)) := (e101 383 19 (by first | decide | omega)).trans kk9
    refine ex_ret (r := (none, t101, n, 0)) rfl (fun _ => rfl) ?_
    have hT12 := rT_keep (t' := t101) hT (fun c i h => e101 c i (by first | decide | omega))
    refine ⟨_, rfl, t101, a101, f101, rfl, s101, hT12, ?_, by omega, fun h0 => by omega⟩
    rw [show a101 = a by omega, show f101 = 5 + 16 * sp_st S m a by omega]
    unfold sl_sign
    have h5 : 5 + 16 * sp_st S m a ≠ 0 := by omega
    rw [fr_w hful, fm_no h5, fw_no h5, fn_no h5]
  · refine gx_2t (c := .ne) rfl (by first | decide | omega) (by first | decide | omega) (show σ 6 0 ≠ 6 from by omega) rfl ?_
    refine ex_go (S := (22, [(1, .inl (σ 6 0)), (0, gx_r 383)], [gx_r 383], t0, n, 0)) rfl (fun _ => rfl) rfl ?_
    refine ex_go (S := (24, [(1, .inl (σ 6 0)), (0, gx_r 383)], [.inl 20, gx_r 383], t0, n, 0)) rfl (fun _ => rfl) rfl ?_
    obtain ⟨_, r113, t113, a113, f113, rfl, s113, e113, z113, q113, u113⟩ := pe_readName d n (s0) hT ha (w := 20) (by first | decide | omega) kk9 hRN hK
    have b113 := s113.2.2.2
    have y113 : (a113, f113) = fm S m N (sg_told S m σ) (fr S m (σ 6 0 = 6) 5 (a, 0)) := z113.trans (congrArg (fm S m N (sg_told S m σ)) (fr_yes hful).symm)
    refine gx_call0 rfl rfl s0.1 rfl rfl r113 rfl ?_
    have k14 : ai_hv t113 389 160 = some (.inl (σ 0 0)) := (e113 389 160 (by first | decide | omega)).trans kk0
    have k15 : ai_hv t113 389 161 = some (.inl (σ 1 0)) := (e113 389 161 (by first | decide | omega)).trans kk1
    have k16 : ai_hv t113 389 162 = some (.inl (σ 2 0)) := (e113 389 162 (by first | decide | omega)).trans kk2
    have k17 : ai_hv t113 389 163 = some (.inl (σ 3 0)) := (e113 389 163 (by first | decide | omega)).trans kk3
    have k18 : ai_hv t113 389 164 = some (.inl (σ 4 0)) := (e113 389 164 (by first | decide | omega)).trans kk4
    have k19 : ai_hv t113 389 166 = some (.inl (σ 5 0)) := (e113 389 166 (by first | decide | omega)).trans kk5
    have k20 : ai_hv t113 389 167 = some (.inl (σ 6 0)) := (e113 389 167 (by first | decide | omega)).trans kk6
    have k21 : ai_hv t113 389 168 = some (.inl (σ 7 0)) := (e113 389 168 (by first | decide | omega)).trans kk7
    have k22 : ai_hv t113 383 20 = some (.inl (σ 8 0)) := (e113 383 20 (by first | decide | omega)).trans kk8
    refine ex_go (S := (28, [(1, .inl (σ 6 0)), (0, gx_r 383)], [gx_r 383], t113, n, 0)) rfl (fun _ => rfl) rfl ?_
    refine gx_ref (c := 389) rfl s113.1 rfl rfl rfl rfl ?_
    refine ex_go (S := (34, [(1, .inl (σ 6 0)), (0, gx_r 383)], [.inl 294, gx_r 389], t113, n, 0)) rfl (fun _ => rfl) rfl ?_
    refine ex_go (S := (35, [(1, .inl (σ 6 0)), (0, gx_r 383)], [.inl (σ 6 0), .inl 294, gx_r 389], t113, n, 0)) rfl (fun _ => rfl) rfl ?_
    refine ex_iadd rfl (by first | decide | omega) rfl ?_
    refine ex_go (S := (37, [(1, .inl (σ 6 0)), (0, gx_r 383)], [gx_r 383, .inl (294 + (σ 6 0)), gx_r 389], t113, n, 0)) rfl (fun _ => rfl) rfl ?_
    refine ex_go (S := (39, [(1, .inl (σ 6 0)), (0, gx_r 383)], [.inl 16, gx_r 383, .inl (294 + (σ 6 0)), gx_r 389], t113, n, 0)) rfl (fun _ => rfl) rfl ?_
    refine ex_go (S := (40, [(1, .inl (σ 6 0)), (0, gx_r 383)], [.inl 1, .inl 16, gx_r 383, .inl (294 + (σ 6 0)), gx_r 389], t113, n, 0)) rfl (fun _ => rfl) rfl ?_
    refine ex_go (S := (42, [(1, .inl (σ 6 0)), (0, gx_r 383)], [.inl 99, .inl 1, .inl 16, gx_r 383, .inl (294 + (σ 6 0)), gx_r 389], t113, n, 0)) rfl (fun _ => rfl) rfl ?_
    have hT24 := rT_keep (t' := t113) hT (fun c i h => e113 c i (by first | decide | omega))
    obtain ⟨_, r123, v123, t123, a123, f123, rfl, s123, e123, z123, q123⟩ := pf_takeAfter d n (s113) hT24 (by first | decide | omega) (w := 16) (lo := 1) (hi := 99) (by first | decide | omega) (by first | decide | omega) (by first | decide | omega)
    have b123 := s123.2.2.2
    have y123 := z123.trans (congrArg (fun p9 => fn S m N 1 99 (fw S m N 16 p9)) y113)
    refine gx_call1 rfl rfl s113.1 rfl rfl r123 rfl ?_
    have k25 : ai_hv t123 389 160 = some (.inl (σ 0 0)) := (e123 389 160 (by first | decide | omega)).trans k14
    have k26 : ai_hv t123 389 161 = some (.inl (σ 1 0)) := (e123 389 161 (by first | decide | omega)).trans k15
    have k27 : ai_hv t123 389 162 = some (.inl (σ 2 0)) := (e123 389 162 (by first | decide | omega)).trans k16
    have k28 : ai_hv t123 389 163 = some (.inl (σ 3 0)) := (e123 389 163 (by first | decide | omega)).trans k17
    have k29 : ai_hv t123 389 164 = some (.inl (σ 4 0)) := (e123 389 164 (by first | decide | omega)).trans k18
    have k30 : ai_hv t123 389 166 = some (.inl (σ 5 0)) := (e123 389 166 (by first | decide | omega)).trans k19
    have k31 : ai_hv t123 389 167 = some (.inl (σ 6 0)) := (e123 389 167 (by first | decide | omega)).trans k20
    have k32 : ai_hv t123 389 168 = some (.inl (σ 7 0)) := (e123 389 168 (by first | decide | omega)).trans k21
    have k33 : ai_hv t123 383 20 = some (.inl (σ 8 0)) := (e123 383 20 (by first | decide | omega)).trans k22
    refine gx_ap rfl (fun _ => rfl) s123.1 rfl rfl rfl (show 294 + (σ 6 0) < 320 from by omega) (px_run_sign ((σ 6 0)) (by first | decide | omega) (by first | decide | omega)) (ai_in_h (by first | decide | omega) (by first | decide | omega) (by first | decide | omega)) rfl (fun t134 g134 k134 e134 => ?_)
    have k35 : ai_hv t134 389 160 = some (.inl (σ 0 0)) := (e134 389 160 (by first | decide | omega)).trans k25
    have k36 : ai_hv t134 389 161 = some (.inl (σ 1 0)) := (e134 389 161 (by first | decide | omega)).trans k26
    have k37 : ai_hv t134 389 162 = some (.inl (σ 2 0)) := (e134 389 162 (by first | decide | omega)).trans k27
    have k38 : ai_hv t134 389 163 = some (.inl (σ 3 0)) := (e134 389 163 (by first | decide | omega)).trans k28
    have k39 : ai_hv t134 389 164 = some (.inl (σ 4 0)) := (e134 389 164 (by first | decide | omega)).trans k29
    have k40 : ai_hv t134 389 166 = some (.inl (σ 5 0)) := (e134 389 166 (by first | decide | omega)).trans k30
    have k41 : ai_hv t134 389 167 = some (.inl (σ 6 0)) := (e134 389 167 (by first | decide | omega)).trans k31
    have k42 : ai_hv t134 389 168 = some (.inl (σ 7 0)) := (e134 389 168 (by first | decide | omega)).trans k32
    have k43 : ai_hv t134 383 20 = some (.inl (σ 8 0)) := (e134 383 20 (by first | decide | omega)).trans k33
    have s134 : px_S t134 a123 f123 := ⟨g134, (e134 383 7 (by first | decide | omega)).trans s123.2.1, (e134 383 8 (by first | decide | omega)).trans s123.2.2.1, s123.2.2.2⟩
    refine ex_go (S := (47, [(1, .inl (σ 6 0)), (0, gx_r 383)], [gx_r 383], t134, n, 0)) rfl (fun _ => rfl) rfl ?_
    refine gx_ref (c := 389) rfl s134.1 rfl rfl rfl rfl ?_
    refine ex_go (S := (53, [(1, .inl (σ 6 0)), (0, gx_r 383)], [.inl 167, gx_r 389], t134, n, 0)) rfl (fun _ => rfl) rfl ?_
    refine ex_go (S := (54, [(1, .inl (σ 6 0)), (0, gx_r 383)], [.inl 167, gx_r 389, .inl 167, gx_r 389], t134, n, 0)) rfl (fun _ => rfl) rfl ?_
    refine gx_ag (v := .inl (σ 6 0)) (cb := fun c => Nat.beq c 0) rfl (fun _ => rfl) s134.1 rfl rfl k41 (by first | decide | omega) rfl ?_
    refine ex_go (S := (56, [(1, .inl (σ 6 0)), (0, gx_r 383)], [.inl 1, .inl (σ 6 0), .inl 167, gx_r 389], t134, n, 0)) rfl (fun _ => rfl) rfl ?_
    refine ex_iadd rfl (by first | decide | omega) rfl ?_
    refine gx_ap rfl (fun _ => rfl) s134.1 rfl rfl rfl (show 167 < 320 from by omega) rfl (ai_in_h (by first | decide | omega) (by first | decide | omega) (by first | decide | omega)) rfl (fun t144 g144 k144 e144 => ?_)
    have k45 : ai_hv t144 389 160 = some (.inl (σ 0 0)) := (e144 389 160 (by first | decide | omega)).trans k35
    have k46 : ai_hv t144 389 161 = some (.inl (σ 1 0)) := (e144 389 161 (by first | decide | omega)).trans k36
    have k47 : ai_hv t144 389 162 = some (.inl (σ 2 0)) := (e144 389 162 (by first | decide | omega)).trans k37
    have k48 : ai_hv t144 389 163 = some (.inl (σ 3 0)) := (e144 389 163 (by first | decide | omega)).trans k38
    have k49 : ai_hv t144 389 164 = some (.inl (σ 4 0)) := (e144 389 164 (by first | decide | omega)).trans k39
    have k50 : ai_hv t144 389 166 = some (.inl (σ 5 0)) := (e144 389 166 (by first | decide | omega)).trans k40
    have k51 : ai_hv t144 389 168 = some (.inl (σ 7 0)) := (e144 389 168 (by first | decide | omega)).trans k42
    have k52 : ai_hv t144 383 20 = some (.inl (σ 8 0)) := (e144 383 20 (by first | decide | omega)).trans k43
    have k53 : ai_hv t144 389 (294 + (σ 6 0)) = some (.inl v123) := (e144 389 (294 + (σ 6 0)) (by first | decide | omega)).trans k134
    have s144 : px_S t144 a123 f123 := ⟨g144, (e144 383 7 (by first | decide | omega)).trans s134.2.1, (e144 383 8 (by first | decide | omega)).trans s134.2.2.1, s134.2.2.2⟩
    refine ex_ret (r := (none, t144, n, 0)) rfl (fun _ => rfl) ?_
    have hT54 := rT_keep (t' := t144) hT (fun c i h => (e144 c i (by first | decide | omega)).trans ((e134 c i (by first | decide | omega)).trans ((e123 c i (by first | decide | omega)).trans (e113 c i (by first | decide | omega)))))
    refine ⟨_, rfl, t144, a123, f123, rfl, s144, hT54, y123, by omega, fun h0 => ⟨by omega, ?_⟩⟩
    obtain ⟨w1, w2, w3, w4, w5⟩ := u113 (by first | decide | omega)
    have x9 : RN t144 S m σ := fun k hk => ⟨((e144 393 k (by first | decide | omega)).trans ((e134 393 k (by first | decide | omega)).trans (e123 393 k (by first | decide | omega)))).trans (w3 k hk).1, ((e144 395 k (by first | decide | omega)).trans ((e134 395 k (by first | decide | omega)).trans (e123 395 k (by first | decide | omega)))).trans (w3 k hk).2⟩
    have x8 := RN_up (a := a + 1) (z := 18) (i := σ 6 0) (by first | decide | omega) x9 (((e144 393 (σ 15 0) (by first | decide | omega)).trans ((e134 393 (σ 15 0) (by first | decide | omega)).trans (e123 393 (σ 15 0) (by first | decide | omega)))).trans w4) (((e144 395 (σ 15 0) (by first | decide | omega)).trans ((e134 395 (σ 15 0) (by first | decide | omega)).trans (e123 395 (σ 15 0) (by first | decide | omega)))).trans w5)
    have xk55 : rows t144 389 236 3 (σ 2 0) (σ 10) := rows_keep hRk (fun i hi => (e144 389 (236 + 3 * i) (by first | decide | omega)).trans ((e134 389 (236 + 3 * i) (by first | decide | omega)).trans ((e123 389 (236 + 3 * i) (by first | decide | omega)).trans (e113 389 (236 + 3 * i) (by first | decide | omega)))))
    have xb56 : rows t144 389 237 3 (σ 2 0) (fun i => sp_nv S m (σ 16 i + 3)) := rows_keep hb0 (fun i hi => (e144 389 (237 + 3 * i) (by first | decide | omega)).trans ((e134 389 (237 + 3 * i) (by first | decide | omega)).trans ((e123 389 (237 + 3 * i) (by first | decide | omega)).trans (e113 389 (237 + 3 * i) (by first | decide | omega)))))
    have xb57 : rows t144 389 238 3 (σ 2 0) (fun i => sp_nv S m (σ 16 i + 4)) := rows_keep hb1 (fun i hi => (e144 389 (238 + 3 * i) (by first | decide | omega)).trans ((e134 389 (238 + 3 * i) (by first | decide | omega)).trans ((e123 389 (238 + 3 * i) (by first | decide | omega)).trans (e113 389 (238 + 3 * i) (by first | decide | omega)))))
    have xb58 : rows t144 389 255 4 (σ 3 0) (fun i => sp_nv S m (σ 20 i + 4)) := rows_keep hb2 (fun i hi => (e144 389 (255 + 4 * i) (by first | decide | omega)).trans ((e134 389 (255 + 4 * i) (by first | decide | omega)).trans ((e123 389 (255 + 4 * i) (by first | decide | omega)).trans (e113 389 (255 + 4 * i) (by first | decide | omega)))))
    have xb59 : rows t144 389 256 4 (σ 3 0) (fun i => sp_nv S m (σ 20 i + 6)) := rows_keep hb3 (fun i hi => (e144 389 (256 + 4 * i) (by first | decide | omega)).trans ((e134 389 (256 + 4 * i) (by first | decide | omega)).trans ((e123 389 (256 + 4 * i) (by first | decide | omega)).trans (e113 389 (256 + 4 * i) (by first | decide | omega)))))
    have xb60 : rows t144 389 257 4 (σ 3 0) (fun i => sp_nv S m (σ 20 i + 8)) := rows_keep hb4 (fun i hi => (e144 389 (257 + 4 * i) (by first | decide | omega)).trans ((e134 389 (257 + 4 * i) (by first | decide | omega)).trans ((e123 389 (257 + 4 * i) (by first | decide | omega)).trans (e113 389 (257 + 4 * i) (by first | decide | omega)))))
    have xb61 : rows t144 389 279 3 (σ 4 0) (fun i => sp_nv S m (σ 21 i + 3)) := rows_keep hb5 (fun i hi => (e144 389 (279 + 3 * i) (by first | decide | omega)).trans ((e134 389 (279 + 3 * i) (by first | decide | omega)).trans ((e123 389 (279 + 3 * i) (by first | decide | omega)).trans (e113 389 (279 + 3 * i) (by first | decide | omega)))))
    have xb62 : rows t144 389 280 3 (σ 4 0) (fun i => sp_nv S m (σ 21 i + 5)) := rows_keep hb6 (fun i hi => (e144 389 (280 + 3 * i) (by first | decide | omega)).trans ((e134 389 (280 + 3 * i) (by first | decide | omega)).trans ((e123 389 (280 + 3 * i) (by first | decide | omega)).trans (e113 389 (280 + 3 * i) (by first | decide | omega)))))
    have xb63 : rows t144 389 284 2 (σ 5 0) (fun i => sp_nv S m (σ 17 i + 2)) := rows_keep hb7 (fun i hi => (e144 389 (284 + 2 * i) (by first | decide | omega)).trans ((e134 389 (284 + 2 * i) (by first | decide | omega)).trans ((e123 389 (284 + 2 * i) (by first | decide | omega)).trans (e113 389 (284 + 2 * i) (by first | decide | omega)))))
    have xb64 : rows t144 389 285 2 (σ 5 0) (fun i => sp_nv S m (σ 17 i + 4)) := rows_keep hb8 (fun i hi => (e144 389 (285 + 2 * i) (by first | decide | omega)).trans ((e134 389 (285 + 2 * i) (by first | decide | omega)).trans ((e123 389 (285 + 2 * i) (by first | decide | omega)).trans (e113 389 (285 + 2 * i) (by first | decide | omega)))))
    have xb65 : rows t144 389 294 1 (σ 6 0) (fun i => sp_nv S m (σ 18 i + 2)) := rows_keep hb9 (fun i hi => (e144 389 (294 + 1 * i) (by first | decide | omega)).trans ((e134 389 (294 + 1 * i) (by first | decide | omega)).trans ((e123 389 (294 + 1 * i) (by first | decide | omega)).trans (e113 389 (294 + 1 * i) (by first | decide | omega)))))
    have hnv66 : ai_hv t144 389 (294 + 1 * σ 6 0) = some (.inl (sp_nv S m (a + 1 + 2))) := by
      have h9 : v123 = sp_nv S m (a + 3) := by rw [← show a113 + 1 = a + 3 by omega]; omega
      show _ = some (Sum.inl (sp_nv S m (a + 3)))
      rw [← h9, show 294 + 1 * σ 6 0 = 294 + (σ 6 0) by omega]
      exact k53
    have xb67 : rows t144 389 300 2 (σ 7 0) (fun i => sp_nv S m (σ 19 i + 2)) := rows_keep hb10 (fun i hi => (e144 389 (300 + 2 * i) (by first | decide | omega)).trans ((e134 389 (300 + 2 * i) (by first | decide | omega)).trans ((e123 389 (300 + 2 * i) (by first | decide | omega)).trans (e113 389 (300 + 2 * i) (by first | decide | omega)))))
    have xb68 : rows t144 389 301 2 (σ 7 0) (fun i => sp_nv S m (σ 19 i + 4)) := rows_keep hb11 (fun i hi => (e144 389 (301 + 2 * i) (by first | decide | omega)).trans ((e134 389 (301 + 2 * i) (by first | decide | omega)).trans ((e123 389 (301 + 2 * i) (by first | decide | omega)).trans (e113 389 (301 + 2 * i) (by first | decide | omega)))))
    have xb69 : rows t144 389 172 1 64 (σ 23) := rows_keep hb13 (fun i hi => (e144 389 (172 + 1 * i) (by first | decide | omega)).trans ((e134 389 (172 + 1 * i) (by first | decide | omega)).trans ((e123 389 (172 + 1 * i) (by first | decide | omega)).trans (e113 389 (172 + 1 * i) (by first | decide | omega)))))
    have xk70 : rows t144 389 254 4 (σ 3 0) (σ 11) := rows_keep hRl (fun i hi => (e144 389 (254 + 4 * i) (by first | decide | omega)).trans ((e134 389 (254 + 4 * i) (by first | decide | omega)).trans ((e123 389 (254 + 4 * i) (by first | decide | omega)).trans (e113 389 (254 + 4 * i) (by first | decide | omega)))))
    have xk71 : rows t144 389 278 3 (σ 4 0) (σ 12) := rows_keep hRs (fun i hi => (e144 389 (278 + 3 * i) (by first | decide | omega)).trans ((e134 389 (278 + 3 * i) (by first | decide | omega)).trans ((e123 389 (278 + 3 * i) (by first | decide | omega)).trans (e113 389 (278 + 3 * i) (by first | decide | omega)))))
    exact ⟨⟨k45, k46, k47, k48, k49, k50, k144, k51, k52, ((e144 383 19 (by first | decide | omega)).trans ((e134 383 19 (by first | decide | omega)).trans (e123 383 19 (by first | decide | omega)))).trans w2⟩, fun k hk => by
        rcases hRL k hk with ⟨h1, h2⟩ | ⟨h1, z, h2, h3⟩
        · exact Or.inl ⟨h1, ((e144 389 (169 + k) (by first | decide | omega)).trans ((e134 389 (169 + k) (by first | decide | omega)).trans ((e123 389 (169 + k) (by first | decide | omega)).trans (e113 389 (169 + k) (by first | decide | omega))))).trans h2⟩
        · exact Or.inr ⟨h1, z, ((e144 389 (169 + k) (by first | decide | omega)).trans ((e134 389 (169 + k) (by first | decide | omega)).trans ((e123 389 (169 + k) (by first | decide | omega)).trans (e113 389 (169 + k) (by first | decide | omega))))).trans h2, h3⟩, xk55, xk70, xk71, x8, xb56, xb57, xb58, xb59, xb60, xb61, xb62, xb63, xb64, rows_tk (g := σ 18) xb65 hnv66, xb67, xb68, ((e144 389 165 (by first | decide | omega)).trans ((e134 389 165 (by first | decide | omega)).trans ((e123 389 165 (by first | decide | omega)).trans (e113 389 165 (by first | decide | omega))))).trans hb12, xb69⟩
theorem pe_readLoad (d n : Nat) {t0 : en_H} {a : Nat} {S : Nat → Nat} {m N : Nat} {σ : Nat → Nat → Nat} (s0 : px_S t0 a 0) (hT : rT t0 S m N) (ha : a < N) (hA : RA t0 S m σ) (hB : WB σ) (hK : NK S m N σ) : ∃ r, en_u (d + 5) 192 [gx_r 383] t0 n = some r ∧ ∃ t' a' f', r = (none, t', n, 0) ∧ px_S t' a' f' ∧ rT t' S m N ∧ (a', f') = sl_load S m N σ a ∧ a' ≤ N ∧ (f' = 0 → a < a' ∧ RA t' S m (sn_load σ a)) := by
  have b0 := s0.2.2.2
  have hN := hT.2.2.2.2.1
  obtain ⟨⟨kk0, kk1, kk2, kk3, kk4, kk5, kk6, kk7, kk8, kk9⟩, hRL, hRk, hRl, hRs, hRN, hb0, hb1, hb2, hb3, hb4, hb5, hb6, hb7, hb8, hb9, hb10, hb11, hb12, hb13⟩ := hA
  have hBB := hB.1
  refine en_u_ex (d := d + 4) rfl ?_
  show en_ex _ _ _ _ (0, [(0, gx_r 383)], [], t0, n, 0) _
  refine ex_go (S := (1, [(0, gx_r 383)], [gx_r 383], t0, n, 0)) rfl (fun _ => rfl) rfl ?_
  refine gx_ref (c := 389) rfl s0.1 rfl rfl rfl rfl ?_
  refine ex_go (S := (7, [(0, gx_r 383)], [.inl 168, gx_r 389], t0, n, 0)) rfl (fun _ => rfl) rfl ?_
  refine gx_ag (v := .inl (σ 7 0)) (cb := fun c => Nat.beq c 0) rfl (fun _ => rfl) s0.1 rfl rfl kk7 (by first | decide | omega) rfl ?_
  refine ex_go (S := (9, [(1, .inl (σ 7 0)), (0, gx_r 383)], [], t0, n, 0)) rfl (fun _ => rfl) rfl ?_
  refine ex_go (S := (10, [(1, .inl (σ 7 0)), (0, gx_r 383)], [.inl (σ 7 0)], t0, n, 0)) rfl (fun _ => rfl) rfl ?_
  refine ex_go (S := (12, [(1, .inl (σ 7 0)), (0, gx_r 383)], [.inl 6, .inl (σ 7 0)], t0, n, 0)) rfl (fun _ => rfl) rfl ?_
  by_cases hful : σ 7 0 = 6
  · refine gx_2f (c := .ne) rfl (by first | decide | omega) (by first | decide | omega) (show ¬ (σ 7 0 ≠ 6) from by omega) rfl ?_
    refine ex_go (S := (16, [(1, .inl (σ 7 0)), (0, gx_r 383)], [gx_r 383], t0, n, 0)) rfl (fun _ => rfl) rfl ?_
    refine ex_go (S := (17, [(1, .inl (σ 7 0)), (0, gx_r 383)], [.inl 5, gx_r 383], t0, n, 0)) rfl (fun _ => rfl) rfl ?_
    obtain ⟨_, r101, t101, a101, f101, rfl, s101, e101, q101⟩ := pe_wrong (d + 3) n (s0) hT (by first | decide | omega) (w := 5) (by first | decide | omega)
    have b101 := s101.2.2.2
    have hT101 := rT_keep hT (fun c i h => e101 c i (by first | decide | omega))
    refine gx_call0 rfl rfl s0.1 rfl rfl r101 rfl ?_
    have k2 : ai_hv t101 389 160 = some (.inl (σ 0 0)) := (e101 389 160 (by first | decide | omega)).trans kk0
    have k3 : ai_hv t101 389 161 = some (.inl (σ 1 0)) := (e101 389 161 (by first | decide | omega)).trans kk1
    have k4 : ai_hv t101 389 162 = some (.inl (σ 2 0)) := (e101 389 162 (by first | decide | omega)).trans kk2
    have k5 : ai_hv t101 389 163 = some (.inl (σ 3 0)) := (e101 389 163 (by first | decide | omega)).trans kk3
    have k6 : ai_hv t101 389 164 = some (.inl (σ 4 0)) := (e101 389 164 (by first | decide | omega)).trans kk4
    have k7 : ai_hv t101 389 166 = some (.inl (σ 5 0)) := (e101 389 166 (by first | decide | omega)).trans kk5
    have k8 : ai_hv t101 389 167 = some (.inl (σ 6 0)) := (e101 389 167 (by first | decide | omega)).trans kk6
    have k9 : ai_hv t101 389 168 = some (.inl (σ 7 0)) := (e101 389 168 (by first | decide | omega)).trans kk7
    have k10 : ai_hv t101 383 20 = some (.inl (σ 8 0)) := (e101 383 20 (by first | decide | omega)).trans kk8
    have k11 : ai_hv t101 383 19 = some (.inl (σ 15 0)) := (e101 383 19 (by first | decide | omega)).trans kk9
    refine ex_ret (r := (none, t101, n, 0)) rfl (fun _ => rfl) ?_
    have hT12 := rT_keep (t' := t101) hT (fun c i h => e101 c i (by first | decide | omega))
    refine ⟨_, rfl, t101, a101, f101, rfl, s101, hT12, ?_, by omega, fun h0 => by omega⟩
    rw [show a101 = a by omega, show f101 = 5 + 16 * sp_st S m a by omega]
    unfold sl_load
    have h5 : 5 + 16 * sp_st S m a ≠ 0 := by omega
    rw [fr_w hful, fm_no h5, fw_no h5, fn_no h5, fw_no h5, fn_no h5]
  · refine gx_2t (c := .ne) rfl (by first | decide | omega) (by first | decide | omega) (show σ 7 0 ≠ 6 from by omega) rfl ?_
    refine ex_go (S := (22, [(1, .inl (σ 7 0)), (0, gx_r 383)], [gx_r 383], t0, n, 0)) rfl (fun _ => rfl) rfl ?_
    refine ex_go (S := (24, [(1, .inl (σ 7 0)), (0, gx_r 383)], [.inl 20, gx_r 383], t0, n, 0)) rfl (fun _ => rfl) rfl ?_
    obtain ⟨_, r113, t113, a113, f113, rfl, s113, e113, z113, q113, u113⟩ := pe_readName d n (s0) hT ha (w := 20) (by first | decide | omega) kk9 hRN hK
    have b113 := s113.2.2.2
    have y113 : (a113, f113) = fm S m N (sg_told S m σ) (fr S m (σ 7 0 = 6) 5 (a, 0)) := z113.trans (congrArg (fm S m N (sg_told S m σ)) (fr_yes hful).symm)
    refine gx_call0 rfl rfl s0.1 rfl rfl r113 rfl ?_
    have k14 : ai_hv t113 389 160 = some (.inl (σ 0 0)) := (e113 389 160 (by first | decide | omega)).trans kk0
    have k15 : ai_hv t113 389 161 = some (.inl (σ 1 0)) := (e113 389 161 (by first | decide | omega)).trans kk1
    have k16 : ai_hv t113 389 162 = some (.inl (σ 2 0)) := (e113 389 162 (by first | decide | omega)).trans kk2
    have k17 : ai_hv t113 389 163 = some (.inl (σ 3 0)) := (e113 389 163 (by first | decide | omega)).trans kk3
    have k18 : ai_hv t113 389 164 = some (.inl (σ 4 0)) := (e113 389 164 (by first | decide | omega)).trans kk4
    have k19 : ai_hv t113 389 166 = some (.inl (σ 5 0)) := (e113 389 166 (by first | decide | omega)).trans kk5
    have k20 : ai_hv t113 389 167 = some (.inl (σ 6 0)) := (e113 389 167 (by first | decide | omega)).trans kk6
    have k21 : ai_hv t113 389 168 = some (.inl (σ 7 0)) := (e113 389 168 (by first | decide | omega)).trans kk7
    have k22 : ai_hv t113 383 20 = some (.inl (σ 8 0)) := (e113 383 20 (by first | decide | omega)).trans kk8
    refine ex_go (S := (28, [(1, .inl (σ 7 0)), (0, gx_r 383)], [gx_r 383], t113, n, 0)) rfl (fun _ => rfl) rfl ?_
    refine gx_ref (c := 389) rfl s113.1 rfl rfl rfl rfl ?_
    refine ex_go (S := (34, [(1, .inl (σ 7 0)), (0, gx_r 383)], [.inl 300, gx_r 389], t113, n, 0)) rfl (fun _ => rfl) rfl ?_
    refine ex_go (S := (35, [(1, .inl (σ 7 0)), (0, gx_r 383)], [.inl 2, .inl 300, gx_r 389], t113, n, 0)) rfl (fun _ => rfl) rfl ?_
    refine ex_go (S := (36, [(1, .inl (σ 7 0)), (0, gx_r 383)], [.inl (σ 7 0), .inl 2, .inl 300, gx_r 389], t113, n, 0)) rfl (fun _ => rfl) rfl ?_
    refine gx_imul rfl (by first | decide | omega) rfl ?_
    refine ex_iadd rfl (by first | decide | omega) rfl ?_
    refine ex_go (S := (39, [(1, .inl (σ 7 0)), (0, gx_r 383)], [gx_r 383, .inl (300 + (2 * (σ 7 0))), gx_r 389], t113, n, 0)) rfl (fun _ => rfl) rfl ?_
    refine ex_go (S := (41, [(1, .inl (σ 7 0)), (0, gx_r 383)], [.inl 18, gx_r 383, .inl (300 + (2 * (σ 7 0))), gx_r 389], t113, n, 0)) rfl (fun _ => rfl) rfl ?_
    refine ex_go (S := (42, [(1, .inl (σ 7 0)), (0, gx_r 383)], [.inl 0, .inl 18, gx_r 383, .inl (300 + (2 * (σ 7 0))), gx_r 389], t113, n, 0)) rfl (fun _ => rfl) rfl ?_
    refine ex_go (S := (45, [(1, .inl (σ 7 0)), (0, gx_r 383)], [.inl 999, .inl 0, .inl 18, gx_r 383, .inl (300 + (2 * (σ 7 0))), gx_r 389], t113, n, 0)) rfl (fun _ => rfl) rfl ?_
    have hT24 := rT_keep (t' := t113) hT (fun c i h => e113 c i (by first | decide | omega))
    obtain ⟨_, r123, v123, t123, a123, f123, rfl, s123, e123, z123, q123⟩ := pf_takeAfter d n (s113) hT24 (by first | decide | omega) (w := 18) (lo := 0) (hi := 999) (by first | decide | omega) (by first | decide | omega) (by first | decide | omega)
    have b123 := s123.2.2.2
    have y123 := z123.trans (congrArg (fun p9 => fn S m N 0 999 (fw S m N 18 p9)) y113)
    refine gx_call1 rfl rfl s113.1 rfl rfl r123 rfl ?_
    have k25 : ai_hv t123 389 160 = some (.inl (σ 0 0)) := (e123 389 160 (by first | decide | omega)).trans k14
    have k26 : ai_hv t123 389 161 = some (.inl (σ 1 0)) := (e123 389 161 (by first | decide | omega)).trans k15
    have k27 : ai_hv t123 389 162 = some (.inl (σ 2 0)) := (e123 389 162 (by first | decide | omega)).trans k16
    have k28 : ai_hv t123 389 163 = some (.inl (σ 3 0)) := (e123 389 163 (by first | decide | omega)).trans k17
    have k29 : ai_hv t123 389 164 = some (.inl (σ 4 0)) := (e123 389 164 (by first | decide | omega)).trans k18
    have k30 : ai_hv t123 389 166 = some (.inl (σ 5 0)) := (e123 389 166 (by first | decide | omega)).trans k19
    have k31 : ai_hv t123 389 167 = some (.inl (σ 6 0)) := (e123 389 167 (by first | decide | omega)).trans k20
    have k32 : ai_hv t123 389 168 = some (.inl (σ 7 0)) := (e123 389 168 (by first | decide | omega)).trans k21
    have k33 : ai_hv t123 383 20 = some (.inl (σ 8 0)) := (e123 383 20 (by first | decide | omega)).trans k22
    refine gx_ap rfl (fun _ => rfl) s123.1 rfl rfl rfl (show 300 + (2 * (σ 7 0)) < 320 from by omega) (px_run_load0 ((σ 7 0)) (by first | decide | omega) (by first | decide | omega)) (ai_in_h (by first | decide | omega) (by first | decide | omega) (by first | decide | omega)) rfl (fun t134 g134 k134 e134 => ?_)
    have k35 : ai_hv t134 389 160 = some (.inl (σ 0 0)) := (e134 389 160 (by first | decide | omega)).trans k25
    have k36 : ai_hv t134 389 161 = some (.inl (σ 1 0)) := (e134 389 161 (by first | decide | omega)).trans k26
    have k37 : ai_hv t134 389 162 = some (.inl (σ 2 0)) := (e134 389 162 (by first | decide | omega)).trans k27
    have k38 : ai_hv t134 389 163 = some (.inl (σ 3 0)) := (e134 389 163 (by first | decide | omega)).trans k28
    have k39 : ai_hv t134 389 164 = some (.inl (σ 4 0)) := (e134 389 164 (by first | decide | omega)).trans k29
    have k40 : ai_hv t134 389 166 = some (.inl (σ 5 0)) := (e134 389 166 (by first | decide | omega)).trans k30
    have k41 : ai_hv t134 389 167 = some (.inl (σ 6 0)) := (e134 389 167 (by first | decide | omega)).trans k31
    have k42 : ai_hv t134 389 168 = some (.inl (σ 7 0)) := (e134 389 168 (by first | decide | omega)).trans k32
    have k43 : ai_hv t134 383 20 = some (.inl (σ 8 0)) := (e134 383 20 (by first | decide | omega)).trans k33
    have s134 : px_S t134 a123 f123 := ⟨g134, (e134 383 7 (by first | decide | omega)).trans s123.2.1, (e134 383 8 (by first | decide | omega)).trans s123.2.2.1, s123.2.2.2⟩
    refine ex_go (S := (50, [(1, .inl (σ 7 0)), (0, gx_r 383)], [gx_r 383], t134, n, 0)) rfl (fun _ => rfl) rfl ?_
    refine gx_ref (c := 389) rfl s134.1 rfl rfl rfl rfl ?_
    refine ex_go (S := (56, [(1, .inl (σ 7 0)), (0, gx_r 383)], [.inl 300, gx_r 389], t134, n, 0)) rfl (fun _ => rfl) rfl ?_
    refine ex_go (S := (57, [(1, .inl (σ 7 0)), (0, gx_r 383)], [.inl 2, .inl 300, gx_r 389], t134, n, 0)) rfl (fun _ => rfl) rfl ?_
    refine ex_go (S := (58, [(1, .inl (σ 7 0)), (0, gx_r 383)], [.inl (σ 7 0), .inl 2, .inl 300, gx_r 389], t134, n, 0)) rfl (fun _ => rfl) rfl ?_
    refine gx_imul rfl (by first | decide | omega) rfl ?_
    refine ex_iadd rfl (by first | decide | omega) rfl ?_
    refine ex_go (S := (61, [(1, .inl (σ 7 0)), (0, gx_r 383)], [.inl 1, .inl (300 + (2 * (σ 7 0))), gx_r 389], t134, n, 0)) rfl (fun _ => rfl) rfl ?_
    refine ex_iadd rfl (by first | decide | omega) rfl ?_
    refine ex_go (S := (63, [(1, .inl (σ 7 0)), (0, gx_r 383)], [gx_r 383, .inl ((300 + (2 * (σ 7 0))) + 1), gx_r 389], t134, n, 0)) rfl (fun _ => rfl) rfl ?_
    refine ex_go (S := (65, [(1, .inl (σ 7 0)), (0, gx_r 383)], [.inl 19, gx_r 383, .inl ((300 + (2 * (σ 7 0))) + 1), gx_r 389], t134, n, 0)) rfl (fun _ => rfl) rfl ?_
    refine ex_go (S := (66, [(1, .inl (σ 7 0)), (0, gx_r 383)], [.inl 1, .inl 19, gx_r 383, .inl ((300 + (2 * (σ 7 0))) + 1), gx_r 389], t134, n, 0)) rfl (fun _ => rfl) rfl ?_
    refine ex_go (S := (68, [(1, .inl (σ 7 0)), (0, gx_r 383)], [.inl 9, .inl 1, .inl 19, gx_r 383, .inl ((300 + (2 * (σ 7 0))) + 1), gx_r 389], t134, n, 0)) rfl (fun _ => rfl) rfl ?_
    have hT45 := rT_keep (t' := t134) hT (fun c i h => (e134 c i (by first | decide | omega)).trans ((e123 c i (by first | decide | omega)).trans (e113 c i (by first | decide | omega))))
    obtain ⟨_, r144, v144, t144, a144, f144, rfl, s144, e144, z144, q144⟩ := pf_takeAfter d n (s134) hT45 (by first | decide | omega) (w := 19) (lo := 1) (hi := 9) (by first | decide | omega) (by first | decide | omega) (by first | decide | omega)
    have b144 := s144.2.2.2
    have y144 := z144.trans (congrArg (fun p9 => fn S m N 1 9 (fw S m N 19 p9)) y123)
    refine gx_call1 rfl rfl s134.1 rfl rfl r144 rfl ?_
    have k46 : ai_hv t144 389 160 = some (.inl (σ 0 0)) := (e144 389 160 (by first | decide | omega)).trans k35
    have k47 : ai_hv t144 389 161 = some (.inl (σ 1 0)) := (e144 389 161 (by first | decide | omega)).trans k36
    have k48 : ai_hv t144 389 162 = some (.inl (σ 2 0)) := (e144 389 162 (by first | decide | omega)).trans k37
    have k49 : ai_hv t144 389 163 = some (.inl (σ 3 0)) := (e144 389 163 (by first | decide | omega)).trans k38
    have k50 : ai_hv t144 389 164 = some (.inl (σ 4 0)) := (e144 389 164 (by first | decide | omega)).trans k39
    have k51 : ai_hv t144 389 166 = some (.inl (σ 5 0)) := (e144 389 166 (by first | decide | omega)).trans k40
    have k52 : ai_hv t144 389 167 = some (.inl (σ 6 0)) := (e144 389 167 (by first | decide | omega)).trans k41
    have k53 : ai_hv t144 389 168 = some (.inl (σ 7 0)) := (e144 389 168 (by first | decide | omega)).trans k42
    have k54 : ai_hv t144 383 20 = some (.inl (σ 8 0)) := (e144 383 20 (by first | decide | omega)).trans k43
    have k55 : ai_hv t144 389 (300 + (2 * (σ 7 0))) = some (.inl v123) := (e144 389 (300 + (2 * (σ 7 0))) (by first | decide | omega)).trans k134
    refine gx_ap rfl (fun _ => rfl) s144.1 rfl rfl rfl (show (300 + (2 * (σ 7 0))) + 1 < 320 from by omega) (px_run_load1 ((σ 7 0)) (by first | decide | omega) (by first | decide | omega)) (ai_in_h (by first | decide | omega) (by first | decide | omega) (by first | decide | omega)) rfl (fun t156 g156 k156 e156 => ?_)
    have k57 : ai_hv t156 389 160 = some (.inl (σ 0 0)) := (e156 389 160 (by first | decide | omega)).trans k46
    have k58 : ai_hv t156 389 161 = some (.inl (σ 1 0)) := (e156 389 161 (by first | decide | omega)).trans k47
    have k59 : ai_hv t156 389 162 = some (.inl (σ 2 0)) := (e156 389 162 (by first | decide | omega)).trans k48
    have k60 : ai_hv t156 389 163 = some (.inl (σ 3 0)) := (e156 389 163 (by first | decide | omega)).trans k49
    have k61 : ai_hv t156 389 164 = some (.inl (σ 4 0)) := (e156 389 164 (by first | decide | omega)).trans k50
    have k62 : ai_hv t156 389 166 = some (.inl (σ 5 0)) := (e156 389 166 (by first | decide | omega)).trans k51
    have k63 : ai_hv t156 389 167 = some (.inl (σ 6 0)) := (e156 389 167 (by first | decide | omega)).trans k52
    have k64 : ai_hv t156 389 168 = some (.inl (σ 7 0)) := (e156 389 168 (by first | decide | omega)).trans k53
    have k65 : ai_hv t156 383 20 = some (.inl (σ 8 0)) := (e156 383 20 (by first | decide | omega)).trans k54
    have k66 : ai_hv t156 389 (300 + (2 * (σ 7 0))) = some (.inl v123) := (e156 389 (300 + (2 * (σ 7 0))) (by first | decide | omega)).trans k55
    have s156 : px_S t156 a144 f144 := ⟨g156, (e156 383 7 (by first | decide | omega)).trans s144.2.1, (e156 383 8 (by first | decide | omega)).trans s144.2.2.1, s144.2.2.2⟩
    refine ex_go (S := (73, [(1, .inl (σ 7 0)), (0, gx_r 383)], [gx_r 383], t156, n, 0)) rfl (fun _ => rfl) rfl ?_
    refine gx_ref (c := 389) rfl s156.1 rfl rfl rfl rfl ?_
    refine ex_go (S := (79, [(1, .inl (σ 7 0)), (0, gx_r 383)], [.inl 168, gx_r 389], t156, n, 0)) rfl (fun _ => rfl) rfl ?_
    refine ex_go (S := (80, [(1, .inl (σ 7 0)), (0, gx_r 383)], [.inl 168, gx_r 389, .inl 168, gx_r 389], t156, n, 0)) rfl (fun _ => rfl) rfl ?_
    refine gx_ag (v := .inl (σ 7 0)) (cb := fun c => Nat.beq c 0) rfl (fun _ => rfl) s156.1 rfl rfl k64 (by first | decide | omega) rfl ?_
    refine ex_go (S := (82, [(1, .inl (σ 7 0)), (0, gx_r 383)], [.inl 1, .inl (σ 7 0), .inl 168, gx_r 389], t156, n, 0)) rfl (fun _ => rfl) rfl ?_
    refine ex_iadd rfl (by first | decide | omega) rfl ?_
    refine gx_ap rfl (fun _ => rfl) s156.1 rfl rfl rfl (show 168 < 320 from by omega) rfl (ai_in_h (by first | decide | omega) (by first | decide | omega) (by first | decide | omega)) rfl (fun t167 g167 k167 e167 => ?_)
    have k68 : ai_hv t167 389 160 = some (.inl (σ 0 0)) := (e167 389 160 (by first | decide | omega)).trans k57
    have k69 : ai_hv t167 389 161 = some (.inl (σ 1 0)) := (e167 389 161 (by first | decide | omega)).trans k58
    have k70 : ai_hv t167 389 162 = some (.inl (σ 2 0)) := (e167 389 162 (by first | decide | omega)).trans k59
    have k71 : ai_hv t167 389 163 = some (.inl (σ 3 0)) := (e167 389 163 (by first | decide | omega)).trans k60
    have k72 : ai_hv t167 389 164 = some (.inl (σ 4 0)) := (e167 389 164 (by first | decide | omega)).trans k61
    have k73 : ai_hv t167 389 166 = some (.inl (σ 5 0)) := (e167 389 166 (by first | decide | omega)).trans k62
    have k74 : ai_hv t167 389 167 = some (.inl (σ 6 0)) := (e167 389 167 (by first | decide | omega)).trans k63
    have k75 : ai_hv t167 383 20 = some (.inl (σ 8 0)) := (e167 383 20 (by first | decide | omega)).trans k65
    have k76 : ai_hv t167 389 (300 + (2 * (σ 7 0))) = some (.inl v123) := (e167 389 (300 + (2 * (σ 7 0))) (by first | decide | omega)).trans k66
    have k77 : ai_hv t167 389 ((300 + (2 * (σ 7 0))) + 1) = some (.inl v144) := (e167 389 ((300 + (2 * (σ 7 0))) + 1) (by first | decide | omega)).trans k156
    have s167 : px_S t167 a144 f144 := ⟨g167, (e167 383 7 (by first | decide | omega)).trans s156.2.1, (e167 383 8 (by first | decide | omega)).trans s156.2.2.1, s156.2.2.2⟩
    refine ex_ret (r := (none, t167, n, 0)) rfl (fun _ => rfl) ?_
    have hT78 := rT_keep (t' := t167) hT (fun c i h => (e167 c i (by first | decide | omega)).trans ((e156 c i (by first | decide | omega)).trans ((e144 c i (by first | decide | omega)).trans ((e134 c i (by first | decide | omega)).trans ((e123 c i (by first | decide | omega)).trans (e113 c i (by first | decide | omega)))))))
    refine ⟨_, rfl, t167, a144, f144, rfl, s167, hT78, y144, by omega, fun h0 => ⟨by omega, ?_⟩⟩
    obtain ⟨w1, w2, w3, w4, w5⟩ := u113 (by first | decide | omega)
    have x9 : RN t167 S m σ := fun k hk => ⟨((e167 393 k (by first | decide | omega)).trans ((e156 393 k (by first | decide | omega)).trans ((e144 393 k (by first | decide | omega)).trans ((e134 393 k (by first | decide | omega)).trans (e123 393 k (by first | decide | omega)))))).trans (w3 k hk).1, ((e167 395 k (by first | decide | omega)).trans ((e156 395 k (by first | decide | omega)).trans ((e144 395 k (by first | decide | omega)).trans ((e134 395 k (by first | decide | omega)).trans (e123 395 k (by first | decide | omega)))))).trans (w3 k hk).2⟩
    have x8 := RN_up (a := a + 1) (z := 19) (i := σ 7 0) (by first | decide | omega) x9 (((e167 393 (σ 15 0) (by first | decide | omega)).trans ((e156 393 (σ 15 0) (by first | decide | omega)).trans ((e144 393 (σ 15 0) (by first | decide | omega)).trans ((e134 393 (σ 15 0) (by first | decide | omega)).trans (e123 393 (σ 15 0) (by first | decide | omega)))))).trans w4) (((e167 395 (σ 15 0) (by first | decide | omega)).trans ((e156 395 (σ 15 0) (by first | decide | omega)).trans ((e144 395 (σ 15 0) (by first | decide | omega)).trans ((e134 395 (σ 15 0) (by first | decide | omega)).trans (e123 395 (σ 15 0) (by first | decide | omega)))))).trans w5)
    have xk79 : rows t167 389 236 3 (σ 2 0) (σ 10) := rows_keep hRk (fun i hi => (e167 389 (236 + 3 * i) (by first | decide | omega)).trans ((e156 389 (236 + 3 * i) (by first | decide | omega)).trans ((e144 389 (236 + 3 * i) (by first | decide | omega)).trans ((e134 389 (236 + 3 * i) (by first | decide | omega)).trans ((e123 389 (236 + 3 * i) (by first | decide | omega)).trans (e113 389 (236 + 3 * i) (by first | decide | omega)))))))
    have xb80 : rows t167 389 237 3 (σ 2 0) (fun i => sp_nv S m (σ 16 i + 3)) := rows_keep hb0 (fun i hi => (e167 389 (237 + 3 * i) (by first | decide | omega)).trans ((e156 389 (237 + 3 * i) (by first | decide | omega)).trans ((e144 389 (237 + 3 * i) (by first | decide | omega)).trans ((e134 389 (237 + 3 * i) (by first | decide | omega)).trans ((e123 389 (237 + 3 * i) (by first | decide | omega)).trans (e113 389 (237 + 3 * i) (by first | decide | omega)))))))
    have xb81 : rows t167 389 238 3 (σ 2 0) (fun i => sp_nv S m (σ 16 i + 4)) := rows_keep hb1 (fun i hi => (e167 389 (238 + 3 * i) (by first | decide | omega)).trans ((e156 389 (238 + 3 * i) (by first | decide | omega)).trans ((e144 389 (238 + 3 * i) (by first | decide | omega)).trans ((e134 389 (238 + 3 * i) (by first | decide | omega)).trans ((e123 389 (238 + 3 * i) (by first | decide | omega)).trans (e113 389 (238 + 3 * i) (by first | decide | omega)))))))
    have xb82 : rows t167 389 255 4 (σ 3 0) (fun i => sp_nv S m (σ 20 i + 4)) := rows_keep hb2 (fun i hi => (e167 389 (255 + 4 * i) (by first | decide | omega)).trans ((e156 389 (255 + 4 * i) (by first | decide | omega)).trans ((e144 389 (255 + 4 * i) (by first | decide | omega)).trans ((e134 389 (255 + 4 * i) (by first | decide | omega)).trans ((e123 389 (255 + 4 * i) (by first | decide | omega)).trans (e113 389 (255 + 4 * i) (by first | decide | omega)))))))
    have xb83 : rows t167 389 256 4 (σ 3 0) (fun i => sp_nv S m (σ 20 i + 6)) := rows_keep hb3 (fun i hi => (e167 389 (256 + 4 * i) (by first | decide | omega)).trans ((e156 389 (256 + 4 * i) (by first | decide | omega)).trans ((e144 389 (256 + 4 * i) (by first | decide | omega)).trans ((e134 389 (256 + 4 * i) (by first | decide | omega)).trans ((e123 389 (256 + 4 * i) (by first | decide | omega)).trans (e113 389 (256 + 4 * i) (by first | decide | omega)))))))
    have xb84 : rows t167 389 257 4 (σ 3 0) (fun i => sp_nv S m (σ 20 i + 8)) := rows_keep hb4 (fun i hi => (e167 389 (257 + 4 * i) (by first | decide | omega)).trans ((e156 389 (257 + 4 * i) (by first | decide | omega)).trans ((e144 389 (257 + 4 * i) (by first | decide | omega)).trans ((e134 389 (257 + 4 * i) (by first | decide | omega)).trans ((e123 389 (257 + 4 * i) (by first | decide | omega)).trans (e113 389 (257 + 4 * i) (by first | decide | omega)))))))
    have xb85 : rows t167 389 279 3 (σ 4 0) (fun i => sp_nv S m (σ 21 i + 3)) := rows_keep hb5 (fun i hi => (e167 389 (279 + 3 * i) (by first | decide | omega)).trans ((e156 389 (279 + 3 * i) (by first | decide | omega)).trans ((e144 389 (279 + 3 * i) (by first | decide | omega)).trans ((e134 389 (279 + 3 * i) (by first | decide | omega)).trans ((e123 389 (279 + 3 * i) (by first | decide | omega)).trans (e113 389 (279 + 3 * i) (by first | decide | omega)))))))
    have xb86 : rows t167 389 280 3 (σ 4 0) (fun i => sp_nv S m (σ 21 i + 5)) := rows_keep hb6 (fun i hi => (e167 389 (280 + 3 * i) (by first | decide | omega)).trans ((e156 389 (280 + 3 * i) (by first | decide | omega)).trans ((e144 389 (280 + 3 * i) (by first | decide | omega)).trans ((e134 389 (280 + 3 * i) (by first | decide | omega)).trans ((e123 389 (280 + 3 * i) (by first | decide | omega)).trans (e113 389 (280 + 3 * i) (by first | decide | omega)))))))
    have xb87 : rows t167 389 284 2 (σ 5 0) (fun i => sp_nv S m (σ 17 i + 2)) := rows_keep hb7 (fun i hi => (e167 389 (284 + 2 * i) (by first | decide | omega)).trans ((e156 389 (284 + 2 * i) (by first | decide | omega)).trans ((e144 389 (284 + 2 * i) (by first | decide | omega)).trans ((e134 389 (284 + 2 * i) (by first | decide | omega)).trans ((e123 389 (284 + 2 * i) (by first | decide | omega)).trans (e113 389 (284 + 2 * i) (by first | decide | omega)))))))
    have xb88 : rows t167 389 285 2 (σ 5 0) (fun i => sp_nv S m (σ 17 i + 4)) := rows_keep hb8 (fun i hi => (e167 389 (285 + 2 * i) (by first | decide | omega)).trans ((e156 389 (285 + 2 * i) (by first | decide | omega)).trans ((e144 389 (285 + 2 * i) (by first | decide | omega)).trans ((e134 389 (285 + 2 * i) (by first | decide | omega)).trans ((e123 389 (285 + 2 * i) (by first | decide | omega)).trans (e113 389 (285 + 2 * i) (by first | decide | omega)))))))
    have xb89 : rows t167 389 294 1 (σ 6 0) (fun i => sp_nv S m (σ 18 i + 2)) := rows_keep hb9 (fun i hi => (e167 389 (294 + 1 * i) (by first | decide | omega)).trans ((e156 389 (294 + 1 * i) (by first | decide | omega)).trans ((e144 389 (294 + 1 * i) (by first | decide | omega)).trans ((e134 389 (294 + 1 * i) (by first | decide | omega)).trans ((e123 389 (294 + 1 * i) (by first | decide | omega)).trans (e113 389 (294 + 1 * i) (by first | decide | omega)))))))
    have xb90 : rows t167 389 300 2 (σ 7 0) (fun i => sp_nv S m (σ 19 i + 2)) := rows_keep hb10 (fun i hi => (e167 389 (300 + 2 * i) (by first | decide | omega)).trans ((e156 389 (300 + 2 * i) (by first | decide | omega)).trans ((e144 389 (300 + 2 * i) (by first | decide | omega)).trans ((e134 389 (300 + 2 * i) (by first | decide | omega)).trans ((e123 389 (300 + 2 * i) (by first | decide | omega)).trans (e113 389 (300 + 2 * i) (by first | decide | omega)))))))
    have hnv91 : ai_hv t167 389 (300 + 2 * σ 7 0) = some (.inl (sp_nv S m (a + 1 + 2))) := by
      have h9 : v123 = sp_nv S m (a + 3) := by rw [← show a113 + 1 = a + 3 by omega]; omega
      show _ = some (Sum.inl (sp_nv S m (a + 3)))
      rw [← h9, show 300 + 2 * σ 7 0 = 300 + (2 * (σ 7 0)) by omega]
      exact k76
    have xb92 : rows t167 389 301 2 (σ 7 0) (fun i => sp_nv S m (σ 19 i + 4)) := rows_keep hb11 (fun i hi => (e167 389 (301 + 2 * i) (by first | decide | omega)).trans ((e156 389 (301 + 2 * i) (by first | decide | omega)).trans ((e144 389 (301 + 2 * i) (by first | decide | omega)).trans ((e134 389 (301 + 2 * i) (by first | decide | omega)).trans ((e123 389 (301 + 2 * i) (by first | decide | omega)).trans (e113 389 (301 + 2 * i) (by first | decide | omega)))))))
    have hnv93 : ai_hv t167 389 (301 + 2 * σ 7 0) = some (.inl (sp_nv S m (a + 1 + 4))) := by
      have h9 : v144 = sp_nv S m (a + 5) := by rw [← show a123 + 1 = a + 5 by omega]; omega
      show _ = some (Sum.inl (sp_nv S m (a + 5)))
      rw [← h9, show 301 + 2 * σ 7 0 = (300 + (2 * (σ 7 0))) + 1 by omega]
      exact k77
    have xb94 : rows t167 389 172 1 64 (σ 23) := rows_keep hb13 (fun i hi => (e167 389 (172 + 1 * i) (by first | decide | omega)).trans ((e156 389 (172 + 1 * i) (by first | decide | omega)).trans ((e144 389 (172 + 1 * i) (by first | decide | omega)).trans ((e134 389 (172 + 1 * i) (by first | decide | omega)).trans ((e123 389 (172 + 1 * i) (by first | decide | omega)).trans (e113 389 (172 + 1 * i) (by first | decide | omega)))))))
    have xk95 : rows t167 389 254 4 (σ 3 0) (σ 11) := rows_keep hRl (fun i hi => (e167 389 (254 + 4 * i) (by first | decide | omega)).trans ((e156 389 (254 + 4 * i) (by first | decide | omega)).trans ((e144 389 (254 + 4 * i) (by first | decide | omega)).trans ((e134 389 (254 + 4 * i) (by first | decide | omega)).trans ((e123 389 (254 + 4 * i) (by first | decide | omega)).trans (e113 389 (254 + 4 * i) (by first | decide | omega)))))))
    have xk96 : rows t167 389 278 3 (σ 4 0) (σ 12) := rows_keep hRs (fun i hi => (e167 389 (278 + 3 * i) (by first | decide | omega)).trans ((e156 389 (278 + 3 * i) (by first | decide | omega)).trans ((e144 389 (278 + 3 * i) (by first | decide | omega)).trans ((e134 389 (278 + 3 * i) (by first | decide | omega)).trans ((e123 389 (278 + 3 * i) (by first | decide | omega)).trans (e113 389 (278 + 3 * i) (by first | decide | omega)))))))
    exact ⟨⟨k68, k69, k70, k71, k72, k73, k74, k167, k75, ((e167 383 19 (by first | decide | omega)).trans ((e156 383 19 (by first | decide | omega)).trans ((e144 383 19 (by first | decide | omega)).trans ((e134 383 19 (by first | decide | omega)).trans (e123 383 19 (by first | decide | omega)))))).trans w2⟩, fun k hk => by
        rcases hRL k hk with ⟨h1, h2⟩ | ⟨h1, z, h2, h3⟩
        · exact Or.inl ⟨h1, ((e167 389 (169 + k) (by first | decide | omega)).trans ((e156 389 (169 + k) (by first | decide | omega)).trans ((e144 389 (169 + k) (by first | decide | omega)).trans ((e134 389 (169 + k) (by first | decide | omega)).trans ((e123 389 (169 + k) (by first | decide | omega)).trans (e113 389 (169 + k) (by first | decide | omega))))))).trans h2⟩
        · exact Or.inr ⟨h1, z, ((e167 389 (169 + k) (by first | decide | omega)).trans ((e156 389 (169 + k) (by first | decide | omega)).trans ((e144 389 (169 + k) (by first | decide | omega)).trans ((e134 389 (169 + k) (by first | decide | omega)).trans ((e123 389 (169 + k) (by first | decide | omega)).trans (e113 389 (169 + k) (by first | decide | omega))))))).trans h2, h3⟩, xk79, xk95, xk96, x8, xb80, xb81, xb82, xb83, xb84, xb85, xb86, xb87, xb88, xb89, rows_tk (g := σ 19) xb90 hnv91, rows_tk (g := σ 19) xb92 hnv93, ((e167 389 165 (by first | decide | omega)).trans ((e156 389 165 (by first | decide | omega)).trans ((e144 389 165 (by first | decide | omega)).trans ((e134 389 165 (by first | decide | omega)).trans ((e123 389 165 (by first | decide | omega)).trans (e113 389 165 (by first | decide | omega))))))).trans hb12, xb94⟩
end SPL
