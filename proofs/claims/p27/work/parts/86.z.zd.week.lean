section SWR
theorem pe_readWeek0 (d n : Nat) {t0 : en_H} {a i : Nat} {S S0 : Nat → Nat} {m N m0 N0 : Nat} {υ : Nat → Nat → Nat} (s0 : px_S t0 a 0) (hT : rT t0 S m N) (ha : a ≤ N) (hN : TN t0 S0 m0 υ) (h3 : W3 S0 m0 N0 υ) (hc : WC S0 m0 N0 υ) (ko : ai_hv t0 389 0 = some (.inl (υ 0 0))) (kd : ai_hv t0 389 1 = some (.inl (υ 1 0))) (hi : 110 ≤ i ∧ i + 2 < 210) : ∃ r, en_u (d + 5) 102 [gx_r 383, .inl 0, .inl i] t0 n = some r ∧ ∃ t' a' f', r = (none, t', n, 0) ∧ px_S t' a' f' ∧ (∀ c j, ¬ ((c = 383 ∧ (j = 7 ∨ j = 8)) ∨ (c = 396 ∧ i ≤ j ∧ j ≤ i + 2)) → ai_hv t' c j = ai_hv t0 c j) ∧ (a', f') = fn S m N 1 30 (a, 0) ∧ (a' ≤ N ∧ a ≤ a') ∧ (f' = 0 → ai_hv t' 396 i = some (.inl (sp_nv S m a)) ∧ (1 ≤ sp_nv S m a ∧ sp_nv S m a ≤ 30)) := by
  have b0 := s0.2.2.2
  have hNN := hT.2.2.2.2.1
  have hBB := h3.1.1
  have h4 : υ 4 0 ≤ 2 := h3.1.1.2.2.1
  have y0 : (a, 0) = (a, 0) := rfl
  refine en_u_ex (d := d + 4) rfl ?_
  show en_ex _ _ _ _ (0, [(0, gx_r 383), (1, .inl 0), (2, .inl i)], [], t0, n, 0) _
  refine ex_go (S := (1, [(0, gx_r 383), (1, .inl 0), (2, .inl i)], [gx_r 383], t0, n, 0)) rfl (fun _ => rfl) rfl ?_
  refine gx_ref (c := 396) rfl s0.1 rfl rfl rfl rfl ?_
  refine ex_go (S := (5, [(0, gx_r 383), (1, .inl 0), (2, .inl i)], [.inl i, gx_r 396], t0, n, 0)) rfl (fun _ => rfl) rfl ?_
  refine ex_go (S := (6, [(0, gx_r 383), (1, .inl 0), (2, .inl i)], [.inl 0, .inl i, gx_r 396], t0, n, 0)) rfl (fun _ => rfl) rfl ?_
  refine ex_go (S := (9, [(0, gx_r 383), (1, .inl 0), (2, .inl i)], [.inl i, gx_r 396], t0, n, 0)) rfl (fun _ => rfl) rfl ?_
  refine ex_go (S := (10, [(0, gx_r 383), (1, .inl 0), (2, .inl i)], [gx_r 383, .inl i, gx_r 396], t0, n, 0)) rfl (fun _ => rfl) rfl ?_
  refine ex_go (S := (11, [(0, gx_r 383), (1, .inl 0), (2, .inl i)], [.inl 1, gx_r 383, .inl i, gx_r 396], t0, n, 0)) rfl (fun _ => rfl) rfl ?_
  refine ex_go (S := (13, [(0, gx_r 383), (1, .inl 0), (2, .inl i)], [.inl 30, .inl 1, gx_r 383, .inl i, gx_r 396], t0, n, 0)) rfl (fun _ => rfl) rfl ?_
  obtain ⟨_, r101, v101, t101, a101, f101, rfl, s101, e101, z101, q101⟩ := pf_takeNumber (d + 2) n (s0) hT (by first | decide | omega) (lo := 1) (hi := 30) (by first | decide | omega) (by first | decide | omega)
  have b101 := s101.2.2.2
  have y101 := z101.trans (congrArg (fn S m N 1 30) y0)
  refine gx_call1 rfl rfl s0.1 rfl rfl r101 rfl ?_
  have k2 : ai_hv t101 389 0 = some (.inl (υ 0 0)) := (e101 389 0 (by first | decide | omega)).trans ko
  have k3 : ai_hv t101 389 1 = some (.inl (υ 1 0)) := (e101 389 1 (by first | decide | omega)).trans kd
  refine ex_go (S := (23, [(0, gx_r 383), (1, .inl 0), (2, .inl i)], [.inl v101, .inl i, gx_r 396], t101, n, 0)) rfl (fun _ => rfl) rfl ?_
  refine gx_ap rfl (fun _ => rfl) s101.1 rfl rfl rfl (show i < 210 from by omega) ((gx_run2 (by first | decide | omega)).trans (gx_run1 (show i < 210 from by omega))) (gx_full (by first | decide | omega)) rfl (fun t104 g104 k104 e104 => ?_)
  have k5 : ai_hv t104 389 0 = some (.inl (υ 0 0)) := (e104 389 0 (by first | decide | omega)).trans k2
  have k6 : ai_hv t104 389 1 = some (.inl (υ 1 0)) := (e104 389 1 (by first | decide | omega)).trans k3
  have s104 : px_S t104 a101 f101 := ⟨g104, (e104 383 7 (by first | decide | omega)).trans s101.2.1, (e104 383 8 (by first | decide | omega)).trans s101.2.2.1, s101.2.2.2⟩
  refine ex_go (S := (25, [(0, gx_r 383), (1, .inl 0), (2, .inl i)], [.inl 0], t104, n, 0)) rfl (fun _ => rfl) rfl ?_
  refine ex_go (S := (26, [(0, gx_r 383), (1, .inl 0), (2, .inl i)], [.inl 1, .inl 0], t104, n, 0)) rfl (fun _ => rfl) rfl ?_
  refine ex_go (S := (74, [(0, gx_r 383), (1, .inl 0), (2, .inl i)], [], t104, n, 0)) rfl (fun _ => rfl) rfl ?_
  refine ex_go (S := (75, [(0, gx_r 383), (1, .inl 0), (2, .inl i)], [.inl 0], t104, n, 0)) rfl (fun _ => rfl) rfl ?_
  refine ex_go (S := (76, [(0, gx_r 383), (1, .inl 0), (2, .inl i)], [.inl 2, .inl 0], t104, n, 0)) rfl (fun _ => rfl) rfl ?_
  refine ex_go (S := (95, [(0, gx_r 383), (1, .inl 0), (2, .inl i)], [], t104, n, 0)) rfl (fun _ => rfl) rfl ?_
  refine ex_ret (r := (none, t104, n, 0)) rfl (fun _ => rfl) ?_
  exact ⟨_, rfl, t104, a101, f101, rfl, s104, (fun c j h => (e104 c j (by first | decide | omega)).trans (e101 c j (by first | decide | omega))), y101, by omega, fun h9 => ⟨k104.trans (by rw [show v101 = sp_nv S m a by omega]), (by have h8 : v101 = sp_nv S m a := (by first | decide | omega); omega)⟩⟩
theorem pe_readWeek1 (d n : Nat) {t0 : en_H} {a i : Nat} {S S0 : Nat → Nat} {m N m0 N0 : Nat} {υ : Nat → Nat → Nat} (s0 : px_S t0 a 0) (hT : rT t0 S m N) (ha : a ≤ N) (hN : TN t0 S0 m0 υ) (h3 : W3 S0 m0 N0 υ) (hc : WC S0 m0 N0 υ) (ko : ai_hv t0 389 0 = some (.inl (υ 0 0))) (kd : ai_hv t0 389 1 = some (.inl (υ 1 0))) (hi : 110 ≤ i ∧ i + 2 < 210) : ∃ r, en_u (d + 5) 102 [gx_r 383, .inl 1, .inl i] t0 n = some r ∧ ∃ t' a' f', r = (none, t', n, 0) ∧ px_S t' a' f' ∧ (∀ c j, ¬ ((c = 383 ∧ (j = 7 ∨ j = 8)) ∨ (c = 396 ∧ i ≤ j ∧ j ≤ i + 2)) → ai_hv t' c j = ai_hv t0 c j) ∧ (a', f') = fn S m N 0 (υ 1 0 - 1) (fn S m N 0 (υ 0 0 - 1) (fk S m N (tcr S0 m0 υ S m) (a, 0))) ∧ (a' ≤ N ∧ a ≤ a') ∧ (f' = 0 → (∃ c9, crw S0 m0 υ S m a c9 ∧ ai_hv t' 396 i = some (.inl c9)) ∧ ai_hv t' 396 (i + 1) = some (.inl (sp_nv S m (a + 1))) ∧ ai_hv t' 396 (i + 2) = some (.inl (sp_nv S m (a + 2))) ∧ sp_nv S m (a + 1) < υ 0 0 ∧ sp_nv S m (a + 2) < υ 1 0) := by
  have b0 := s0.2.2.2
  have hNN := hT.2.2.2.2.1
  have hBB := h3.1.1
  have h4 : υ 4 0 ≤ 2 := h3.1.1.2.2.1
  have y0 : (a, 0) = (a, 0) := rfl
  refine en_u_ex (d := d + 4) rfl ?_
  show en_ex _ _ _ _ (0, [(0, gx_r 383), (1, .inl 1), (2, .inl i)], [], t0, n, 0) _
  refine ex_go (S := (1, [(0, gx_r 383), (1, .inl 1), (2, .inl i)], [gx_r 383], t0, n, 0)) rfl (fun _ => rfl) rfl ?_
  refine gx_ref (c := 396) rfl s0.1 rfl rfl rfl rfl ?_
  refine ex_go (S := (5, [(0, gx_r 383), (1, .inl 1), (2, .inl i)], [.inl i, gx_r 396], t0, n, 0)) rfl (fun _ => rfl) rfl ?_
  refine ex_go (S := (6, [(0, gx_r 383), (1, .inl 1), (2, .inl i)], [.inl 1, .inl i, gx_r 396], t0, n, 0)) rfl (fun _ => rfl) rfl ?_
  refine ex_go (S := (19, [(0, gx_r 383), (1, .inl 1), (2, .inl i)], [.inl i, gx_r 396], t0, n, 0)) rfl (fun _ => rfl) rfl ?_
  refine ex_go (S := (20, [(0, gx_r 383), (1, .inl 1), (2, .inl i)], [gx_r 383, .inl i, gx_r 396], t0, n, 0)) rfl (fun _ => rfl) rfl ?_
  have hN101 : TN t0 S0 m0 υ := TN_keep hN (fun c i h _ => rfl) h4
  obtain ⟨_, r101, v101, t101, a101, f101, rfl, s101, e101, z101, q101, wc101⟩ := pe_takeCrew (d) n (s0) hT (by first | decide | omega) hN101 h3 hc
  have b101 := s101.2.2.2
  have y101 := z101.trans (congrArg (fk S m N (tcr S0 m0 υ S m)) y0)
  refine gx_call1 rfl rfl s0.1 rfl rfl r101 rfl ?_
  have k2 : ai_hv t101 389 0 = some (.inl (υ 0 0)) := (e101 389 0 (by first | decide | omega)).trans ko
  have k3 : ai_hv t101 389 1 = some (.inl (υ 1 0)) := (e101 389 1 (by first | decide | omega)).trans kd
  have hv101 : v101 < 4294967296 := by omega
  refine gx_ap rfl (fun _ => rfl) s101.1 rfl rfl rfl (show i < 210 from by omega) ((gx_run2 (by first | decide | omega)).trans (gx_run1 (show i < 210 from by omega))) (gx_full (by first | decide | omega)) rfl (fun t104 g104 k104 e104 => ?_)
  have k5 : ai_hv t104 389 0 = some (.inl (υ 0 0)) := (e104 389 0 (by first | decide | omega)).trans k2
  have k6 : ai_hv t104 389 1 = some (.inl (υ 1 0)) := (e104 389 1 (by first | decide | omega)).trans k3
  have s104 : px_S t104 a101 f101 := ⟨g104, (e104 383 7 (by first | decide | omega)).trans s101.2.1, (e104 383 8 (by first | decide | omega)).trans s101.2.2.1, s101.2.2.2⟩
  refine ex_go (S := (25, [(0, gx_r 383), (1, .inl 1), (2, .inl i)], [.inl 1], t104, n, 0)) rfl (fun _ => rfl) rfl ?_
  refine ex_go (S := (26, [(0, gx_r 383), (1, .inl 1), (2, .inl i)], [.inl 1, .inl 1], t104, n, 0)) rfl (fun _ => rfl) rfl ?_
  refine ex_go (S := (29, [(0, gx_r 383), (1, .inl 1), (2, .inl i)], [], t104, n, 0)) rfl (fun _ => rfl) rfl ?_
  refine ex_go (S := (30, [(0, gx_r 383), (1, .inl 1), (2, .inl i)], [gx_r 383], t104, n, 0)) rfl (fun _ => rfl) rfl ?_
  refine gx_ref (c := 396) rfl s104.1 rfl rfl rfl rfl ?_
  refine ex_go (S := (34, [(0, gx_r 383), (1, .inl 1), (2, .inl i)], [.inl i, gx_r 396], t104, n, 0)) rfl (fun _ => rfl) rfl ?_
  refine ex_go (S := (35, [(0, gx_r 383), (1, .inl 1), (2, .inl i)], [.inl 1, .inl i, gx_r 396], t104, n, 0)) rfl (fun _ => rfl) rfl ?_
  refine ex_iadd rfl (by first | decide | omega) rfl ?_
  refine ex_go (S := (37, [(0, gx_r 383), (1, .inl 1), (2, .inl i)], [gx_r 383, .inl (i + 1), gx_r 396], t104, n, 0)) rfl (fun _ => rfl) rfl ?_
  refine ex_go (S := (38, [(0, gx_r 383), (1, .inl 1), (2, .inl i)], [.inl 0, gx_r 383, .inl (i + 1), gx_r 396], t104, n, 0)) rfl (fun _ => rfl) rfl ?_
  refine ex_go (S := (39, [(0, gx_r 383), (1, .inl 1), (2, .inl i)], [gx_r 383, .inl 0, gx_r 383, .inl (i + 1), gx_r 396], t104, n, 0)) rfl (fun _ => rfl) rfl ?_
  refine gx_ref (c := 389) rfl s104.1 rfl rfl rfl rfl ?_
  refine ex_go (S := (43, [(0, gx_r 383), (1, .inl 1), (2, .inl i)], [.inl 0, gx_r 389, .inl 0, gx_r 383, .inl (i + 1), gx_r 396], t104, n, 0)) rfl (fun _ => rfl) rfl ?_
  refine gx_ag (v := .inl (υ 0 0)) (cb := fun c => Nat.beq c 0) rfl (fun _ => rfl) s104.1 rfl rfl k5 (by first | decide | omega) rfl ?_
  refine ex_go (S := (45, [(0, gx_r 383), (1, .inl 1), (2, .inl i)], [.inl 1, .inl (υ 0 0), .inl 0, gx_r 383, .inl (i + 1), gx_r 396], t104, n, 0)) rfl (fun _ => rfl) rfl ?_
  refine gx_isub rfl (by first | decide | omega) (by first | decide | omega) rfl ?_
  have hT8 := rT_keep (t' := t104) hT (fun c i h => (e104 c i (by first | decide | omega)).trans (e101 c i (by first | decide | omega)))
  obtain ⟨_, r107, v107, t107, a107, f107, rfl, s107, e107, z107, q107⟩ := pf_takeNumber (d + 2) n (s104) hT8 (by first | decide | omega) (lo := 0) (hi := (υ 0 0) - 1) (by first | decide | omega) (by first | decide | omega)
  have b107 := s107.2.2.2
  have y107 := z107.trans (congrArg (fn S m N 0 ((υ 0 0) - 1)) y101)
  refine gx_call1 rfl rfl s104.1 rfl rfl r107 rfl ?_
  have k9 : ai_hv t107 389 0 = some (.inl (υ 0 0)) := (e107 389 0 (by first | decide | omega)).trans k5
  have k10 : ai_hv t107 389 1 = some (.inl (υ 1 0)) := (e107 389 1 (by first | decide | omega)).trans k6
  have k11 : ai_hv t107 396 i = some (.inl v101) := (e107 396 i (by first | decide | omega)).trans k104
  refine gx_ap rfl (fun _ => rfl) s107.1 rfl rfl rfl (show i + 1 < 210 from by omega) ((gx_run2 (by first | decide | omega)).trans (gx_run1 (show i + 1 < 210 from by omega))) (gx_full (by first | decide | omega)) rfl (fun t112 g112 k112 e112 => ?_)
  have k13 : ai_hv t112 389 0 = some (.inl (υ 0 0)) := (e112 389 0 (by first | decide | omega)).trans k9
  have k14 : ai_hv t112 389 1 = some (.inl (υ 1 0)) := (e112 389 1 (by first | decide | omega)).trans k10
  have k15 : ai_hv t112 396 i = some (.inl v101) := (e112 396 i (by first | decide | omega)).trans k11
  have s112 : px_S t112 a107 f107 := ⟨g112, (e112 383 7 (by first | decide | omega)).trans s107.2.1, (e112 383 8 (by first | decide | omega)).trans s107.2.2.1, s107.2.2.2⟩
  refine ex_go (S := (51, [(0, gx_r 383), (1, .inl 1), (2, .inl i)], [gx_r 383], t112, n, 0)) rfl (fun _ => rfl) rfl ?_
  refine gx_ref (c := 396) rfl s112.1 rfl rfl rfl rfl ?_
  refine ex_go (S := (55, [(0, gx_r 383), (1, .inl 1), (2, .inl i)], [.inl i, gx_r 396], t112, n, 0)) rfl (fun _ => rfl) rfl ?_
  refine ex_go (S := (56, [(0, gx_r 383), (1, .inl 1), (2, .inl i)], [.inl 2, .inl i, gx_r 396], t112, n, 0)) rfl (fun _ => rfl) rfl ?_
  refine ex_iadd rfl (by first | decide | omega) rfl ?_
  refine ex_go (S := (58, [(0, gx_r 383), (1, .inl 1), (2, .inl i)], [gx_r 383, .inl (i + 2), gx_r 396], t112, n, 0)) rfl (fun _ => rfl) rfl ?_
  refine ex_go (S := (59, [(0, gx_r 383), (1, .inl 1), (2, .inl i)], [.inl 0, gx_r 383, .inl (i + 2), gx_r 396], t112, n, 0)) rfl (fun _ => rfl) rfl ?_
  refine ex_go (S := (60, [(0, gx_r 383), (1, .inl 1), (2, .inl i)], [gx_r 383, .inl 0, gx_r 383, .inl (i + 2), gx_r 396], t112, n, 0)) rfl (fun _ => rfl) rfl ?_
  refine gx_ref (c := 389) rfl s112.1 rfl rfl rfl rfl ?_
  refine ex_go (S := (64, [(0, gx_r 383), (1, .inl 1), (2, .inl i)], [.inl 1, gx_r 389, .inl 0, gx_r 383, .inl (i + 2), gx_r 396], t112, n, 0)) rfl (fun _ => rfl) rfl ?_
  refine gx_ag (v := .inl (υ 1 0)) (cb := fun c => Nat.beq c 0) rfl (fun _ => rfl) s112.1 rfl rfl k14 (by first | decide | omega) rfl ?_
  refine ex_go (S := (66, [(0, gx_r 383), (1, .inl 1), (2, .inl i)], [.inl 1, .inl (υ 1 0), .inl 0, gx_r 383, .inl (i + 2), gx_r 396], t112, n, 0)) rfl (fun _ => rfl) rfl ?_
  refine gx_isub rfl (by first | decide | omega) (by first | decide | omega) rfl ?_
  have hT17 := rT_keep (t' := t112) hT (fun c i h => (e112 c i (by first | decide | omega)).trans ((e107 c i (by first | decide | omega)).trans ((e104 c i (by first | decide | omega)).trans (e101 c i (by first | decide | omega)))))
  obtain ⟨_, r116, v116, t116, a116, f116, rfl, s116, e116, z116, q116⟩ := pf_takeNumber (d + 2) n (s112) hT17 (by first | decide | omega) (lo := 0) (hi := (υ 1 0) - 1) (by first | decide | omega) (by first | decide | omega)
  have b116 := s116.2.2.2
  have y116 := z116.trans (congrArg (fn S m N 0 ((υ 1 0) - 1)) y107)
  refine gx_call1 rfl rfl s112.1 rfl rfl r116 rfl ?_
  have k18 : ai_hv t116 389 0 = some (.inl (υ 0 0)) := (e116 389 0 (by first | decide | omega)).trans k13
  have k19 : ai_hv t116 389 1 = some (.inl (υ 1 0)) := (e116 389 1 (by first | decide | omega)).trans k14
  have k20 : ai_hv t116 396 i = some (.inl v101) := (e116 396 i (by first | decide | omega)).trans k15
  have k21 : ai_hv t116 396 (i + 1) = some (.inl v107) := (e116 396 (i + 1) (by first | decide | omega)).trans k112
  refine gx_ap rfl (fun _ => rfl) s116.1 rfl rfl rfl (show i + 2 < 210 from by omega) ((gx_run2 (by first | decide | omega)).trans (gx_run1 (show i + 2 < 210 from by omega))) (gx_full (by first | decide | omega)) rfl (fun t122 g122 k122 e122 => ?_)
  have k23 : ai_hv t122 389 0 = some (.inl (υ 0 0)) := (e122 389 0 (by first | decide | omega)).trans k18
  have k24 : ai_hv t122 389 1 = some (.inl (υ 1 0)) := (e122 389 1 (by first | decide | omega)).trans k19
  have k25 : ai_hv t122 396 i = some (.inl v101) := (e122 396 i (by first | decide | omega)).trans k20
  have k26 : ai_hv t122 396 (i + 1) = some (.inl v107) := (e122 396 (i + 1) (by first | decide | omega)).trans k21
  have s122 : px_S t122 a116 f116 := ⟨g122, (e122 383 7 (by first | decide | omega)).trans s116.2.1, (e122 383 8 (by first | decide | omega)).trans s116.2.2.1, s116.2.2.2⟩
  refine ex_go (S := (95, [(0, gx_r 383), (1, .inl 1), (2, .inl i)], [], t122, n, 0)) rfl (fun _ => rfl) rfl ?_
  refine ex_ret (r := (none, t122, n, 0)) rfl (fun _ => rfl) ?_
  exact ⟨_, rfl, t122, a116, f116, rfl, s122, (fun c j h => (e122 c j (by first | decide | omega)).trans ((e116 c j (by first | decide | omega)).trans ((e112 c j (by first | decide | omega)).trans ((e107 c j (by first | decide | omega)).trans ((e104 c j (by first | decide | omega)).trans (e101 c j (by first | decide | omega))))))), y116, by omega, fun h9 => ⟨⟨v101, wc101 (by first | decide | omega), k25⟩, k26.trans (by rw [show v107 = sp_nv S m (a + 1) by rw [← show a101 = (a + 1) by omega]; omega]), k122.trans (by rw [show v116 = sp_nv S m (a + 2) by rw [← show a107 = (a + 2) by omega]; omega]), (by have h8 : v107 = sp_nv S m (a + 1) := (by rw [← show a101 = (a + 1) by omega]; omega); omega), (by have h8 : v116 = sp_nv S m (a + 2) := (by rw [← show a107 = (a + 2) by omega]; omega); omega)⟩⟩
theorem pe_readWeek2 (d n : Nat) {t0 : en_H} {a i : Nat} {S S0 : Nat → Nat} {m N m0 N0 : Nat} {υ : Nat → Nat → Nat} (s0 : px_S t0 a 0) (hT : rT t0 S m N) (ha : a ≤ N) (hN : TN t0 S0 m0 υ) (h3 : W3 S0 m0 N0 υ) (hc : WC S0 m0 N0 υ) (ko : ai_hv t0 389 0 = some (.inl (υ 0 0))) (kd : ai_hv t0 389 1 = some (.inl (υ 1 0))) (hi : 110 ≤ i ∧ i + 2 < 210) : ∃ r, en_u (d + 5) 102 [gx_r 383, .inl 2, .inl i] t0 n = some r ∧ ∃ t' a' f', r = (none, t', n, 0) ∧ px_S t' a' f' ∧ (∀ c j, ¬ ((c = 383 ∧ (j = 7 ∨ j = 8)) ∨ (c = 396 ∧ i ≤ j ∧ j ≤ i + 2)) → ai_hv t' c j = ai_hv t0 c j) ∧ (a', f') = fn S m N 1 999 (fk S m N (tcr S0 m0 υ S m) (a, 0)) ∧ (a' ≤ N ∧ a ≤ a') ∧ (f' = 0 → (∃ c9, crw S0 m0 υ S m a c9 ∧ ai_hv t' 396 i = some (.inl c9)) ∧ ai_hv t' 396 (i + 1) = some (.inl (sp_nv S m (a + 1))) ∧ (1 ≤ sp_nv S m (a + 1) ∧ sp_nv S m (a + 1) ≤ 999)) := by
  have b0 := s0.2.2.2
  have hNN := hT.2.2.2.2.1
  have hBB := h3.1.1
  have h4 : υ 4 0 ≤ 2 := h3.1.1.2.2.1
  have y0 : (a, 0) = (a, 0) := rfl
  refine en_u_ex (d := d + 4) rfl ?_
  show en_ex _ _ _ _ (0, [(0, gx_r 383), (1, .inl 2), (2, .inl i)], [], t0, n, 0) _
  refine ex_go (S := (1, [(0, gx_r 383), (1, .inl 2), (2, .inl i)], [gx_r 383], t0, n, 0)) rfl (fun _ => rfl) rfl ?_
  refine gx_ref (c := 396) rfl s0.1 rfl rfl rfl rfl ?_
  refine ex_go (S := (5, [(0, gx_r 383), (1, .inl 2), (2, .inl i)], [.inl i, gx_r 396], t0, n, 0)) rfl (fun _ => rfl) rfl ?_
  refine ex_go (S := (6, [(0, gx_r 383), (1, .inl 2), (2, .inl i)], [.inl 2, .inl i, gx_r 396], t0, n, 0)) rfl (fun _ => rfl) rfl ?_
  refine ex_go (S := (19, [(0, gx_r 383), (1, .inl 2), (2, .inl i)], [.inl i, gx_r 396], t0, n, 0)) rfl (fun _ => rfl) rfl ?_
  refine ex_go (S := (20, [(0, gx_r 383), (1, .inl 2), (2, .inl i)], [gx_r 383, .inl i, gx_r 396], t0, n, 0)) rfl (fun _ => rfl) rfl ?_
  have hN101 : TN t0 S0 m0 υ := TN_keep hN (fun c i h _ => rfl) h4
  obtain ⟨_, r101, v101, t101, a101, f101, rfl, s101, e101, z101, q101, wc101⟩ := pe_takeCrew (d) n (s0) hT (by first | decide | omega) hN101 h3 hc
  have b101 := s101.2.2.2
  have y101 := z101.trans (congrArg (fk S m N (tcr S0 m0 υ S m)) y0)
  refine gx_call1 rfl rfl s0.1 rfl rfl r101 rfl ?_
  have k2 : ai_hv t101 389 0 = some (.inl (υ 0 0)) := (e101 389 0 (by first | decide | omega)).trans ko
  have k3 : ai_hv t101 389 1 = some (.inl (υ 1 0)) := (e101 389 1 (by first | decide | omega)).trans kd
  have hv101 : v101 < 4294967296 := by omega
  refine gx_ap rfl (fun _ => rfl) s101.1 rfl rfl rfl (show i < 210 from by omega) ((gx_run2 (by first | decide | omega)).trans (gx_run1 (show i < 210 from by omega))) (gx_full (by first | decide | omega)) rfl (fun t104 g104 k104 e104 => ?_)
  have k5 : ai_hv t104 389 0 = some (.inl (υ 0 0)) := (e104 389 0 (by first | decide | omega)).trans k2
  have k6 : ai_hv t104 389 1 = some (.inl (υ 1 0)) := (e104 389 1 (by first | decide | omega)).trans k3
  have s104 : px_S t104 a101 f101 := ⟨g104, (e104 383 7 (by first | decide | omega)).trans s101.2.1, (e104 383 8 (by first | decide | omega)).trans s101.2.2.1, s101.2.2.2⟩
  refine ex_go (S := (25, [(0, gx_r 383), (1, .inl 2), (2, .inl i)], [.inl 2], t104, n, 0)) rfl (fun _ => rfl) rfl ?_
  refine ex_go (S := (26, [(0, gx_r 383), (1, .inl 2), (2, .inl i)], [.inl 1, .inl 2], t104, n, 0)) rfl (fun _ => rfl) rfl ?_
  refine ex_go (S := (74, [(0, gx_r 383), (1, .inl 2), (2, .inl i)], [], t104, n, 0)) rfl (fun _ => rfl) rfl ?_
  refine ex_go (S := (75, [(0, gx_r 383), (1, .inl 2), (2, .inl i)], [.inl 2], t104, n, 0)) rfl (fun _ => rfl) rfl ?_
  refine ex_go (S := (76, [(0, gx_r 383), (1, .inl 2), (2, .inl i)], [.inl 2, .inl 2], t104, n, 0)) rfl (fun _ => rfl) rfl ?_
  refine ex_go (S := (79, [(0, gx_r 383), (1, .inl 2), (2, .inl i)], [], t104, n, 0)) rfl (fun _ => rfl) rfl ?_
  refine ex_go (S := (80, [(0, gx_r 383), (1, .inl 2), (2, .inl i)], [gx_r 383], t104, n, 0)) rfl (fun _ => rfl) rfl ?_
  refine gx_ref (c := 396) rfl s104.1 rfl rfl rfl rfl ?_
  refine ex_go (S := (84, [(0, gx_r 383), (1, .inl 2), (2, .inl i)], [.inl i, gx_r 396], t104, n, 0)) rfl (fun _ => rfl) rfl ?_
  refine ex_go (S := (85, [(0, gx_r 383), (1, .inl 2), (2, .inl i)], [.inl 1, .inl i, gx_r 396], t104, n, 0)) rfl (fun _ => rfl) rfl ?_
  refine ex_iadd rfl (by first | decide | omega) rfl ?_
  refine ex_go (S := (87, [(0, gx_r 383), (1, .inl 2), (2, .inl i)], [gx_r 383, .inl (i + 1), gx_r 396], t104, n, 0)) rfl (fun _ => rfl) rfl ?_
  refine ex_go (S := (88, [(0, gx_r 383), (1, .inl 2), (2, .inl i)], [.inl 1, gx_r 383, .inl (i + 1), gx_r 396], t104, n, 0)) rfl (fun _ => rfl) rfl ?_
  refine ex_go (S := (91, [(0, gx_r 383), (1, .inl 2), (2, .inl i)], [.inl 999, .inl 1, gx_r 383, .inl (i + 1), gx_r 396], t104, n, 0)) rfl (fun _ => rfl) rfl ?_
  have hT8 := rT_keep (t' := t104) hT (fun c i h => (e104 c i (by first | decide | omega)).trans (e101 c i (by first | decide | omega)))
  obtain ⟨_, r107, v107, t107, a107, f107, rfl, s107, e107, z107, q107⟩ := pf_takeNumber (d + 2) n (s104) hT8 (by first | decide | omega) (lo := 1) (hi := 999) (by first | decide | omega) (by first | decide | omega)
  have b107 := s107.2.2.2
  have y107 := z107.trans (congrArg (fn S m N 1 999) y101)
  refine gx_call1 rfl rfl s104.1 rfl rfl r107 rfl ?_
  have k9 : ai_hv t107 389 0 = some (.inl (υ 0 0)) := (e107 389 0 (by first | decide | omega)).trans k5
  have k10 : ai_hv t107 389 1 = some (.inl (υ 1 0)) := (e107 389 1 (by first | decide | omega)).trans k6
  have k11 : ai_hv t107 396 i = some (.inl v101) := (e107 396 i (by first | decide | omega)).trans k104
  refine gx_ap rfl (fun _ => rfl) s107.1 rfl rfl rfl (show i + 1 < 210 from by omega) ((gx_run2 (by first | decide | omega)).trans (gx_run1 (show i + 1 < 210 from by omega))) (gx_full (by first | decide | omega)) rfl (fun t112 g112 k112 e112 => ?_)
  have k13 : ai_hv t112 389 0 = some (.inl (υ 0 0)) := (e112 389 0 (by first | decide | omega)).trans k9
  have k14 : ai_hv t112 389 1 = some (.inl (υ 1 0)) := (e112 389 1 (by first | decide | omega)).trans k10
  have k15 : ai_hv t112 396 i = some (.inl v101) := (e112 396 i (by first | decide | omega)).trans k11
  have s112 : px_S t112 a107 f107 := ⟨g112, (e112 383 7 (by first | decide | omega)).trans s107.2.1, (e112 383 8 (by first | decide | omega)).trans s107.2.2.1, s107.2.2.2⟩
  refine ex_ret (r := (none, t112, n, 0)) rfl (fun _ => rfl) ?_
  exact ⟨_, rfl, t112, a107, f107, rfl, s112, (fun c j h => (e112 c j (by first | decide | omega)).trans ((e107 c j (by first | decide | omega)).trans ((e104 c j (by first | decide | omega)).trans (e101 c j (by first | decide | omega))))), y107, by omega, fun h9 => ⟨⟨v101, wc101 (by first | decide | omega), k15⟩, k112.trans (by rw [show v107 = sp_nv S m (a + 1) by rw [← show a101 = (a + 1) by omega]; omega]), (by have h8 : v107 = sp_nv S m (a + 1) := (by rw [← show a101 = (a + 1) by omega]; omega); omega)⟩⟩
theorem pe_readWeek3 (d n : Nat) {t0 : en_H} {a i : Nat} {S S0 : Nat → Nat} {m N m0 N0 : Nat} {υ : Nat → Nat → Nat} (s0 : px_S t0 a 0) (hT : rT t0 S m N) (ha : a ≤ N) (hN : TN t0 S0 m0 υ) (h3 : W3 S0 m0 N0 υ) (hc : WC S0 m0 N0 υ) (ko : ai_hv t0 389 0 = some (.inl (υ 0 0))) (kd : ai_hv t0 389 1 = some (.inl (υ 1 0))) (hi : 110 ≤ i ∧ i + 2 < 210) : ∃ r, en_u (d + 5) 102 [gx_r 383, .inl 3, .inl i] t0 n = some r ∧ ∃ t' a' f', r = (none, t', n, 0) ∧ px_S t' a' f' ∧ (∀ c j, ¬ ((c = 383 ∧ (j = 7 ∨ j = 8)) ∨ (c = 396 ∧ i ≤ j ∧ j ≤ i + 2)) → ai_hv t' c j = ai_hv t0 c j) ∧ (a', f') = (fk S m N (tcr S0 m0 υ S m) (a, 0)) ∧ (a' ≤ N ∧ a ≤ a') ∧ (f' = 0 → (∃ c9, crw S0 m0 υ S m a c9 ∧ ai_hv t' 396 i = some (.inl c9))) := by
  have b0 := s0.2.2.2
  have hNN := hT.2.2.2.2.1
  have hBB := h3.1.1
  have h4 : υ 4 0 ≤ 2 := h3.1.1.2.2.1
  have y0 : (a, 0) = (a, 0) := rfl
  refine en_u_ex (d := d + 4) rfl ?_
  show en_ex _ _ _ _ (0, [(0, gx_r 383), (1, .inl 3), (2, .inl i)], [], t0, n, 0) _
  refine ex_go (S := (1, [(0, gx_r 383), (1, .inl 3), (2, .inl i)], [gx_r 383], t0, n, 0)) rfl (fun _ => rfl) rfl ?_
  refine gx_ref (c := 396) rfl s0.1 rfl rfl rfl rfl ?_
  refine ex_go (S := (5, [(0, gx_r 383), (1, .inl 3), (2, .inl i)], [.inl i, gx_r 396], t0, n, 0)) rfl (fun _ => rfl) rfl ?_
  refine ex_go (S := (6, [(0, gx_r 383), (1, .inl 3), (2, .inl i)], [.inl 3, .inl i, gx_r 396], t0, n, 0)) rfl (fun _ => rfl) rfl ?_
  refine ex_go (S := (19, [(0, gx_r 383), (1, .inl 3), (2, .inl i)], [.inl i, gx_r 396], t0, n, 0)) rfl (fun _ => rfl) rfl ?_
  refine ex_go (S := (20, [(0, gx_r 383), (1, .inl 3), (2, .inl i)], [gx_r 383, .inl i, gx_r 396], t0, n, 0)) rfl (fun _ => rfl) rfl ?_
  have hN101 : TN t0 S0 m0 υ := TN_keep hN (fun c i h _ => rfl) h4
  obtain ⟨_, r101, v101, t101, a101, f101, rfl, s101, e101, z101, q101, wc101⟩ := pe_takeCrew (d) n (s0) hT (by first | decide | omega) hN101 h3 hc
  have b101 := s101.2.2.2
  have y101 := z101.trans (congrArg (fk S m N (tcr S0 m0 υ S m)) y0)
  refine gx_call1 rfl rfl s0.1 rfl rfl r101 rfl ?_
  have k2 : ai_hv t101 389 0 = some (.inl (υ 0 0)) := (e101 389 0 (by first | decide | omega)).trans ko
  have k3 : ai_hv t101 389 1 = some (.inl (υ 1 0)) := (e101 389 1 (by first | decide | omega)).trans kd
  have hv101 : v101 < 4294967296 := by omega
  refine gx_ap rfl (fun _ => rfl) s101.1 rfl rfl rfl (show i < 210 from by omega) ((gx_run2 (by first | decide | omega)).trans (gx_run1 (show i < 210 from by omega))) (gx_full (by first | decide | omega)) rfl (fun t104 g104 k104 e104 => ?_)
  have k5 : ai_hv t104 389 0 = some (.inl (υ 0 0)) := (e104 389 0 (by first | decide | omega)).trans k2
  have k6 : ai_hv t104 389 1 = some (.inl (υ 1 0)) := (e104 389 1 (by first | decide | omega)).trans k3
  have s104 : px_S t104 a101 f101 := ⟨g104, (e104 383 7 (by first | decide | omega)).trans s101.2.1, (e104 383 8 (by first | decide | omega)).trans s101.2.2.1, s101.2.2.2⟩
  refine ex_go (S := (25, [(0, gx_r 383), (1, .inl 3), (2, .inl i)], [.inl 3], t104, n, 0)) rfl (fun _ => rfl) rfl ?_
  refine ex_go (S := (26, [(0, gx_r 383), (1, .inl 3), (2, .inl i)], [.inl 1, .inl 3], t104, n, 0)) rfl (fun _ => rfl) rfl ?_
  refine ex_go (S := (74, [(0, gx_r 383), (1, .inl 3), (2, .inl i)], [], t104, n, 0)) rfl (fun _ => rfl) rfl ?_
  refine ex_go (S := (75, [(0, gx_r 383), (1, .inl 3), (2, .inl i)], [.inl 3], t104, n, 0)) rfl (fun _ => rfl) rfl ?_
  refine ex_go (S := (76, [(0, gx_r 383), (1, .inl 3), (2, .inl i)], [.inl 2, .inl 3], t104, n, 0)) rfl (fun _ => rfl) rfl ?_
  refine ex_go (S := (95, [(0, gx_r 383), (1, .inl 3), (2, .inl i)], [], t104, n, 0)) rfl (fun _ => rfl) rfl ?_
  refine ex_ret (r := (none, t104, n, 0)) rfl (fun _ => rfl) ?_
  exact ⟨_, rfl, t104, a101, f101, rfl, s104, (fun c j h => (e104 c j (by first | decide | omega)).trans (e101 c j (by first | decide | omega))), y101, by omega, fun h9 => ⟨v101, wc101 (by first | decide | omega), k104⟩⟩
end SWR
