section SPR
theorem pe_pa3 {fn : en_F} {n rm : Nat} {tb : en_H} {Q : en_O → Prop} (hrm : rm ≤ 24) (kb : ai_hv tb 383 19 = some (.inl rm)) (hQ : ∀ t1, ai_HG ah_G t1 → (∀ i, i < rm → ai_hv t1 392 i = ai_hv tb 393 i ∧ ai_hv t1 394 i = ai_hv tb 395 i) → (∀ c i, ¬ (c = 392 ∨ c = 394) → ai_hv t1 c i = ai_hv tb c i) → en_ex none fn (en_code 33) (fun _ => false) (235, [(1, .inl rm), (0, gx_r 383)], [], t1, n, 0) Q) : ∀ j k t0, k + j = rm → ai_HG ah_G t0 → (∀ i, i < k → ai_hv t0 392 i = ai_hv tb 393 i ∧ ai_hv t0 394 i = ai_hv tb 395 i) → (∀ c i, ¬ (c = 392 ∨ c = 394) → ai_hv t0 c i = ai_hv tb c i) → en_ex none fn (en_code 33) (fun _ => false) (197, [(1, .inl k), (0, gx_r 383)], [], t0, n, 0) Q := by
  intro j
  induction j with
  | zero =>
    intro k t0 hk g0 i0 e0
    have hk : k = rm := by omega
    subst hk
    have kc := (e0 383 19 (by first | decide | omega)).trans kb
    refine ex_go (S := (198, [(1, .inl k), (0, gx_r 383)], [.inl k], t0, n, 0)) rfl (fun _ => rfl) rfl ?_
    refine ex_go (S := (199, [(1, .inl k), (0, gx_r 383)], [gx_r 383, .inl k], t0, n, 0)) rfl (fun _ => rfl) rfl ?_
    refine gx_get rfl g0 rfl kc rfl ?_
    refine gx_2t (c := .ge) rfl (by first | decide | omega) (by first | decide | omega) (show k ≤ k from by omega) rfl ?_
    exact hQ t0 g0 i0 e0
  | succ j ih =>
    intro k t0 hk g0 i0 e0
    have kc := (e0 383 19 (by first | decide | omega)).trans kb
    refine ex_go (S := (198, [(1, .inl k), (0, gx_r 383)], [.inl k], t0, n, 0)) rfl (fun _ => rfl) rfl ?_
    refine ex_go (S := (199, [(1, .inl k), (0, gx_r 383)], [gx_r 383, .inl k], t0, n, 0)) rfl (fun _ => rfl) rfl ?_
    refine gx_get rfl g0 rfl kc rfl ?_
    refine gx_2f (c := .ge) rfl (by first | decide | omega) (by first | decide | omega) (show ¬ (rm ≤ k) from by omega) rfl ?_
    refine ex_go (S := (206, [(1, .inl k), (0, gx_r 383)], [gx_r 383], t0, n, 0)) rfl (fun _ => rfl) rfl ?_
    refine gx_ref (c := 392) rfl g0 rfl rfl rfl rfl ?_
    refine ex_go (S := (210, [(1, .inl k), (0, gx_r 383)], [.inl k, gx_r 392], t0, n, 0)) rfl (fun _ => rfl) rfl ?_
    refine ex_go (S := (211, [(1, .inl k), (0, gx_r 383)], [gx_r 383, .inl k, gx_r 392], t0, n, 0)) rfl (fun _ => rfl) rfl ?_
    refine gx_ref (c := 393) rfl g0 rfl rfl rfl rfl ?_
    refine ex_go (S := (215, [(1, .inl k), (0, gx_r 383)], [.inl k, gx_r 393, .inl k, gx_r 392], t0, n, 0)) rfl (fun _ => rfl) rfl ?_
    obtain ⟨m1, k2⟩ := gx_long_393 g0 (i := k) (by first | decide | omega)
    refine gx_ag (v := .inr (.inl m1)) (cb := fun c => Nat.beq c 3) rfl (fun _ => rfl) g0 rfl rfl k2 (by first | decide | omega) rfl ?_
    refine gx_apv (d := 1) rfl (fun _ => rfl) g0 rfl rfl rfl (show k < 24 from by omega) (gx_lrun_392 k (by first | decide | omega)) ⟨_, rfl⟩ rfl (fun t103 g103 k103 e103 => ?_)
    have k4 : ai_hv t103 383 19 = some (.inl rm) := (e103 383 19 (by first | decide | omega)).trans kc
    have k5 : ai_hv t103 393 k = some (.inr (.inl m1)) := (e103 393 k (by first | decide | omega)).trans k2
    refine ex_go (S := (218, [(1, .inl k), (0, gx_r 383)], [gx_r 383], t103, n, 0)) rfl (fun _ => rfl) rfl ?_
    refine gx_ref (c := 394) rfl g103 rfl rfl rfl rfl ?_
    refine ex_go (S := (222, [(1, .inl k), (0, gx_r 383)], [.inl k, gx_r 394], t103, n, 0)) rfl (fun _ => rfl) rfl ?_
    refine ex_go (S := (223, [(1, .inl k), (0, gx_r 383)], [gx_r 383, .inl k, gx_r 394], t103, n, 0)) rfl (fun _ => rfl) rfl ?_
    refine gx_ref (c := 395) rfl g103 rfl rfl rfl rfl ?_
    refine ex_go (S := (227, [(1, .inl k), (0, gx_r 383)], [.inl k, gx_r 395, .inl k, gx_r 394], t103, n, 0)) rfl (fun _ => rfl) rfl ?_
    obtain ⟨m6, k7, m6b⟩ := gx_nof_395 g103 (i := k) (by first | decide | omega)
    refine gx_ag (v := .inl m6) (cb := fun c => Nat.beq c 0) rfl (fun _ => rfl) g103 rfl rfl k7 (by first | decide | omega) rfl ?_
    refine gx_ap rfl (fun _ => rfl) g103 rfl rfl rfl (show k < 24 from by omega) (gx_run1 (show k < 24 from by omega)) (ai_in_h (by first | decide | omega) (by first | decide | omega) (by first | decide | omega)) rfl (fun t108 g108 k108 e108 => ?_)
    have k9 : ai_hv t108 383 19 = some (.inl rm) := (e108 383 19 (by first | decide | omega)).trans k4
    have k10 : ai_hv t108 393 k = some (.inr (.inl m1)) := (e108 393 k (by first | decide | omega)).trans k5
    have k11 : ai_hv t108 392 k = some (.inr (.inl m1)) := (e108 392 k (by first | decide | omega)).trans k103
    have k12 : ai_hv t108 395 k = some (.inl m6) := (e108 395 k (by first | decide | omega)).trans k7
    refine gx_iinc (i := 1) (k := 1) rfl (fun _ => rfl) (by first | decide | omega) rfl ?_
    show en_ex _ _ _ _ (232, [(1, .inl (k + 1)), (0, gx_r 383)], [], t108, n, 0) _
    refine ex_go (S := (197, [(1, .inl (k + 1)), (0, gx_r 383)], [], t108, n, 0)) rfl (fun _ => rfl) rfl ?_
    refine ih (k + 1) t108 (by first | decide | omega) g108 (fun i hi => ?_) (fun c i h => (e108 c i (by first | decide | omega)).trans ((e103 c i (by first | decide | omega)).trans (e0 c i h)))
    by_cases e9 : i = k
    · rw [e9]
      have f1 : ai_hv t108 393 k = ai_hv tb 393 k := ((e108 393 k (by first | decide | omega)).trans (e103 393 k (by first | decide | omega))).trans (e0 393 k (by first | decide | omega))
      have f2 : ai_hv t108 395 k = ai_hv tb 395 k := ((e108 395 k (by first | decide | omega)).trans (e103 395 k (by first | decide | omega))).trans (e0 395 k (by first | decide | omega))
      exact ⟨k11.trans (k10.symm.trans f1), k108.trans (k12.symm.trans f2)⟩
    · obtain ⟨j1, j2⟩ := i0 i (by first | decide | omega)
      exact ⟨((e108 392 i (by first | decide | omega)).trans (e103 392 i (by first | decide | omega))).trans j1, ((e108 394 i (by first | decide | omega)).trans (e103 394 i (by first | decide | omega))).trans j2⟩
theorem pe_104 (d n : Nat) {t1 : en_H} {a f : Nat} (s1 : px_S t1 a f) (hO : f = 0 → ∃ c, px_O t1 c ∧ c ≤ a) (k2 : ai_hv t1 383 2 = some (.inl 0)) : en_ex none (en_u (d + 34)) (en_code 33) (fun _ => false) (104, [(0, gx_r 383)], [], t1, n, 0) (fun o => ∃ r, o = .inl r ∧ ∃ v t', r = (some (.inl v), t', n, 0) ∧ v = f ∧ (f = 0 → (∀ i, i < 160 → ai_hv t' 389 i = ai_hv t1 389 (160 + i)) ∧ (∃ rm, ai_hv t1 383 19 = some (.inl rm) ∧ ai_hv t' 383 18 = some (.inl rm) ∧ ∀ i, i < rm → ai_hv t' 392 i = ai_hv t1 393 i ∧ ai_hv t' 394 i = ai_hv t1 395 i) ∧ SBg t' ∧ ∃ cO, ai_hv t1 383 13 = some (.inl cO) ∧ cO ≤ 1000 ∧ ∀ i, i < cO → ai_hv t' 390 i = ai_hv t1 390 (1100 + i) ∧ ai_hv t' 391 i = ai_hv t1 391 (1100 + i))) := by
  have b0 := s1.2.2.2
  refine ex_go (S := (105, [(0, gx_r 383)], [gx_r 383], t1, n, 0)) rfl (fun _ => rfl) rfl ?_
  refine gx_get rfl s1.1 rfl s1.2.2.1 rfl ?_
  by_cases hc1 : f ≤ 0
  · refine gx_1t (c := .le) rfl (by first | decide | omega) hc1 rfl ?_
    obtain ⟨cO, hOO, hcO⟩ := hO (by first | decide | omega)
    obtain ⟨r, nt, ng, ns, nl, ov, dn, pa, kr, knt, kng, kns, knl, kov, kdn, kpa, kc, hA, -, -⟩ := id hOO
    obtain ⟨nL, kL, -, hL⟩ := gx_in (c := 389) (i := 163) (lo := 0) (hi := 6) s1.1 rfl rfl rfl rfl
    obtain ⟨nC, kC, -, hC⟩ := gx_in (c := 389) (i := 164) (lo := 0) (hi := 2) s1.1 rfl rfl rfl rfl
    refine ex_go (S := (117, [(0, gx_r 383)], [.inl 0], t1, n, 0)) rfl (fun _ => rfl) rfl ?_
    refine ex_go (S := (118, [(1, .inl 0), (0, gx_r 383)], [], t1, n, 0)) rfl (fun _ => rfl) rfl ?_
    refine ex_go (S := (119, [(1, .inl 0), (0, gx_r 383)], [.inl 0], t1, n, 0)) rfl (fun _ => rfl) rfl ?_
    refine ex_go (S := (122, [(1, .inl 0), (0, gx_r 383)], [.inl 160, .inl 0], t1, n, 0)) rfl (fun _ => rfl) rfl ?_
    refine ex_go (S := (125, [(1, .inl 0), (0, gx_r 383)], [], t1, n, 0)) rfl (fun _ => rfl) rfl ?_
    refine ex_go (S := (126, [(1, .inl 0), (0, gx_r 383)], [gx_r 383], t1, n, 0)) rfl (fun _ => rfl) rfl ?_
    refine gx_ref (c := 389) rfl s1.1 rfl rfl rfl rfl ?_
    refine ex_go (S := (130, [(1, .inl 0), (0, gx_r 383)], [.inl 0, gx_r 389], t1, n, 0)) rfl (fun _ => rfl) rfl ?_
    refine ex_go (S := (131, [(1, .inl 0), (0, gx_r 383)], [gx_r 383, .inl 0, gx_r 389], t1, n, 0)) rfl (fun _ => rfl) rfl ?_
    refine gx_ref (c := 389) rfl s1.1 rfl rfl rfl rfl ?_
    refine ex_go (S := (137, [(1, .inl 0), (0, gx_r 383)], [.inl 160, gx_r 389, .inl 0, gx_r 389], t1, n, 0)) rfl (fun _ => rfl) rfl ?_
    refine ex_go (S := (138, [(1, .inl 0), (0, gx_r 383)], [.inl 0, .inl 160, gx_r 389, .inl 0, gx_r 389], t1, n, 0)) rfl (fun _ => rfl) rfl ?_
    refine ex_go (S := (139, [(1, .inl 0), (0, gx_r 383)], [.inl 160, gx_r 389, .inl 0, gx_r 389], t1, n, 0)) rfl (fun _ => rfl) rfl ?_
    refine gx_ag (v := .inl ov) (cb := fun c => Nat.beq c 0) rfl (fun _ => rfl) s1.1 rfl rfl kov (by first | decide | omega) rfl ?_
    refine gx_ap rfl (fun _ => rfl) s1.1 rfl rfl rfl (show 0 < 320 from by omega) rfl (ai_in_h (by first | decide | omega) (by first | decide | omega) (by first | decide | omega)) rfl (fun t102 g102 k102 e102 => ?_)
    have k3 : ai_hv t102 383 2 = some (.inl 0) := (e102 383 2 (by first | decide | omega)).trans k2
    have k4 : ai_hv t102 383 19 = some (.inl r) := (e102 383 19 (by first | decide | omega)).trans kr
    have k5 : ai_hv t102 383 13 = some (.inl cO) := (e102 383 13 (by first | decide | omega)).trans kc
    have k6 : ai_hv t102 389 160 = some (.inl ov) := (e102 389 160 (by first | decide | omega)).trans kov
    have k7 : ai_hv t102 389 161 = some (.inl dn) := (e102 389 161 (by first | decide | omega)).trans kdn
    have k8 : ai_hv t102 389 162 = some (.inl nt) := (e102 389 162 (by first | decide | omega)).trans knt
    have k9 : ai_hv t102 389 165 = some (.inl pa) := (e102 389 165 (by first | decide | omega)).trans kpa
    have k10 : ai_hv t102 389 163 = some (.inl nL) := (e102 389 163 (by first | decide | omega)).trans kL
    have k11 : ai_hv t102 389 164 = some (.inl nC) := (e102 389 164 (by first | decide | omega)).trans kC
    have s102 : px_S t102 a f := ⟨g102, (e102 383 7 (by first | decide | omega)).trans s1.2.1, (e102 383 8 (by first | decide | omega)).trans s1.2.2.1, s1.2.2.2⟩
    refine ex_go (S := (144, [(1, .inl 1), (0, gx_r 383)], [], t102, n, 0)) rfl (fun _ => rfl) rfl ?_
    refine ex_go (S := (118, [(1, .inl 1), (0, gx_r 383)], [], t102, n, 0)) rfl (fun _ => rfl) rfl ?_
    refine ex_go (S := (119, [(1, .inl 1), (0, gx_r 383)], [.inl 1], t102, n, 0)) rfl (fun _ => rfl) rfl ?_
    refine ex_go (S := (122, [(1, .inl 1), (0, gx_r 383)], [.inl 160, .inl 1], t102, n, 0)) rfl (fun _ => rfl) rfl ?_
    refine ex_go (S := (125, [(1, .inl 1), (0, gx_r 383)], [], t102, n, 0)) rfl (fun _ => rfl) rfl ?_
    refine ex_go (S := (126, [(1, .inl 1), (0, gx_r 383)], [gx_r 383], t102, n, 0)) rfl (fun _ => rfl) rfl ?_
    refine gx_ref (c := 389) rfl s102.1 rfl rfl rfl rfl ?_
    refine ex_go (S := (130, [(1, .inl 1), (0, gx_r 383)], [.inl 1, gx_r 389], t102, n, 0)) rfl (fun _ => rfl) rfl ?_
    refine ex_go (S := (131, [(1, .inl 1), (0, gx_r 383)], [gx_r 383, .inl 1, gx_r 389], t102, n, 0)) rfl (fun _ => rfl) rfl ?_
    refine gx_ref (c := 389) rfl s102.1 rfl rfl rfl rfl ?_
    refine ex_go (S := (137, [(1, .inl 1), (0, gx_r 383)], [.inl 160, gx_r 389, .inl 1, gx_r 389], t102, n, 0)) rfl (fun _ => rfl) rfl ?_
    refine ex_go (S := (138, [(1, .inl 1), (0, gx_r 383)], [.inl 1, .inl 160, gx_r 389, .inl 1, gx_r 389], t102, n, 0)) rfl (fun _ => rfl) rfl ?_
    refine ex_go (S := (139, [(1, .inl 1), (0, gx_r 383)], [.inl 161, gx_r 389, .inl 1, gx_r 389], t102, n, 0)) rfl (fun _ => rfl) rfl ?_
    refine gx_ag (v := .inl dn) (cb := fun c => Nat.beq c 0) rfl (fun _ => rfl) s102.1 rfl rfl k7 (by first | decide | omega) rfl ?_
    refine gx_ap rfl (fun _ => rfl) s102.1 rfl rfl rfl (show 1 < 320 from by omega) rfl (ai_in_h (by first | decide | omega) (by first | decide | omega) (by first | decide | omega)) rfl (fun t112 g112 k112 e112 => ?_)
    have k13 : ai_hv t112 383 2 = some (.inl 0) := (e112 383 2 (by first | decide | omega)).trans k3
    have k14 : ai_hv t112 383 19 = some (.inl r) := (e112 383 19 (by first | decide | omega)).trans k4
    have k15 : ai_hv t112 383 13 = some (.inl cO) := (e112 383 13 (by first | decide | omega)).trans k5
    have k16 : ai_hv t112 389 160 = some (.inl ov) := (e112 389 160 (by first | decide | omega)).trans k6
    have k17 : ai_hv t112 389 161 = some (.inl dn) := (e112 389 161 (by first | decide | omega)).trans k7
    have k18 : ai_hv t112 389 162 = some (.inl nt) := (e112 389 162 (by first | decide | omega)).trans k8
    have k19 : ai_hv t112 389 165 = some (.inl pa) := (e112 389 165 (by first | decide | omega)).trans k9
    have k20 : ai_hv t112 389 163 = some (.inl nL) := (e112 389 163 (by first | decide | omega)).trans k10
    have k21 : ai_hv t112 389 164 = some (.inl nC) := (e112 389 164 (by first | decide | omega)).trans k11
    have k22 : ai_hv t112 389 0 = some (.inl ov) := (e112 389 0 (by first | decide | omega)).trans k102
    have s112 : px_S t112 a f := ⟨g112, (e112 383 7 (by first | decide | omega)).trans s102.2.1, (e112 383 8 (by first | decide | omega)).trans s102.2.2.1, s102.2.2.2⟩
    refine ex_go (S := (144, [(1, .inl 2), (0, gx_r 383)], [], t112, n, 0)) rfl (fun _ => rfl) rfl ?_
    refine ex_go (S := (118, [(1, .inl 2), (0, gx_r 383)], [], t112, n, 0)) rfl (fun _ => rfl) rfl ?_
    refine ex_go (S := (119, [(1, .inl 2), (0, gx_r 383)], [.inl 2], t112, n, 0)) rfl (fun _ => rfl) rfl ?_
    refine ex_go (S := (122, [(1, .inl 2), (0, gx_r 383)], [.inl 160, .inl 2], t112, n, 0)) rfl (fun _ => rfl) rfl ?_
    refine ex_go (S := (125, [(1, .inl 2), (0, gx_r 383)], [], t112, n, 0)) rfl (fun _ => rfl) rfl ?_
    refine ex_go (S := (126, [(1, .inl 2), (0, gx_r 383)], [gx_r 383], t112, n, 0)) rfl (fun _ => rfl) rfl ?_
    refine gx_ref (c := 389) rfl s112.1 rfl rfl rfl rfl ?_
    refine ex_go (S := (130, [(1, .inl 2), (0, gx_r 383)], [.inl 2, gx_r 389], t112, n, 0)) rfl (fun _ => rfl) rfl ?_
    refine ex_go (S := (131, [(1, .inl 2), (0, gx_r 383)], [gx_r 383, .inl 2, gx_r 389], t112, n, 0)) rfl (fun _ => rfl) rfl ?_
    refine gx_ref (c := 389) rfl s112.1 rfl rfl rfl rfl ?_
    refine ex_go (S := (137, [(1, .inl 2), (0, gx_r 383)], [.inl 160, gx_r 389, .inl 2, gx_r 389], t112, n, 0)) rfl (fun _ => rfl) rfl ?_
    refine ex_go (S := (138, [(1, .inl 2), (0, gx_r 383)], [.inl 2, .inl 160, gx_r 389, .inl 2, gx_r 389], t112, n, 0)) rfl (fun _ => rfl) rfl ?_
    refine ex_go (S := (139, [(1, .inl 2), (0, gx_r 383)], [.inl 162, gx_r 389, .inl 2, gx_r 389], t112, n, 0)) rfl (fun _ => rfl) rfl ?_
    refine gx_ag (v := .inl nt) (cb := fun c => Nat.beq c 0) rfl (fun _ => rfl) s112.1 rfl rfl k18 (by first | decide | omega) rfl ?_
    refine gx_ap rfl (fun _ => rfl) s112.1 rfl rfl rfl (show 2 < 320 from by omega) rfl (ai_in_h (by first | decide | omega) (by first | decide | omega) (by first | decide | omega)) rfl (fun t123 g123 k123 e123 => ?_)
    have k24 : ai_hv t123 383 2 = some (.inl 0) := (e123 383 2 (by first | decide | omega)).trans k13
    have k25 : ai_hv t123 383 19 = some (.inl r) := (e123 383 19 (by first | decide | omega)).trans k14
    have k26 : ai_hv t123 383 13 = some (.inl cO) := (e123 383 13 (by first | decide | omega)).trans k15
    have k27 : ai_hv t123 389 160 = some (.inl ov) := (e123 389 160 (by first | decide | omega)).trans k16
    have k28 : ai_hv t123 389 161 = some (.inl dn) := (e123 389 161 (by first | decide | omega)).trans k17
    have k29 : ai_hv t123 389 162 = some (.inl nt) := (e123 389 162 (by first | decide | omega)).trans k18
    have k30 : ai_hv t123 389 165 = some (.inl pa) := (e123 389 165 (by first | decide | omega)).trans k19
    have k31 : ai_hv t123 389 163 = some (.inl nL) := (e123 389 163 (by first | decide | omega)).trans k20
    have k32 : ai_hv t123 389 164 = some (.inl nC) := (e123 389 164 (by first | decide | omega)).trans k21
    have k33 : ai_hv t123 389 0 = some (.inl ov) := (e123 389 0 (by first | decide | omega)).trans k22
    have k34 : ai_hv t123 389 1 = some (.inl dn) := (e123 389 1 (by first | decide | omega)).trans k112
    have s123 : px_S t123 a f := ⟨g123, (e123 383 7 (by first | decide | omega)).trans s112.2.1, (e123 383 8 (by first | decide | omega)).trans s112.2.2.1, s112.2.2.2⟩
    refine ex_go (S := (144, [(1, .inl 3), (0, gx_r 383)], [], t123, n, 0)) rfl (fun _ => rfl) rfl ?_
    refine ex_go (S := (118, [(1, .inl 3), (0, gx_r 383)], [], t123, n, 0)) rfl (fun _ => rfl) rfl ?_
    refine ex_go (S := (119, [(1, .inl 3), (0, gx_r 383)], [.inl 3], t123, n, 0)) rfl (fun _ => rfl) rfl ?_
    refine ex_go (S := (122, [(1, .inl 3), (0, gx_r 383)], [.inl 160, .inl 3], t123, n, 0)) rfl (fun _ => rfl) rfl ?_
    refine ex_go (S := (125, [(1, .inl 3), (0, gx_r 383)], [], t123, n, 0)) rfl (fun _ => rfl) rfl ?_
    refine ex_go (S := (126, [(1, .inl 3), (0, gx_r 383)], [gx_r 383], t123, n, 0)) rfl (fun _ => rfl) rfl ?_
    refine gx_ref (c := 389) rfl s123.1 rfl rfl rfl rfl ?_
    refine ex_go (S := (130, [(1, .inl 3), (0, gx_r 383)], [.inl 3, gx_r 389], t123, n, 0)) rfl (fun _ => rfl) rfl ?_
    refine ex_go (S := (131, [(1, .inl 3), (0, gx_r 383)], [gx_r 383, .inl 3, gx_r 389], t123, n, 0)) rfl (fun _ => rfl) rfl ?_
    refine gx_ref (c := 389) rfl s123.1 rfl rfl rfl rfl ?_
    refine ex_go (S := (137, [(1, .inl 3), (0, gx_r 383)], [.inl 160, gx_r 389, .inl 3, gx_r 389], t123, n, 0)) rfl (fun _ => rfl) rfl ?_
    refine ex_go (S := (138, [(1, .inl 3), (0, gx_r 383)], [.inl 3, .inl 160, gx_r 389, .inl 3, gx_r 389], t123, n, 0)) rfl (fun _ => rfl) rfl ?_
    refine ex_go (S := (139, [(1, .inl 3), (0, gx_r 383)], [.inl 163, gx_r 389, .inl 3, gx_r 389], t123, n, 0)) rfl (fun _ => rfl) rfl ?_
    refine gx_ag (v := .inl nL) (cb := fun c => Nat.beq c 0) rfl (fun _ => rfl) s123.1 rfl rfl k31 (by first | decide | omega) rfl ?_
    refine gx_ap rfl (fun _ => rfl) s123.1 rfl rfl rfl (show 3 < 320 from by omega) rfl (ai_in_h (by first | decide | omega) (by first | decide | omega) (by first | decide | omega)) rfl (fun t135 g135 k135 e135 => ?_)
    have k36 : ai_hv t135 383 2 = some (.inl 0) := (e135 383 2 (by first | decide | omega)).trans k24
    have k37 : ai_hv t135 383 19 = some (.inl r) := (e135 383 19 (by first | decide | omega)).trans k25
    have k38 : ai_hv t135 383 13 = some (.inl cO) := (e135 383 13 (by first | decide | omega)).trans k26
    have k39 : ai_hv t135 389 160 = some (.inl ov) := (e135 389 160 (by first | decide | omega)).trans k27
    have k40 : ai_hv t135 389 161 = some (.inl dn) := (e135 389 161 (by first | decide | omega)).trans k28
    have k41 : ai_hv t135 389 162 = some (.inl nt) := (e135 389 162 (by first | decide | omega)).trans k29
    have k42 : ai_hv t135 389 165 = some (.inl pa) := (e135 389 165 (by first | decide | omega)).trans k30
    have k43 : ai_hv t135 389 163 = some (.inl nL) := (e135 389 163 (by first | decide | omega)).trans k31
    have k44 : ai_hv t135 389 164 = some (.inl nC) := (e135 389 164 (by first | decide | omega)).trans k32
    have k45 : ai_hv t135 389 0 = some (.inl ov) := (e135 389 0 (by first | decide | omega)).trans k33
    have k46 : ai_hv t135 389 1 = some (.inl dn) := (e135 389 1 (by first | decide | omega)).trans k34
    have k47 : ai_hv t135 389 2 = some (.inl nt) := (e135 389 2 (by first | decide | omega)).trans k123
    have s135 : px_S t135 a f := ⟨g135, (e135 383 7 (by first | decide | omega)).trans s123.2.1, (e135 383 8 (by first | decide | omega)).trans s123.2.2.1, s123.2.2.2⟩
    refine ex_go (S := (144, [(1, .inl 4), (0, gx_r 383)], [], t135, n, 0)) rfl (fun _ => rfl) rfl ?_
    refine ex_go (S := (118, [(1, .inl 4), (0, gx_r 383)], [], t135, n, 0)) rfl (fun _ => rfl) rfl ?_
    refine ex_go (S := (119, [(1, .inl 4), (0, gx_r 383)], [.inl 4], t135, n, 0)) rfl (fun _ => rfl) rfl ?_
    refine ex_go (S := (122, [(1, .inl 4), (0, gx_r 383)], [.inl 160, .inl 4], t135, n, 0)) rfl (fun _ => rfl) rfl ?_
    refine ex_go (S := (125, [(1, .inl 4), (0, gx_r 383)], [], t135, n, 0)) rfl (fun _ => rfl) rfl ?_
    refine ex_go (S := (126, [(1, .inl 4), (0, gx_r 383)], [gx_r 383], t135, n, 0)) rfl (fun _ => rfl) rfl ?_
    refine gx_ref (c := 389) rfl s135.1 rfl rfl rfl rfl ?_
    refine ex_go (S := (130, [(1, .inl 4), (0, gx_r 383)], [.inl 4, gx_r 389], t135, n, 0)) rfl (fun _ => rfl) rfl ?_
    refine ex_go (S := (131, [(1, .inl 4), (0, gx_r 383)], [gx_r 383, .inl 4, gx_r 389], t135, n, 0)) rfl (fun _ => rfl) rfl ?_
    refine gx_ref (c := 389) rfl s135.1 rfl rfl rfl rfl ?_
    refine ex_go (S := (137, [(1, .inl 4), (0, gx_r 383)], [.inl 160, gx_r 389, .inl 4, gx_r 389], t135, n, 0)) rfl (fun _ => rfl) rfl ?_
    refine ex_go (S := (138, [(1, .inl 4), (0, gx_r 383)], [.inl 4, .inl 160, gx_r 389, .inl 4, gx_r 389], t135, n, 0)) rfl (fun _ => rfl) rfl ?_
    refine ex_go (S := (139, [(1, .inl 4), (0, gx_r 383)], [.inl 164, gx_r 389, .inl 4, gx_r 389], t135, n, 0)) rfl (fun _ => rfl) rfl ?_
    refine gx_ag (v := .inl nC) (cb := fun c => Nat.beq c 0) rfl (fun _ => rfl) s135.1 rfl rfl k44 (by first | decide | omega) rfl ?_
    refine gx_ap rfl (fun _ => rfl) s135.1 rfl rfl rfl (show 4 < 320 from by omega) rfl (ai_in_h (by first | decide | omega) (by first | decide | omega) (by first | decide | omega)) rfl (fun t148 g148 k148 e148 => ?_)
    have k49 : ai_hv t148 383 2 = some (.inl 0) := (e148 383 2 (by first | decide | omega)).trans k36
    have k50 : ai_hv t148 383 19 = some (.inl r) := (e148 383 19 (by first | decide | omega)).trans k37
    have k51 : ai_hv t148 383 13 = some (.inl cO) := (e148 383 13 (by first | decide | omega)).trans k38
    have k52 : ai_hv t148 389 160 = some (.inl ov) := (e148 389 160 (by first | decide | omega)).trans k39
    have k53 : ai_hv t148 389 161 = some (.inl dn) := (e148 389 161 (by first | decide | omega)).trans k40
    have k54 : ai_hv t148 389 162 = some (.inl nt) := (e148 389 162 (by first | decide | omega)).trans k41
    have k55 : ai_hv t148 389 165 = some (.inl pa) := (e148 389 165 (by first | decide | omega)).trans k42
    have k56 : ai_hv t148 389 163 = some (.inl nL) := (e148 389 163 (by first | decide | omega)).trans k43
    have k57 : ai_hv t148 389 164 = some (.inl nC) := (e148 389 164 (by first | decide | omega)).trans k44
    have k58 : ai_hv t148 389 0 = some (.inl ov) := (e148 389 0 (by first | decide | omega)).trans k45
    have k59 : ai_hv t148 389 1 = some (.inl dn) := (e148 389 1 (by first | decide | omega)).trans k46
    have k60 : ai_hv t148 389 2 = some (.inl nt) := (e148 389 2 (by first | decide | omega)).trans k47
    have k61 : ai_hv t148 389 3 = some (.inl nL) := (e148 389 3 (by first | decide | omega)).trans k135
    have s148 : px_S t148 a f := ⟨g148, (e148 383 7 (by first | decide | omega)).trans s135.2.1, (e148 383 8 (by first | decide | omega)).trans s135.2.2.1, s135.2.2.2⟩
    refine ex_go (S := (144, [(1, .inl 5), (0, gx_r 383)], [], t148, n, 0)) rfl (fun _ => rfl) rfl ?_
    refine ex_go (S := (118, [(1, .inl 5), (0, gx_r 383)], [], t148, n, 0)) rfl (fun _ => rfl) rfl ?_
    refine ex_go (S := (119, [(1, .inl 5), (0, gx_r 383)], [.inl 5], t148, n, 0)) rfl (fun _ => rfl) rfl ?_
    refine ex_go (S := (122, [(1, .inl 5), (0, gx_r 383)], [.inl 160, .inl 5], t148, n, 0)) rfl (fun _ => rfl) rfl ?_
    refine ex_go (S := (125, [(1, .inl 5), (0, gx_r 383)], [], t148, n, 0)) rfl (fun _ => rfl) rfl ?_
    refine ex_go (S := (126, [(1, .inl 5), (0, gx_r 383)], [gx_r 383], t148, n, 0)) rfl (fun _ => rfl) rfl ?_
    refine gx_ref (c := 389) rfl s148.1 rfl rfl rfl rfl ?_
    refine ex_go (S := (130, [(1, .inl 5), (0, gx_r 383)], [.inl 5, gx_r 389], t148, n, 0)) rfl (fun _ => rfl) rfl ?_
    refine ex_go (S := (131, [(1, .inl 5), (0, gx_r 383)], [gx_r 383, .inl 5, gx_r 389], t148, n, 0)) rfl (fun _ => rfl) rfl ?_
    refine gx_ref (c := 389) rfl s148.1 rfl rfl rfl rfl ?_
    refine ex_go (S := (137, [(1, .inl 5), (0, gx_r 383)], [.inl 160, gx_r 389, .inl 5, gx_r 389], t148, n, 0)) rfl (fun _ => rfl) rfl ?_
    refine ex_go (S := (138, [(1, .inl 5), (0, gx_r 383)], [.inl 5, .inl 160, gx_r 389, .inl 5, gx_r 389], t148, n, 0)) rfl (fun _ => rfl) rfl ?_
    refine ex_go (S := (139, [(1, .inl 5), (0, gx_r 383)], [.inl 165, gx_r 389, .inl 5, gx_r 389], t148, n, 0)) rfl (fun _ => rfl) rfl ?_
    refine gx_ag (v := .inl pa) (cb := fun c => Nat.beq c 0) rfl (fun _ => rfl) s148.1 rfl rfl k55 (by first | decide | omega) rfl ?_
    refine gx_ap rfl (fun _ => rfl) s148.1 rfl rfl rfl (show 5 < 320 from by omega) rfl (ai_in_h (by first | decide | omega) (by first | decide | omega) (by first | decide | omega)) rfl (fun t162 g162 k162 e162 => ?_)
    have k63 : ai_hv t162 383 2 = some (.inl 0) := (e162 383 2 (by first | decide | omega)).trans k49
    have k64 : ai_hv t162 383 19 = some (.inl r) := (e162 383 19 (by first | decide | omega)).trans k50
    have k65 : ai_hv t162 383 13 = some (.inl cO) := (e162 383 13 (by first | decide | omega)).trans k51
    have k66 : ai_hv t162 389 160 = some (.inl ov) := (e162 389 160 (by first | decide | omega)).trans k52
    have k67 : ai_hv t162 389 161 = some (.inl dn) := (e162 389 161 (by first | decide | omega)).trans k53
    have k68 : ai_hv t162 389 162 = some (.inl nt) := (e162 389 162 (by first | decide | omega)).trans k54
    have k69 : ai_hv t162 389 165 = some (.inl pa) := (e162 389 165 (by first | decide | omega)).trans k55
    have k70 : ai_hv t162 389 163 = some (.inl nL) := (e162 389 163 (by first | decide | omega)).trans k56
    have k71 : ai_hv t162 389 164 = some (.inl nC) := (e162 389 164 (by first | decide | omega)).trans k57
    have k72 : ai_hv t162 389 0 = some (.inl ov) := (e162 389 0 (by first | decide | omega)).trans k58
    have k73 : ai_hv t162 389 1 = some (.inl dn) := (e162 389 1 (by first | decide | omega)).trans k59
    have k74 : ai_hv t162 389 2 = some (.inl nt) := (e162 389 2 (by first | decide | omega)).trans k60
    have k75 : ai_hv t162 389 3 = some (.inl nL) := (e162 389 3 (by first | decide | omega)).trans k61
    have k76 : ai_hv t162 389 4 = some (.inl nC) := (e162 389 4 (by first | decide | omega)).trans k148
    have s162 : px_S t162 a f := ⟨g162, (e162 383 7 (by first | decide | omega)).trans s148.2.1, (e162 383 8 (by first | decide | omega)).trans s148.2.2.1, s148.2.2.2⟩
    refine ex_go (S := (144, [(1, .inl 6), (0, gx_r 383)], [], t162, n, 0)) rfl (fun _ => rfl) rfl ?_
    refine ex_go (S := (118, [(1, .inl 6), (0, gx_r 383)], [], t162, n, 0)) rfl (fun _ => rfl) rfl ?_
    have i6 : ∀ i, i < 6 → ai_hv t162 389 i = ai_hv t1 389 (160 + i) := fun i hi => by
      rcases (show i = 0 ∨ i = 1 ∨ i = 2 ∨ i = 3 ∨ i = 4 ∨ i = 5 by omega) with rfl | rfl | rfl | rfl | rfl | rfl
      · exact k72.trans kov.symm
      · exact k73.trans kdn.symm
      · exact k74.trans knt.symm
      · exact k75.trans kL.symm
      · exact k76.trans kC.symm
      · exact k162.trans kpa.symm
    refine pa_1 (tb := t1) (fun t177 g177 j1 e177 => ?_) 154 6 _ rfl (by first | decide | omega) s162.1 i6 (fun c i h => (e162 c i (by first | decide | omega)).trans ((e148 c i (by first | decide | omega)).trans ((e135 c i (by first | decide | omega)).trans ((e123 c i (by first | decide | omega)).trans ((e112 c i (by first | decide | omega)).trans (e102 c i (by first | decide | omega)))))))
    have k78 : ai_hv t177 383 2 = some (.inl 0) := (e177 383 2 (by first | decide | omega)).trans k2
    have k79 : ai_hv t177 383 19 = some (.inl r) := (e177 383 19 (by first | decide | omega)).trans kr
    have k80 : ai_hv t177 383 13 = some (.inl cO) := (e177 383 13 (by first | decide | omega)).trans kc
    refine ex_go (S := (148, [(1, .inl 160), (0, gx_r 383)], [.inl 0], t177, n, 0)) rfl (fun _ => rfl) rfl ?_
    refine ex_go (S := (149, [(1, .inl 0), (0, gx_r 383)], [], t177, n, 0)) rfl (fun _ => rfl) rfl ?_
    refine pa_2 (tb := t177) (cc := cO) (by first | decide | omega) k80 (fun t181 g181 j2 e181 => ?_) cO 0 _ (by first | decide | omega) g177 (fun i hi => by omega) (fun c i h => rfl)
    have k82 : ai_hv t181 383 2 = some (.inl 0) := (e181 383 2 (by first | decide | omega)).trans k78
    have k83 : ai_hv t181 383 19 = some (.inl r) := (e181 383 19 (by first | decide | omega)).trans k79
    have k84 : ai_hv t181 383 13 = some (.inl cO) := (e181 383 13 (by first | decide | omega)).trans k80
    refine ex_go (S := (196, [(1, .inl cO), (0, gx_r 383)], [.inl 0], t181, n, 0)) rfl (fun _ => rfl) rfl ?_
    refine ex_go (S := (197, [(1, .inl 0), (0, gx_r 383)], [], t181, n, 0)) rfl (fun _ => rfl) rfl ?_
    refine pe_pa3 (tb := t181) (rm := r) (by first | decide | omega) k83 (fun t185 g185 j3 e185 => ?_) r 0 _ (by first | decide | omega) g181 (fun i hi => absurd hi (Nat.not_lt_zero i)) (fun c i h => rfl)
    have k86 : ai_hv t185 383 2 = some (.inl 0) := (e185 383 2 (by first | decide | omega)).trans k82
    have k87 : ai_hv t185 383 19 = some (.inl r) := (e185 383 19 (by first | decide | omega)).trans k83
    have k88 : ai_hv t185 383 13 = some (.inl cO) := (e185 383 13 (by first | decide | omega)).trans k84
    refine ex_go (S := (236, [(1, .inl r), (0, gx_r 383)], [gx_r 383], t185, n, 0)) rfl (fun _ => rfl) rfl ?_
    refine ex_go (S := (237, [(1, .inl r), (0, gx_r 383)], [gx_r 383, gx_r 383], t185, n, 0)) rfl (fun _ => rfl) rfl ?_
    refine gx_get rfl g185 rfl k87 rfl ?_
    refine gx_put rfl g185 rfl rfl (ai_in_h (by first | decide | omega) (by first | decide | omega) (by first | decide | omega)) rfl (fun t189 g189 k189 e189 => ?_)
    have k90 : ai_hv t189 383 2 = some (.inl 0) := (e189 383 2 (by first | decide | omega)).trans k86
    have k91 : ai_hv t189 383 19 = some (.inl r) := (e189 383 19 (by first | decide | omega)).trans k87
    have k92 : ai_hv t189 383 13 = some (.inl cO) := (e189 383 13 (by first | decide | omega)).trans k88
    refine ex_go (S := (244, [(1, .inl r), (0, gx_r 383)], [gx_r 383], t189, n, 0)) rfl (fun _ => rfl) rfl ?_
    obtain ⟨_, r193, t193, rfl, g193, e193, h7, h8⟩ := pk_begins (d + 31) n g189
    refine gx_call0 rfl rfl g189 rfl rfl r193 rfl ?_
    have k94 : ai_hv t193 383 2 = some (.inl 0) := (e193 383 2 (by first | decide | omega)).trans k90
    have k95 : ai_hv t193 383 19 = some (.inl r) := (e193 383 19 (by first | decide | omega)).trans k91
    have k96 : ai_hv t193 383 13 = some (.inl cO) := (e193 383 13 (by first | decide | omega)).trans k92
    have k97 : ai_hv t193 383 18 = some (.inl r) := (e193 383 18 (by first | decide | omega)).trans k189
    have hB9 : SBg t193 := SBg_of g189 r193
    refine ex_go (S := (248, [(1, .inl r), (0, gx_r 383)], [.inl 0], t193, n, 0)) rfl (fun _ => rfl) rfl ?_
    refine ex_ret (r := (some (.inl 0), t193, n, 0)) rfl (fun _ => rfl) ?_
    exact ⟨_, rfl, 0, t193, rfl, by omega, fun z => ⟨fun i hi => (e193 389 i (by first | decide | omega)).trans ((e189 389 i (by first | decide | omega)).trans ((e185 389 i (by first | decide | omega)).trans ((e181 389 i (by first | decide | omega)).trans (j1 i hi)))), ⟨r, kr, k97, fun i hi => ⟨(e193 392 i (by first | decide | omega)).trans ((e189 392 i (by first | decide | omega)).trans (((j3 i hi).1).trans ((e181 393 i (by first | decide | omega)).trans ((e177 393 i (by first | decide | omega)))))), (e193 394 i (by first | decide | omega)).trans ((e189 394 i (by first | decide | omega)).trans (((j3 i hi).2).trans ((e181 395 i (by first | decide | omega)).trans ((e177 395 i (by first | decide | omega))))))⟩⟩, hB9, cO, px_O_c hOO, by omega, fun i hi => ⟨(e193 390 i (by first | decide | omega)).trans ((e189 390 i (by first | decide | omega)).trans ((e185 390 i (by first | decide | omega)).trans (((j2 i hi).1).trans ((e177 390 (1100 + i) (by first | decide | omega)))))), (e193 391 i (by first | decide | omega)).trans ((e189 391 i (by first | decide | omega)).trans ((e185 391 i (by first | decide | omega)).trans (((j2 i hi).2).trans ((e177 391 (1100 + i) (by first | decide | omega))))))⟩⟩⟩
  · refine gx_1f (c := .le) rfl (by first | decide | omega) hc1 rfl ?_
    refine ex_go (S := (112, [(0, gx_r 383)], [gx_r 383], t1, n, 0)) rfl (fun _ => rfl) rfl ?_
    refine gx_get rfl s1.1 rfl s1.2.2.1 rfl ?_
    refine ex_ret (r := (some (.inl f), t1, n, 0)) rfl (fun _ => rfl) ?_
    exact ⟨_, rfl, f, t1, rfl, by omega, fun z => by omega⟩
theorem pe_sa3 {fn : en_F} {n : Nat} {tb : en_H} {Q : en_O → Prop} (hQ : ∀ t1, ai_HG ah_G t1 → (∀ c i, ¬ (c = 389 ∧ 172 ≤ i ∧ i < 236) → ai_hv t1 c i = ai_hv tb c i) → (∀ i, i < 64 → ai_hv t1 389 (172 + i) = some (.inl 4)) → en_ex none fn (en_code 26) (fun _ => false) (75, [(2, .inl 64), (0, gx_r 383), (1, .inl 160)], [], t1, n, 0) Q) : ∀ j k t0, k + j = 64 → ai_HG ah_G t0 → (∀ c i, ¬ (c = 389 ∧ 172 ≤ i ∧ i < 236) → ai_hv t0 c i = ai_hv tb c i) → (∀ i, i < k → ai_hv t0 389 (172 + i) = some (.inl 4)) → en_ex none fn (en_code 26) (fun _ => false) (51, [(2, .inl k), (0, gx_r 383), (1, .inl 160)], [], t0, n, 0) Q := by
  intro j
  induction j with
  | zero =>
    intro k t0 hk g0 e0 h4
    have hk : k = 64 := by omega
    subst hk
    refine ex_go (S := (52, [(2, .inl 64), (0, gx_r 383), (1, .inl 160)], [.inl 64], t0, n, 0)) rfl (fun _ => rfl) rfl ?_
    refine ex_go (S := (54, [(2, .inl 64), (0, gx_r 383), (1, .inl 160)], [.inl 64, .inl 64], t0, n, 0)) rfl (fun _ => rfl) rfl ?_
    refine ex_go (S := (75, [(2, .inl 64), (0, gx_r 383), (1, .inl 160)], [], t0, n, 0)) rfl (fun _ => rfl) rfl ?_
    exact hQ t0 g0 (fun c i h => e0 c i h) h4
  | succ j ih =>
    intro k t0 hk g0 e0 h4
    refine ex_go (S := (52, [(2, .inl k), (0, gx_r 383), (1, .inl 160)], [.inl k], t0, n, 0)) rfl (fun _ => rfl) rfl ?_
    refine ex_go (S := (54, [(2, .inl k), (0, gx_r 383), (1, .inl 160)], [.inl 64, .inl k], t0, n, 0)) rfl (fun _ => rfl) rfl ?_
    refine gx_2f (c := .ge) rfl (by first | decide | omega) (by first | decide | omega) (show ¬ (64 ≤ k) from by omega) rfl ?_
    refine ex_go (S := (58, [(2, .inl k), (0, gx_r 383), (1, .inl 160)], [gx_r 383], t0, n, 0)) rfl (fun _ => rfl) rfl ?_
    refine gx_ref (c := 389) rfl g0 rfl rfl rfl rfl ?_
    refine ex_go (S := (62, [(2, .inl k), (0, gx_r 383), (1, .inl 160)], [.inl 160, gx_r 389], t0, n, 0)) rfl (fun _ => rfl) rfl ?_
    refine ex_go (S := (64, [(2, .inl k), (0, gx_r 383), (1, .inl 160)], [.inl 12, .inl 160, gx_r 389], t0, n, 0)) rfl (fun _ => rfl) rfl ?_
    refine ex_go (S := (65, [(2, .inl k), (0, gx_r 383), (1, .inl 160)], [.inl 172, gx_r 389], t0, n, 0)) rfl (fun _ => rfl) rfl ?_
    refine ex_go (S := (66, [(2, .inl k), (0, gx_r 383), (1, .inl 160)], [.inl k, .inl 172, gx_r 389], t0, n, 0)) rfl (fun _ => rfl) rfl ?_
    refine ex_iadd rfl (by first | decide | omega) rfl ?_
    refine ex_go (S := (68, [(2, .inl k), (0, gx_r 383), (1, .inl 160)], [.inl 4, .inl (172 + k), gx_r 389], t0, n, 0)) rfl (fun _ => rfl) rfl ?_
    refine gx_ap rfl (fun _ => rfl) g0 rfl rfl rfl (show 172 + k < 320 from by omega) (px_run_flow k (by first | decide | omega) (by first | decide | omega)) (ai_in_h (by first | decide | omega) (by first | decide | omega) (by first | decide | omega)) rfl (fun t101 g101 k101 e101 => ?_)
    refine gx_iinc (i := 2) (k := 1) rfl (fun _ => rfl) (by first | decide | omega) rfl ?_
    show en_ex _ _ _ _ (72, [(2, .inl (k + 1)), (0, gx_r 383), (1, .inl 160)], [], t101, n, 0) _
    refine ex_go (S := (51, [(2, .inl (k + 1)), (0, gx_r 383), (1, .inl 160)], [], t101, n, 0)) rfl (fun _ => rfl) rfl ?_
    refine ih (k + 1) t101 (by first | decide | omega) g101 (fun c i h => (e101 c i (by first | decide | omega)).trans (e0 c i h)) (fun i hi => ?_)
    by_cases e9 : i = k
    · rw [show 172 + i = 172 + k by omega]; exact k101
    · exact (e101 389 (172 + i) (by first | decide | omega)).trans (h4 i (by first | decide | omega))
theorem pe_stands (d n : Nat) {t0 : en_H} (g0 : ai_HG ah_G t0) : ∃ r, en_u (d + 1) 26 [gx_r 383, .inl 160] t0 n = some r ∧ ∃ t', r = (none, t', n, 0) ∧ ai_HG ah_G t' ∧ (∀ c i, ¬ (c = 389 ∧ 160 ≤ i ∧ i < 320) → ai_hv t' c i = ai_hv t0 c i) ∧ (∀ i, 162 ≤ i → i < 169 → i ≠ 165 → ai_hv t' 389 i = some (.inl 0)) ∧ ai_hv t' 389 165 = some (.inl 2) ∧ (∀ l, l < 3 → ai_hv t' 389 (169 + l) = some (.inl 4294967295)) ∧ (∀ j, j < 64 → ai_hv t' 389 (172 + j) = some (.inl 4)) := by
  refine en_u_ex rfl ?_
  show en_ex _ _ _ _ (0, [(0, gx_r 383), (1, .inl 160)], [], t0, n, 0) _
  refine ex_go (S := (1, [(0, gx_r 383), (1, .inl 160)], [.inl 0], t0, n, 0)) rfl (fun _ => rfl) rfl ?_
  refine ex_go (S := (2, [(2, .inl 0), (0, gx_r 383), (1, .inl 160)], [], t0, n, 0)) rfl (fun _ => rfl) rfl ?_
  refine sa_1 (tb := t0) (fun t1 g1 e1 z1 => ?_) 160 0 _ rfl g0 (fun _ _ _ => rfl) (fun i h1 h2 => by omega)
  refine ex_go (S := (25, [(2, .inl 160), (0, gx_r 383), (1, .inl 160)], [.inl 0], t1, n, 0)) rfl (fun _ => rfl) rfl ?_
  refine ex_go (S := (26, [(2, .inl 0), (0, gx_r 383), (1, .inl 160)], [], t1, n, 0)) rfl (fun _ => rfl) rfl ?_
  refine ex_go (S := (27, [(2, .inl 0), (0, gx_r 383), (1, .inl 160)], [.inl 0], t1, n, 0)) rfl (fun _ => rfl) rfl ?_
  refine ex_go (S := (28, [(2, .inl 0), (0, gx_r 383), (1, .inl 160)], [.inl 3, .inl 0], t1, n, 0)) rfl (fun _ => rfl) rfl ?_
  refine ex_go (S := (31, [(2, .inl 0), (0, gx_r 383), (1, .inl 160)], [], t1, n, 0)) rfl (fun _ => rfl) rfl ?_
  refine ex_go (S := (32, [(2, .inl 0), (0, gx_r 383), (1, .inl 160)], [gx_r 383], t1, n, 0)) rfl (fun _ => rfl) rfl ?_
  refine gx_ref (c := 389) rfl g1 rfl rfl rfl rfl ?_
  refine ex_go (S := (36, [(2, .inl 0), (0, gx_r 383), (1, .inl 160)], [.inl 160, gx_r 389], t1, n, 0)) rfl (fun _ => rfl) rfl ?_
  refine ex_go (S := (38, [(2, .inl 0), (0, gx_r 383), (1, .inl 160)], [.inl 9, .inl 160, gx_r 389], t1, n, 0)) rfl (fun _ => rfl) rfl ?_
  refine ex_go (S := (39, [(2, .inl 0), (0, gx_r 383), (1, .inl 160)], [.inl 169, gx_r 389], t1, n, 0)) rfl (fun _ => rfl) rfl ?_
  refine ex_go (S := (40, [(2, .inl 0), (0, gx_r 383), (1, .inl 160)], [.inl 0, .inl 169, gx_r 389], t1, n, 0)) rfl (fun _ => rfl) rfl ?_
  refine ex_go (S := (41, [(2, .inl 0), (0, gx_r 383), (1, .inl 160)], [.inl 169, gx_r 389], t1, n, 0)) rfl (fun _ => rfl) rfl ?_
  refine ex_go (S := (42, [(2, .inl 0), (0, gx_r 383), (1, .inl 160)], [.inl 4294967295, .inl 169, gx_r 389], t1, n, 0)) rfl (fun _ => rfl) rfl ?_
  refine gx_ap rfl (fun _ => rfl) g1 rfl rfl rfl (show 169 < 320 from by omega) rfl ⟨_, rfl, by decide, by decide, by decide⟩ rfl (fun t101 g101 k101 e101 => ?_)
  refine ex_go (S := (46, [(2, .inl 1), (0, gx_r 383), (1, .inl 160)], [], t101, n, 0)) rfl (fun _ => rfl) rfl ?_
  refine ex_go (S := (26, [(2, .inl 1), (0, gx_r 383), (1, .inl 160)], [], t101, n, 0)) rfl (fun _ => rfl) rfl ?_
  refine ex_go (S := (27, [(2, .inl 1), (0, gx_r 383), (1, .inl 160)], [.inl 1], t101, n, 0)) rfl (fun _ => rfl) rfl ?_
  refine ex_go (S := (28, [(2, .inl 1), (0, gx_r 383), (1, .inl 160)], [.inl 3, .inl 1], t101, n, 0)) rfl (fun _ => rfl) rfl ?_
  refine ex_go (S := (31, [(2, .inl 1), (0, gx_r 383), (1, .inl 160)], [], t101, n, 0)) rfl (fun _ => rfl) rfl ?_
  refine ex_go (S := (32, [(2, .inl 1), (0, gx_r 383), (1, .inl 160)], [gx_r 383], t101, n, 0)) rfl (fun _ => rfl) rfl ?_
  refine gx_ref (c := 389) rfl g101 rfl rfl rfl rfl ?_
  refine ex_go (S := (36, [(2, .inl 1), (0, gx_r 383), (1, .inl 160)], [.inl 160, gx_r 389], t101, n, 0)) rfl (fun _ => rfl) rfl ?_
  refine ex_go (S := (38, [(2, .inl 1), (0, gx_r 383), (1, .inl 160)], [.inl 9, .inl 160, gx_r 389], t101, n, 0)) rfl (fun _ => rfl) rfl ?_
  refine ex_go (S := (39, [(2, .inl 1), (0, gx_r 383), (1, .inl 160)], [.inl 169, gx_r 389], t101, n, 0)) rfl (fun _ => rfl) rfl ?_
  refine ex_go (S := (40, [(2, .inl 1), (0, gx_r 383), (1, .inl 160)], [.inl 1, .inl 169, gx_r 389], t101, n, 0)) rfl (fun _ => rfl) rfl ?_
  refine ex_go (S := (41, [(2, .inl 1), (0, gx_r 383), (1, .inl 160)], [.inl 170, gx_r 389], t101, n, 0)) rfl (fun _ => rfl) rfl ?_
  refine ex_go (S := (42, [(2, .inl 1), (0, gx_r 383), (1, .inl 160)], [.inl 4294967295, .inl 170, gx_r 389], t101, n, 0)) rfl (fun _ => rfl) rfl ?_
  refine gx_ap rfl (fun _ => rfl) g101 rfl rfl rfl (show 170 < 320 from by omega) rfl ⟨_, rfl, by decide, by decide, by decide⟩ rfl (fun t102 g102 k102 e102 => ?_)
  have k3 : ai_hv t102 389 169 = some (.inl 4294967295) := (e102 389 169 (by first | decide | omega)).trans k101
  refine ex_go (S := (46, [(2, .inl 2), (0, gx_r 383), (1, .inl 160)], [], t102, n, 0)) rfl (fun _ => rfl) rfl ?_
  refine ex_go (S := (26, [(2, .inl 2), (0, gx_r 383), (1, .inl 160)], [], t102, n, 0)) rfl (fun _ => rfl) rfl ?_
  refine ex_go (S := (27, [(2, .inl 2), (0, gx_r 383), (1, .inl 160)], [.inl 2], t102, n, 0)) rfl (fun _ => rfl) rfl ?_
  refine ex_go (S := (28, [(2, .inl 2), (0, gx_r 383), (1, .inl 160)], [.inl 3, .inl 2], t102, n, 0)) rfl (fun _ => rfl) rfl ?_
  refine ex_go (S := (31, [(2, .inl 2), (0, gx_r 383), (1, .inl 160)], [], t102, n, 0)) rfl (fun _ => rfl) rfl ?_
  refine ex_go (S := (32, [(2, .inl 2), (0, gx_r 383), (1, .inl 160)], [gx_r 383], t102, n, 0)) rfl (fun _ => rfl) rfl ?_
  refine gx_ref (c := 389) rfl g102 rfl rfl rfl rfl ?_
  refine ex_go (S := (36, [(2, .inl 2), (0, gx_r 383), (1, .inl 160)], [.inl 160, gx_r 389], t102, n, 0)) rfl (fun _ => rfl) rfl ?_
  refine ex_go (S := (38, [(2, .inl 2), (0, gx_r 383), (1, .inl 160)], [.inl 9, .inl 160, gx_r 389], t102, n, 0)) rfl (fun _ => rfl) rfl ?_
  refine ex_go (S := (39, [(2, .inl 2), (0, gx_r 383), (1, .inl 160)], [.inl 169, gx_r 389], t102, n, 0)) rfl (fun _ => rfl) rfl ?_
  refine ex_go (S := (40, [(2, .inl 2), (0, gx_r 383), (1, .inl 160)], [.inl 2, .inl 169, gx_r 389], t102, n, 0)) rfl (fun _ => rfl) rfl ?_
  refine ex_go (S := (41, [(2, .inl 2), (0, gx_r 383), (1, .inl 160)], [.inl 171, gx_r 389], t102, n, 0)) rfl (fun _ => rfl) rfl ?_
  refine ex_go (S := (42, [(2, .inl 2), (0, gx_r 383), (1, .inl 160)], [.inl 4294967295, .inl 171, gx_r 389], t102, n, 0)) rfl (fun _ => rfl) rfl ?_
  refine gx_ap rfl (fun _ => rfl) g102 rfl rfl rfl (show 171 < 320 from by omega) rfl ⟨_, rfl, by decide, by decide, by decide⟩ rfl (fun t104 g104 k104 e104 => ?_)
  have k5 : ai_hv t104 389 169 = some (.inl 4294967295) := (e104 389 169 (by first | decide | omega)).trans k3
  have k6 : ai_hv t104 389 170 = some (.inl 4294967295) := (e104 389 170 (by first | decide | omega)).trans k102
  refine ex_go (S := (46, [(2, .inl 3), (0, gx_r 383), (1, .inl 160)], [], t104, n, 0)) rfl (fun _ => rfl) rfl ?_
  refine ex_go (S := (26, [(2, .inl 3), (0, gx_r 383), (1, .inl 160)], [], t104, n, 0)) rfl (fun _ => rfl) rfl ?_
  refine ex_go (S := (27, [(2, .inl 3), (0, gx_r 383), (1, .inl 160)], [.inl 3], t104, n, 0)) rfl (fun _ => rfl) rfl ?_
  refine ex_go (S := (28, [(2, .inl 3), (0, gx_r 383), (1, .inl 160)], [.inl 3, .inl 3], t104, n, 0)) rfl (fun _ => rfl) rfl ?_
  refine ex_go (S := (49, [(2, .inl 3), (0, gx_r 383), (1, .inl 160)], [], t104, n, 0)) rfl (fun _ => rfl) rfl ?_
  refine ex_go (S := (50, [(2, .inl 3), (0, gx_r 383), (1, .inl 160)], [.inl 0], t104, n, 0)) rfl (fun _ => rfl) rfl ?_
  refine ex_go (S := (51, [(2, .inl 0), (0, gx_r 383), (1, .inl 160)], [], t104, n, 0)) rfl (fun _ => rfl) rfl ?_
  refine pe_sa3 (tb := t104) (fun t107 g107 e107 h4 => ?_) 64 0 _ rfl g104 (fun _ _ _ => rfl) (fun i hi => absurd hi (Nat.not_lt_zero i))
  have k8 : ai_hv t107 389 169 = some (.inl 4294967295) := (e107 389 169 (by first | decide | omega)).trans k5
  have k9 : ai_hv t107 389 170 = some (.inl 4294967295) := (e107 389 170 (by first | decide | omega)).trans k6
  have k10 : ai_hv t107 389 171 = some (.inl 4294967295) := (e107 389 171 (by first | decide | omega)).trans k104
  refine ex_go (S := (76, [(2, .inl 64), (0, gx_r 383), (1, .inl 160)], [gx_r 383], t107, n, 0)) rfl (fun _ => rfl) rfl ?_
  refine gx_ref (c := 389) rfl g107 rfl rfl rfl rfl ?_
  refine ex_go (S := (80, [(2, .inl 64), (0, gx_r 383), (1, .inl 160)], [.inl 160, gx_r 389], t107, n, 0)) rfl (fun _ => rfl) rfl ?_
  refine ex_go (S := (81, [(2, .inl 64), (0, gx_r 383), (1, .inl 160)], [.inl 5, .inl 160, gx_r 389], t107, n, 0)) rfl (fun _ => rfl) rfl ?_
  refine ex_go (S := (82, [(2, .inl 64), (0, gx_r 383), (1, .inl 160)], [.inl 165, gx_r 389], t107, n, 0)) rfl (fun _ => rfl) rfl ?_
  refine ex_go (S := (83, [(2, .inl 64), (0, gx_r 383), (1, .inl 160)], [.inl 2, .inl 165, gx_r 389], t107, n, 0)) rfl (fun _ => rfl) rfl ?_
  refine gx_ap rfl (fun _ => rfl) g107 rfl rfl rfl (show 165 < 320 from by omega) rfl (ai_in_h (by first | decide | omega) (by first | decide | omega) (by first | decide | omega)) rfl (fun t111 g111 k111 e111 => ?_)
  have k12 : ai_hv t111 389 169 = some (.inl 4294967295) := (e111 389 169 (by first | decide | omega)).trans k8
  have k13 : ai_hv t111 389 170 = some (.inl 4294967295) := (e111 389 170 (by first | decide | omega)).trans k9
  have k14 : ai_hv t111 389 171 = some (.inl 4294967295) := (e111 389 171 (by first | decide | omega)).trans k10
  refine ex_ret (r := (none, t111, n, 0)) rfl (fun _ => rfl) ?_
  refine ⟨_, rfl, t111, rfl, g111, (fun c i h => (e111 c i (by first | decide | omega)).trans ((e107 c i (by first | decide | omega)).trans ((e104 c i (by first | decide | omega)).trans ((e102 c i (by first | decide | omega)).trans ((e101 c i (by first | decide | omega)).trans (e1 c i (by first | decide | omega))))))), (fun i h1 h2 h3 => (e111 389 i (by first | decide | omega)).trans ((e107 389 i (by first | decide | omega)).trans ((e104 389 i (by first | decide | omega)).trans ((e102 389 i (by first | decide | omega)).trans ((e101 389 i (by first | decide | omega)).trans (z1 i (by first | decide | omega) (by first | decide | omega))))))), k111, (fun l hl => ?_), fun j hj => (e111 389 (172 + j) (by first | decide | omega)).trans (h4 j hj)⟩
  rcases (show l = 0 ∨ l = 1 ∨ l = 2 by omega) with rfl | rfl | rfl
  · exact k12
  · exact k13
  · exact k14
/-- what the reference tells: some draft's, laid where the told ones lie -/
noncomputable def RT (t : en_H) (S : Nat → Nat) (m : Nat) (υ : Nat → Nat → Nat) : Prop := (∃ t1, RA t1 S m υ ∧ ∀ i, i < 160 → ai_hv t 389 i = ai_hv t1 389 (160 + i)) ∧ ai_hv t 383 18 = some (.inl (υ 15 0)) ∧ ∀ k, k < υ 15 0 → ai_hv t 392 k = some (.inr (.inl (sp_w7 S m (υ 13 k)))) ∧ ai_hv t 394 k = some (.inl (υ 14 k))
/-- the laws' codes told -/
noncomputable def RTL (t : en_H) (S : Nat → Nat) (m N : Nat) (υ : Nat → Nat → Nat) : Prop := ∀ l, l < 3 → (υ 9 l = 0 ∧ ai_hv t 389 (9 + l) = some (.inl 4294967295)) ∨ (υ 9 l = 1 ∧ ∃ z L, ai_hv t 389 (9 + l) = some (.inl z) ∧ Ec S m N (sp_fh l) 0 0 (υ 24 l, 0) L ∧ z + L.length + 1 ≤ 1000 ∧ (∀ j, j < L.length → ai_hv t 390 (z + j) = some (.inl (opm ((L[j]?).getD 0))) ∧ ai_hv t 391 (z + j) = some (.inl (argm (sp_fh l) ((L[j]?).getD 0)))) ∧ ai_hv t 390 (z + L.length) = some (.inl 0))
theorem RTL_of {t t1 : en_H} {S : Nat → Nat} {m N c : Nat} {υ : Nat → Nat → Nat} (h : RLw t1 υ) (hC : RCw t1 S m N υ c) (hc : c ≤ 1000) (h1 : ∀ i, i < 160 → ai_hv t 389 i = ai_hv t1 389 (160 + i)) (h2 : ∀ i, i < c → ai_hv t 390 i = ai_hv t1 390 (1100 + i) ∧ ai_hv t 391 i = ai_hv t1 391 (1100 + i)) : RTL t S m N υ := by
  intro l hl
  rcases h l hl with ⟨z1, z2⟩ | ⟨z1, z, z2, z3⟩
  · exact Or.inl ⟨z1, (h1 (9 + l) (by first | decide | omega)).trans (by rw [show 160 + (9 + l) = 169 + l by omega]; exact z2)⟩
  · obtain ⟨z', L, q1, q2, q3, q4, q5⟩ := hC l hl z1
    exact Or.inr ⟨z1, z', L, (h1 (9 + l) (by first | decide | omega)).trans (by rw [show 160 + (9 + l) = 169 + l by omega]; exact q1), q2, by omega, fun j hj => ⟨(h2 (z' + j) (by first | decide | omega)).1.trans (q3 j hj).1, (h2 (z' + j) (by first | decide | omega)).2.trans (q3 j hj).2⟩, (h2 _ (by first | decide | omega)).1.trans q4⟩
theorem pe_cutAll (d n : Nat) {t0 : en_H} {S : Nat → Nat} {m : Nat} (g0 : ai_HG ah_G t0) (hm : m ≤ 1000) (km : ai_hv t0 383 2 = some (.inl m)) (hS : ∀ i, i < m → ai_hv t0 384 i = some (.inl (S i)) ∧ S i ≤ 255) : ∃ r, en_u (d + 3) 93 [gx_r 383] t0 n = some r ∧ ∃ t', r = (none, t', n, 0) ∧ px_S t' 0 0 ∧ ai_hv t' 383 2 = some (.inl 0) ∧ (∀ c i, ¬ ((c = 383 ∧ (i = 2 ∨ i = 3 ∨ i = 7 ∨ i = 8)) ∨ c = 385 ∨ c = 386 ∨ c = 387) → ai_hv t' c i = ai_hv t0 c i) ∧ ∃ N, N ≤ m ∧ tR t' S m N ∧ sp_st S m N = m ∧ ai_hv t' 385 N = some (.inl 0) ∧ ai_hv t' 386 N = some (.inl m) := by
  refine en_u_ex (d := d + 2) rfl ?_
  show en_ex _ _ _ _ (0, [(0, gx_r 383)], [], t0, n, 0) _
  refine ex_go (S := (1, [(0, gx_r 383)], [gx_r 383], t0, n, 0)) rfl (fun _ => rfl) rfl ?_
  refine ex_go (S := (2, [(0, gx_r 383)], [gx_r 383, gx_r 383], t0, n, 0)) rfl (fun _ => rfl) rfl ?_
  refine gx_get rfl g0 rfl km rfl ?_
  refine gx_put rfl g0 rfl rfl (ai_in_h (by first | decide | omega) (by first | decide | omega) (by first | decide | omega)) rfl (fun t101 g101 k101 e101 => ?_)
  have k2 : ai_hv t101 383 2 = some (.inl m) := (e101 383 2 (by first | decide | omega)).trans km
  refine ex_go (S := (9, [(0, gx_r 383)], [gx_r 383], t101, n, 0)) rfl (fun _ => rfl) rfl ?_
  refine ex_go (S := (10, [(0, gx_r 383)], [.inl 0, gx_r 383], t101, n, 0)) rfl (fun _ => rfl) rfl ?_
  refine gx_put rfl g101 rfl rfl (ai_in_h (by first | decide | omega) (by first | decide | omega) (by first | decide | omega)) rfl (fun t103 g103 k103 e103 => ?_)
  have k4 : ai_hv t103 383 3 = some (.inl m) := (e103 383 3 (by first | decide | omega)).trans k101
  refine ex_go (S := (14, [(0, gx_r 383)], [.inl 0], t103, n, 0)) rfl (fun _ => rfl) rfl ?_
  refine ex_go (S := (15, [(1, .inl 0), (0, gx_r 383)], [], t103, n, 0)) rfl (fun _ => rfl) rfl ?_
  refine ex_go (S := (16, [(1, .inl 0), (0, gx_r 383)], [.inl 0], t103, n, 0)) rfl (fun _ => rfl) rfl ?_
  refine ex_go (S := (17, [(2, .inl 0), (1, .inl 0), (0, gx_r 383)], [], t103, n, 0)) rfl (fun _ => rfl) rfl ?_
  exact cx_out d n (tb := t0) hm hS m 0 0 _ _ (by first | decide | omega) (by first | decide | omega) (by first | decide | omega) g103 k4 k103 (fun c i h => (e103 c i (by first | decide | omega)).trans (e101 c i (by first | decide | omega))) rfl (fun j hj => absurd hj (Nat.not_lt_zero _)) rfl rfl rfl
theorem pe_pack (d n : Nat) {t0 : en_H} {S : Nat → Nat} {m : Nat} (g0 : ai_HG ah_G t0) (hm : m ≤ 1000) (km : ai_hv t0 383 2 = some (.inl m)) (hS : ∀ i, i < m → ai_hv t0 384 i = some (.inl (S i)) ∧ S i ≤ 127) (hW : ∀ w, w < 42 → ai_hv t0 388 w = some (.inr (.inl (wd_37 w)))) : ∃ r, en_u (d + 35) 33 [gx_r 383] t0 n = some r ∧ ∃ v t', r = (some (.inl v), t', n, 0) ∧ ∃ N, (∀ j, j < N → sp_st S m j < m) ∧ sp_st S m N = m ∧ Pk S m N 1001 (sg_0 S m) (sl_0 S m N) v ∧ (v = 0 → ∃ υ, Pt S m N 1001 (sg_0 S m) (sl_0 S m N) υ ∧ W3 S m N υ ∧ RT t' S m υ ∧ SBg t' ∧ RTL t' S m N υ) := by
  obtain ⟨a, ka, -, ha⟩ := gx_in (c := 383) (i := 7) (lo := 0) (hi := 1000) g0 rfl rfl rfl rfl
  obtain ⟨f, kf, -, hf⟩ := gx_in (c := 383) (i := 8) (lo := 0) (hi := 20000) g0 rfl rfl rfl rfl
  have s0 : px_S t0 a f := ⟨g0, ka, kf, ha, hf⟩
  refine en_u_ex (d := d + 34) rfl ?_
  show en_ex _ _ _ _ (0, [(0, gx_r 383)], [], t0, n, 0) _
  refine ex_go (S := (1, [(0, gx_r 383)], [gx_r 383], t0, n, 0)) rfl (fun _ => rfl) rfl ?_
  refine ex_go (S := (2, [(0, gx_r 383)], [.inl 0, gx_r 383], t0, n, 0)) rfl (fun _ => rfl) rfl ?_
  refine gx_put rfl s0.1 rfl rfl (ai_in_h (by first | decide | omega) (by first | decide | omega) (by first | decide | omega)) rfl (fun t101 g101 k101 e101 => ?_)
  have k2 : ai_hv t101 383 2 = some (.inl m) := (e101 383 2 (by first | decide | omega)).trans km
  have s101 : px_S t101 a f := ⟨g101, (e101 383 7 (by first | decide | omega)).trans s0.2.1, (e101 383 8 (by first | decide | omega)).trans s0.2.2.1, s0.2.2.2⟩
  refine ex_go (S := (6, [(0, gx_r 383)], [gx_r 383], t101, n, 0)) rfl (fun _ => rfl) rfl ?_
  obtain ⟨_, r103, t103, rfl, s103, k103, e103, N, hNm, hR1, hR2, hR3, hR4⟩ := pe_cutAll (d + 31) n (m := m) s101.1 hm k2 (fun i hi => ⟨(e101 384 i (by first | decide | omega)).trans (hS i hi).1, Nat.le_trans (hS i hi).2 (by decide)⟩)
  refine gx_call0 rfl rfl s101.1 rfl rfl r103 rfl ?_
  have hT : rT t103 S m N := ⟨hR1, hR2, hR3, hR4, ⟨hNm, hm⟩, fun w hw => (e103 388 w (by first | decide | omega)).trans ((e101 388 w (by first | decide | omega)).trans (hW w hw)), fun i hi => (hS i hi).2⟩
  have b103 := s103.2.2.2
  refine ex_go (S := (10, [(0, gx_r 383)], [gx_r 383], t103, n, 0)) rfl (fun _ => rfl) rfl ?_
  refine ex_go (S := (11, [(0, gx_r 383)], [.inl 0, gx_r 383], t103, n, 0)) rfl (fun _ => rfl) rfl ?_
  refine gx_put rfl s103.1 rfl rfl (ai_in_h (by first | decide | omega) (by first | decide | omega) (by first | decide | omega)) rfl (fun t104 g104 k104 e104 => ?_)
  have k5 : ai_hv t104 383 2 = some (.inl 0) := (e104 383 2 (by first | decide | omega)).trans k103
  have s104 : px_S t104 0 0 := ⟨g104, (e104 383 7 (by first | decide | omega)).trans s103.2.1, (e104 383 8 (by first | decide | omega)).trans s103.2.2.1, s103.2.2.2⟩
  refine ex_go (S := (15, [(0, gx_r 383)], [gx_r 383], t104, n, 0)) rfl (fun _ => rfl) rfl ?_
  refine ex_go (S := (16, [(0, gx_r 383)], [.inl 0, gx_r 383], t104, n, 0)) rfl (fun _ => rfl) rfl ?_
  refine gx_put rfl s104.1 rfl rfl (ai_in_h (by first | decide | omega) (by first | decide | omega) (by first | decide | omega)) rfl (fun t106 g106 k106 e106 => ?_)
  have k7 : ai_hv t106 383 2 = some (.inl 0) := (e106 383 2 (by first | decide | omega)).trans k5
  have k8 : ai_hv t106 383 13 = some (.inl 0) := (e106 383 13 (by first | decide | omega)).trans k104
  have s106 : px_S t106 0 0 := ⟨g106, (e106 383 7 (by first | decide | omega)).trans s104.2.1, (e106 383 8 (by first | decide | omega)).trans s104.2.2.1, s104.2.2.2⟩
  refine ex_go (S := (20, [(0, gx_r 383)], [gx_r 383], t106, n, 0)) rfl (fun _ => rfl) rfl ?_
  refine ex_go (S := (21, [(0, gx_r 383)], [.inl 0, gx_r 383], t106, n, 0)) rfl (fun _ => rfl) rfl ?_
  refine gx_put rfl s106.1 rfl rfl (ai_in_h (by first | decide | omega) (by first | decide | omega) (by first | decide | omega)) rfl (fun t109 g109 k109 e109 => ?_)
  have k10 : ai_hv t109 383 2 = some (.inl 0) := (e109 383 2 (by first | decide | omega)).trans k7
  have k11 : ai_hv t109 383 13 = some (.inl 0) := (e109 383 13 (by first | decide | omega)).trans k8
  have k12 : ai_hv t109 383 19 = some (.inl 0) := (e109 383 19 (by first | decide | omega)).trans k106
  have s109 : px_S t109 0 0 := ⟨g109, (e109 383 7 (by first | decide | omega)).trans s106.2.1, (e109 383 8 (by first | decide | omega)).trans s106.2.2.1, s106.2.2.2⟩
  refine ex_go (S := (25, [(0, gx_r 383)], [gx_r 383], t109, n, 0)) rfl (fun _ => rfl) rfl ?_
  refine ex_go (S := (28, [(0, gx_r 383)], [.inl 160, gx_r 383], t109, n, 0)) rfl (fun _ => rfl) rfl ?_
  obtain ⟨_, r113, t113, rfl, g113, e113, z113, k113, zl113, z4⟩ := pe_stands (d + 33) n s109.1
  refine gx_call0 rfl rfl s109.1 rfl rfl r113 rfl ?_
  have k14 : ai_hv t113 383 2 = some (.inl 0) := (e113 383 2 (by first | decide | omega)).trans k10
  have k15 : ai_hv t113 383 13 = some (.inl 0) := (e113 383 13 (by first | decide | omega)).trans k11
  have k16 : ai_hv t113 383 19 = some (.inl 0) := (e113 383 19 (by first | decide | omega)).trans k12
  have k17 : ai_hv t113 383 20 = some (.inl 0) := (e113 383 20 (by first | decide | omega)).trans k109
  have s113 : px_S t113 0 0 := ⟨g113, (e113 383 7 (by first | decide | omega)).trans s109.2.1, (e113 383 8 (by first | decide | omega)).trans s109.2.2.1, s109.2.2.2⟩
  have hE1 : px_E1 t113 := fun k hk => Or.inl ⟨0, z113 163 (by first | decide | omega) (by first | decide | omega) (by first | decide | omega), Nat.le_refl _, Nat.zero_le _⟩
  have hE4 : px_E4 t113 0 := fun l hl => Or.inl (zl113 l hl)
  refine ex_go (S := (32, [(0, gx_r 383)], [gx_r 383], t113, n, 0)) rfl (fun _ => rfl) rfl ?_
  refine ex_go (S := (33, [(0, gx_r 383)], [.inl 0, gx_r 383], t113, n, 0)) rfl (fun _ => rfl) rfl ?_
  have hT19 := rT_keep (t' := t113) hT (fun c i h => (e113 c i (by first | decide | omega)).trans ((e109 c i (by first | decide | omega)).trans ((e106 c i (by first | decide | omega)).trans (e104 c i (by first | decide | omega)))))
  obtain ⟨_, r118, t118, a118, f118, rfl, s118, e118, z118, q118⟩ := pf_takeWord (d + 31) n (s113) hT19 (by first | decide | omega) (w := 0) (by first | decide | omega)
  have b118 := s118.2.2.2
  have y118 := z118.trans (congrArg (fw S m N 0) (rfl : ((0 : Nat), (0 : Nat)) = (0, 0)))
  refine gx_call0 rfl rfl s113.1 rfl rfl r118 rfl ?_
  have k20 : ai_hv t118 383 2 = some (.inl 0) := (e118 383 2 (by first | decide | omega)).trans k14
  have k21 : ai_hv t118 383 13 = some (.inl 0) := (e118 383 13 (by first | decide | omega)).trans k15
  have k22 : ai_hv t118 383 19 = some (.inl 0) := (e118 383 19 (by first | decide | omega)).trans k16
  have k23 : ai_hv t118 383 20 = some (.inl 0) := (e118 383 20 (by first | decide | omega)).trans k17
  have k24 : ai_hv t118 389 162 = some (.inl 0) := (e118 389 162 (by first | decide | omega)).trans (z113 162 (by first | decide | omega) (by first | decide | omega) (by first | decide | omega))
  have k25 : ai_hv t118 389 163 = some (.inl 0) := (e118 389 163 (by first | decide | omega)).trans (z113 163 (by first | decide | omega) (by first | decide | omega) (by first | decide | omega))
  have k26 : ai_hv t118 389 164 = some (.inl 0) := (e118 389 164 (by first | decide | omega)).trans (z113 164 (by first | decide | omega) (by first | decide | omega) (by first | decide | omega))
  have k27 : ai_hv t118 389 166 = some (.inl 0) := (e118 389 166 (by first | decide | omega)).trans (z113 166 (by first | decide | omega) (by first | decide | omega) (by first | decide | omega))
  have k28 : ai_hv t118 389 167 = some (.inl 0) := (e118 389 167 (by first | decide | omega)).trans (z113 167 (by first | decide | omega) (by first | decide | omega) (by first | decide | omega))
  have k29 : ai_hv t118 389 168 = some (.inl 0) := (e118 389 168 (by first | decide | omega)).trans (z113 168 (by first | decide | omega) (by first | decide | omega) (by first | decide | omega))
  have k30 : ai_hv t118 389 165 = some (.inl 2) := (e118 389 165 (by first | decide | omega)).trans k113
  refine ex_go (S := (37, [(0, gx_r 383)], [gx_r 383], t118, n, 0)) rfl (fun _ => rfl) rfl ?_
  refine gx_ref (c := 389) rfl s118.1 rfl rfl rfl rfl ?_
  refine ex_go (S := (43, [(0, gx_r 383)], [.inl 160, gx_r 389], t118, n, 0)) rfl (fun _ => rfl) rfl ?_
  refine ex_go (S := (44, [(0, gx_r 383)], [gx_r 383, .inl 160, gx_r 389], t118, n, 0)) rfl (fun _ => rfl) rfl ?_
  refine ex_go (S := (45, [(0, gx_r 383)], [.inl 2, gx_r 383, .inl 160, gx_r 389], t118, n, 0)) rfl (fun _ => rfl) rfl ?_
  refine ex_go (S := (47, [(0, gx_r 383)], [.inl 8, .inl 2, gx_r 383, .inl 160, gx_r 389], t118, n, 0)) rfl (fun _ => rfl) rfl ?_
  have hT32 := rT_keep (t' := t118) hT (fun c i h => (e118 c i (by first | decide | omega)).trans ((e113 c i (by first | decide | omega)).trans ((e109 c i (by first | decide | omega)).trans ((e106 c i (by first | decide | omega)).trans (e104 c i (by first | decide | omega))))))
  obtain ⟨_, r131, v131, t131, a131, f131, rfl, s131, e131, z131, q131⟩ := pf_takeNumber (d + 32) n (s118) hT32 (by first | decide | omega) (lo := 2) (hi := 8) (by first | decide | omega) (by first | decide | omega)
  have b131 := s131.2.2.2
  have y131 := z131.trans (congrArg (fn S m N 2 8) y118)
  refine gx_call1 rfl rfl s118.1 rfl rfl r131 rfl ?_
  have k33 : ai_hv t131 383 2 = some (.inl 0) := (e131 383 2 (by first | decide | omega)).trans k20
  have k34 : ai_hv t131 383 13 = some (.inl 0) := (e131 383 13 (by first | decide | omega)).trans k21
  have k35 : ai_hv t131 383 19 = some (.inl 0) := (e131 383 19 (by first | decide | omega)).trans k22
  have k36 : ai_hv t131 383 20 = some (.inl 0) := (e131 383 20 (by first | decide | omega)).trans k23
  have k37 : ai_hv t131 389 162 = some (.inl 0) := (e131 389 162 (by first | decide | omega)).trans k24
  have k38 : ai_hv t131 389 163 = some (.inl 0) := (e131 389 163 (by first | decide | omega)).trans k25
  have k39 : ai_hv t131 389 164 = some (.inl 0) := (e131 389 164 (by first | decide | omega)).trans k26
  have k40 : ai_hv t131 389 166 = some (.inl 0) := (e131 389 166 (by first | decide | omega)).trans k27
  have k41 : ai_hv t131 389 167 = some (.inl 0) := (e131 389 167 (by first | decide | omega)).trans k28
  have k42 : ai_hv t131 389 168 = some (.inl 0) := (e131 389 168 (by first | decide | omega)).trans k29
  have k43 : ai_hv t131 389 165 = some (.inl 2) := (e131 389 165 (by first | decide | omega)).trans k30
  refine gx_ap rfl (fun _ => rfl) s131.1 rfl rfl rfl (show 160 < 320 from by omega) rfl (ai_in_h (by first | decide | omega) (by first | decide | omega) (by first | decide | omega)) rfl (fun t144 g144 k144 e144 => ?_)
  have k45 : ai_hv t144 383 2 = some (.inl 0) := (e144 383 2 (by first | decide | omega)).trans k33
  have k46 : ai_hv t144 383 13 = some (.inl 0) := (e144 383 13 (by first | decide | omega)).trans k34
  have k47 : ai_hv t144 383 19 = some (.inl 0) := (e144 383 19 (by first | decide | omega)).trans k35
  have k48 : ai_hv t144 383 20 = some (.inl 0) := (e144 383 20 (by first | decide | omega)).trans k36
  have k49 : ai_hv t144 389 162 = some (.inl 0) := (e144 389 162 (by first | decide | omega)).trans k37
  have k50 : ai_hv t144 389 163 = some (.inl 0) := (e144 389 163 (by first | decide | omega)).trans k38
  have k51 : ai_hv t144 389 164 = some (.inl 0) := (e144 389 164 (by first | decide | omega)).trans k39
  have k52 : ai_hv t144 389 166 = some (.inl 0) := (e144 389 166 (by first | decide | omega)).trans k40
  have k53 : ai_hv t144 389 167 = some (.inl 0) := (e144 389 167 (by first | decide | omega)).trans k41
  have k54 : ai_hv t144 389 168 = some (.inl 0) := (e144 389 168 (by first | decide | omega)).trans k42
  have k55 : ai_hv t144 389 165 = some (.inl 2) := (e144 389 165 (by first | decide | omega)).trans k43
  have s144 : px_S t144 a131 f131 := ⟨g144, (e144 383 7 (by first | decide | omega)).trans s131.2.1, (e144 383 8 (by first | decide | omega)).trans s131.2.2.1, s131.2.2.2⟩
  refine ex_go (S := (52, [(0, gx_r 383)], [gx_r 383], t144, n, 0)) rfl (fun _ => rfl) rfl ?_
  refine gx_ref (c := 389) rfl s144.1 rfl rfl rfl rfl ?_
  refine ex_go (S := (58, [(0, gx_r 383)], [.inl 161, gx_r 389], t144, n, 0)) rfl (fun _ => rfl) rfl ?_
  refine ex_go (S := (59, [(0, gx_r 383)], [gx_r 383, .inl 161, gx_r 389], t144, n, 0)) rfl (fun _ => rfl) rfl ?_
  refine ex_go (S := (60, [(0, gx_r 383)], [.inl 2, gx_r 383, .inl 161, gx_r 389], t144, n, 0)) rfl (fun _ => rfl) rfl ?_
  refine ex_go (S := (62, [(0, gx_r 383)], [.inl 8, .inl 2, gx_r 383, .inl 161, gx_r 389], t144, n, 0)) rfl (fun _ => rfl) rfl ?_
  have hT57 := rT_keep (t' := t144) hT (fun c i h => (e144 c i (by first | decide | omega)).trans ((e131 c i (by first | decide | omega)).trans ((e118 c i (by first | decide | omega)).trans ((e113 c i (by first | decide | omega)).trans ((e109 c i (by first | decide | omega)).trans ((e106 c i (by first | decide | omega)).trans (e104 c i (by first | decide | omega))))))))
  obtain ⟨_, r156, v156, t156, a156, f156, rfl, s156, e156, z156, q156⟩ := pf_takeNumber (d + 32) n (s144) hT57 (by first | decide | omega) (lo := 2) (hi := 8) (by first | decide | omega) (by first | decide | omega)
  have b156 := s156.2.2.2
  have y156 := z156.trans (congrArg (fn S m N 2 8) y131)
  refine gx_call1 rfl rfl s144.1 rfl rfl r156 rfl ?_
  have k58 : ai_hv t156 383 2 = some (.inl 0) := (e156 383 2 (by first | decide | omega)).trans k45
  have k59 : ai_hv t156 383 13 = some (.inl 0) := (e156 383 13 (by first | decide | omega)).trans k46
  have k60 : ai_hv t156 383 19 = some (.inl 0) := (e156 383 19 (by first | decide | omega)).trans k47
  have k61 : ai_hv t156 383 20 = some (.inl 0) := (e156 383 20 (by first | decide | omega)).trans k48
  have k62 : ai_hv t156 389 162 = some (.inl 0) := (e156 389 162 (by first | decide | omega)).trans k49
  have k63 : ai_hv t156 389 163 = some (.inl 0) := (e156 389 163 (by first | decide | omega)).trans k50
  have k64 : ai_hv t156 389 164 = some (.inl 0) := (e156 389 164 (by first | decide | omega)).trans k51
  have k65 : ai_hv t156 389 166 = some (.inl 0) := (e156 389 166 (by first | decide | omega)).trans k52
  have k66 : ai_hv t156 389 167 = some (.inl 0) := (e156 389 167 (by first | decide | omega)).trans k53
  have k67 : ai_hv t156 389 168 = some (.inl 0) := (e156 389 168 (by first | decide | omega)).trans k54
  have k68 : ai_hv t156 389 165 = some (.inl 2) := (e156 389 165 (by first | decide | omega)).trans k55
  have k69 : ai_hv t156 389 160 = some (.inl v131) := (e156 389 160 (by first | decide | omega)).trans k144
  refine gx_ap rfl (fun _ => rfl) s156.1 rfl rfl rfl (show 161 < 320 from by omega) rfl (ai_in_h (by first | decide | omega) (by first | decide | omega) (by first | decide | omega)) rfl (fun t170 g170 k170 e170 => ?_)
  have k71 : ai_hv t170 383 2 = some (.inl 0) := (e170 383 2 (by first | decide | omega)).trans k58
  have k72 : ai_hv t170 383 13 = some (.inl 0) := (e170 383 13 (by first | decide | omega)).trans k59
  have k73 : ai_hv t170 383 19 = some (.inl 0) := (e170 383 19 (by first | decide | omega)).trans k60
  have k74 : ai_hv t170 383 20 = some (.inl 0) := (e170 383 20 (by first | decide | omega)).trans k61
  have k75 : ai_hv t170 389 162 = some (.inl 0) := (e170 389 162 (by first | decide | omega)).trans k62
  have k76 : ai_hv t170 389 163 = some (.inl 0) := (e170 389 163 (by first | decide | omega)).trans k63
  have k77 : ai_hv t170 389 164 = some (.inl 0) := (e170 389 164 (by first | decide | omega)).trans k64
  have k78 : ai_hv t170 389 166 = some (.inl 0) := (e170 389 166 (by first | decide | omega)).trans k65
  have k79 : ai_hv t170 389 167 = some (.inl 0) := (e170 389 167 (by first | decide | omega)).trans k66
  have k80 : ai_hv t170 389 168 = some (.inl 0) := (e170 389 168 (by first | decide | omega)).trans k67
  have k81 : ai_hv t170 389 165 = some (.inl 2) := (e170 389 165 (by first | decide | omega)).trans k68
  have k82 : ai_hv t170 389 160 = some (.inl v131) := (e170 389 160 (by first | decide | omega)).trans k69
  have s170 : px_S t170 a156 f156 := ⟨g170, (e170 383 7 (by first | decide | omega)).trans s156.2.1, (e170 383 8 (by first | decide | omega)).trans s156.2.2.1, s156.2.2.2⟩
  refine ex_go (S := (67, [(0, gx_r 383)], [gx_r 383], t170, n, 0)) rfl (fun _ => rfl) rfl ?_
  refine ex_go (S := (69, [(0, gx_r 383)], [.inl 59, gx_r 383], t170, n, 0)) rfl (fun _ => rfl) rfl ?_
  have hT84 := rT_keep (t' := t170) hT (fun c i h => (e170 c i (by first | decide | omega)).trans ((e156 c i (by first | decide | omega)).trans ((e144 c i (by first | decide | omega)).trans ((e131 c i (by first | decide | omega)).trans ((e118 c i (by first | decide | omega)).trans ((e113 c i (by first | decide | omega)).trans ((e109 c i (by first | decide | omega)).trans ((e106 c i (by first | decide | omega)).trans (e104 c i (by first | decide | omega))))))))))
  obtain ⟨_, r183, t183, a183, f183, rfl, s183, e183, z183, q183⟩ := pf_takeSign (d + 32) n (s170) hT84 (by first | decide | omega) (w := 59) (by first | decide | omega)
  have b183 := s183.2.2.2
  have y183 := z183.trans (congrArg (fs S m N 59) y156)
  refine gx_call0 rfl rfl s170.1 rfl rfl r183 rfl ?_
  have k85 : ai_hv t183 383 2 = some (.inl 0) := (e183 383 2 (by first | decide | omega)).trans k71
  have k86 : ai_hv t183 383 13 = some (.inl 0) := (e183 383 13 (by first | decide | omega)).trans k72
  have k87 : ai_hv t183 383 19 = some (.inl 0) := (e183 383 19 (by first | decide | omega)).trans k73
  have k88 : ai_hv t183 383 20 = some (.inl 0) := (e183 383 20 (by first | decide | omega)).trans k74
  have k89 : ai_hv t183 389 162 = some (.inl 0) := (e183 389 162 (by first | decide | omega)).trans k75
  have k90 : ai_hv t183 389 163 = some (.inl 0) := (e183 389 163 (by first | decide | omega)).trans k76
  have k91 : ai_hv t183 389 164 = some (.inl 0) := (e183 389 164 (by first | decide | omega)).trans k77
  have k92 : ai_hv t183 389 166 = some (.inl 0) := (e183 389 166 (by first | decide | omega)).trans k78
  have k93 : ai_hv t183 389 167 = some (.inl 0) := (e183 389 167 (by first | decide | omega)).trans k79
  have k94 : ai_hv t183 389 168 = some (.inl 0) := (e183 389 168 (by first | decide | omega)).trans k80
  have k95 : ai_hv t183 389 165 = some (.inl 2) := (e183 389 165 (by first | decide | omega)).trans k81
  have k96 : ai_hv t183 389 160 = some (.inl v131) := (e183 389 160 (by first | decide | omega)).trans k82
  have k97 : ai_hv t183 389 161 = some (.inl v156) := (e183 389 161 (by first | decide | omega)).trans k170
  have hv1 : f183 = 0 → v131 = sp_nv S m 1 ∧ 2 ≤ v131 ∧ v131 ≤ 8 := fun z => by
    have h9 : a118 = 1 := by omega
    rw [← h9]; omega
  have hv2 : f183 = 0 → v156 = sp_nv S m 2 ∧ 2 ≤ v156 ∧ v156 ≤ 8 := fun z => by
    have h9 : a131 = 2 := by omega
    rw [← h9]; omega
  have hT98 := rT_keep (t' := t183) hT (fun c i h => (e183 c i (by first | decide | omega)).trans ((e170 c i (by first | decide | omega)).trans ((e156 c i (by first | decide | omega)).trans ((e144 c i (by first | decide | omega)).trans ((e131 c i (by first | decide | omega)).trans ((e118 c i (by first | decide | omega)).trans ((e113 c i (by first | decide | omega)).trans ((e109 c i (by first | decide | omega)).trans ((e106 c i (by first | decide | omega)).trans (e104 c i (by first | decide | omega)))))))))))
  refine pe_pack_l d n (tb := t0) (K := 1001) (σ0 := sg_0 S m) (p0 := sl_0 S m N) (fun t1 a1 f1 s1 hO k1 hPk hPt => ex_imp (fun o9 h9 => ?_) (pe_104 d n s1 hO k1)) 1000 (sg_0 S m) t183 a183 f183 (by first | decide | omega) s183 hT98 (by first | decide | omega) (fun h0 => ?_) k85 (fun f1 h1 => by unfold sl_0; rw [← y183]; exact h1) (fun υ h1 => by unfold sl_0; rw [← y183]; exact h1)
  · obtain ⟨r9, h8, v9, t9, h7, h6, h5⟩ := h9
    refine ⟨r9, h8, v9, t9, h7, N, fun j hj => (hT.1 j hj).1, hT.2.1, by rw [h6]; exact hPk, fun z => ?_⟩
    obtain ⟨υ, c9, o9, x9, u1, u2, u3⟩ := hPt (by first | decide | omega)
    obtain ⟨y1, ⟨rm, y2, y3, y4⟩, y5b, cO, y6, y7, y8⟩ := h5 (by first | decide | omega)
    have y9 : cO = c9 := Sum.inl.inj (Option.some.inj (y6.symm.trans (px_O_c o9)))
    subst y9
    have y5 : rm = υ 15 0 := Sum.inl.inj (Option.some.inj (y2.symm.trans u1.1.2.2.2.2.2.2.2.2.2))
    subst y5
    exact ⟨υ, u3, u2, ⟨⟨t1, u1, y1⟩, y3, fun k hk => ⟨(y4 k hk).1.trans (u1.2.2.2.2.2.1 k hk).1, (y4 k hk).2.trans (u1.2.2.2.2.2.1 k hk).2⟩⟩, y5b, RTL_of u1.2.1 x9 y7 y1 y8⟩
  · refine ⟨⟨0, ⟨0, 0, 0, 0, 0, v131, v156, 2, k87, k89, k92, k93, k94, k96, k97, k95, k86, by omega, ?_, ?_⟩, by omega, fun l hl h9 => absurd (show (0 : Nat) = 1 from h9) (by decide)⟩, ⟨⟨?_, ?_, k89, k90, k91, k92, k93, k94, k88, k87⟩, fun l hl => Or.inl ⟨rfl, ((e183 389 (169 + l) (by first | decide | omega)).trans ((e170 389 (169 + l) (by first | decide | omega)).trans ((e156 389 (169 + l) (by first | decide | omega)).trans ((e144 389 (169 + l) (by first | decide | omega)).trans ((e131 389 (169 + l) (by first | decide | omega)).trans (e118 389 (169 + l) (by first | decide | omega))))))).trans (zl113 l hl)⟩, fun i hi => absurd hi (Nat.not_lt_zero i), fun i hi => absurd hi (Nat.not_lt_zero i), fun i hi => absurd hi (Nat.not_lt_zero i), (fun k hk => absurd hk (Nat.not_lt_zero k)), (fun i hi => absurd hi (Nat.not_lt_zero i)), (fun i hi => absurd hi (Nat.not_lt_zero i)), (fun i hi => absurd hi (Nat.not_lt_zero i)), (fun i hi => absurd hi (Nat.not_lt_zero i)), (fun i hi => absurd hi (Nat.not_lt_zero i)), (fun i hi => absurd hi (Nat.not_lt_zero i)), (fun i hi => absurd hi (Nat.not_lt_zero i)), (fun i hi => absurd hi (Nat.not_lt_zero i)), (fun i hi => absurd hi (Nat.not_lt_zero i)), (fun i hi => absurd hi (Nat.not_lt_zero i)), (fun i hi => absurd hi (Nat.not_lt_zero i)), (fun i hi => absurd hi (Nat.not_lt_zero i)), k95, (fun i hi => by rw [Nat.one_mul]; exact ((e183 389 (172 + i) (by first | decide | omega)).trans ((e170 389 (172 + i) (by first | decide | omega)).trans ((e156 389 (172 + i) (by first | decide | omega)).trans ((e144 389 (172 + i) (by first | decide | omega)).trans ((e131 389 (172 + i) (by first | decide | omega)).trans (e118 389 (172 + i) (by first | decide | omega))))))).trans (z4 i hi))⟩, W3_0 (by have := hv1 h0; omega) (by have := hv2 h0; omega)⟩
    · exact px_E1_kept hE1 ((e183 389 163 (by first | decide | omega)).trans ((e170 389 163 (by first | decide | omega)).trans ((e156 389 163 (by first | decide | omega)).trans ((e144 389 163 (by first | decide | omega)).trans ((e131 389 163 (by first | decide | omega)).trans (e118 389 163 (by first | decide | omega))))))) (fun k hk => (e183 389 (255 + 4 * k) (by first | decide | omega)).trans ((e170 389 (255 + 4 * k) (by first | decide | omega)).trans ((e156 389 (255 + 4 * k) (by first | decide | omega)).trans ((e144 389 (255 + 4 * k) (by first | decide | omega)).trans ((e131 389 (255 + 4 * k) (by first | decide | omega)).trans (e118 389 (255 + 4 * k) (by first | decide | omega)))))))
    · exact px_E4_kept hE4 (Nat.le_refl _) (fun l hl => (e183 389 (169 + l) (by first | decide | omega)).trans ((e170 389 (169 + l) (by first | decide | omega)).trans ((e156 389 (169 + l) (by first | decide | omega)).trans ((e144 389 (169 + l) (by first | decide | omega)).trans ((e131 389 (169 + l) (by first | decide | omega)).trans (e118 389 (169 + l) (by first | decide | omega))))))) (fun i hi => (e183 390 (1100 + i) (by first | decide | omega)).trans ((e170 390 (1100 + i) (by first | decide | omega)).trans ((e156 390 (1100 + i) (by first | decide | omega)).trans ((e144 390 (1100 + i) (by first | decide | omega)).trans ((e131 390 (1100 + i) (by first | decide | omega)).trans (e118 390 (1100 + i) (by first | decide | omega))))))) (fun i hi => (e183 391 (1100 + i) (by first | decide | omega)).trans ((e170 391 (1100 + i) (by first | decide | omega)).trans ((e156 391 (1100 + i) (by first | decide | omega)).trans ((e144 391 (1100 + i) (by first | decide | omega)).trans ((e131 391 (1100 + i) (by first | decide | omega)).trans (e118 391 (1100 + i) (by first | decide | omega)))))))
    · show _ = some (Sum.inl (sp_nv S m 1))
      rw [← (hv1 h0).1]; exact k96
    · show _ = some (Sum.inl (sp_nv S m 2))
      rw [← (hv2 h0).1]; exact k97
end SPR
