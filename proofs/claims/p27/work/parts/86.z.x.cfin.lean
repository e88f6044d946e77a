section SPY
theorem CA_keep2 {t t' : en_H} {p : Nat} {S : Nat → Nat} {m : Nat} {σ : Nat → Nat → Nat} (hp : 8 ≤ p) (h : CA t p S m σ) (e : ∀ c i, (c = 7 ∧ 4 ≤ i) ∨ c = p ∧ i ≤ 2 ∨ c = p + 1 ∨ (p + 3 ≤ c ∧ c ≤ p + 38) → ai_hv t' c i = ai_hv t c i) : CA t' p S m σ := by
  obtain ⟨⟨k0, k1, k2, k3, k4, k5, k6, k7, k8, k9, k10, k11⟩, h1, h2, h3, h4, h5, h6, gcb0, gcb1, gcb2, gcb3, gcb4, gcb5, gcb6, gcb7, gcb8, gcb9, gcb10, gcb11, gcb12, gcb13⟩ := h
  exact ⟨⟨(e _ _ (by first | decide | omega)).trans k0, (e _ _ (by first | decide | omega)).trans k1, (e _ _ (by first | decide | omega)).trans k2, (e _ _ (by first | decide | omega)).trans k3, (e _ _ (by first | decide | omega)).trans k4, (e _ _ (by first | decide | omega)).trans k5, (e _ _ (by first | decide | omega)).trans k6, (e _ _ (by first | decide | omega)).trans k7, (e _ _ (by first | decide | omega)).trans k8, (e _ _ (by first | decide | omega)).trans k9, (e _ _ (by first | decide | omega)).trans k10, (e _ _ (by first | decide | omega)).trans k11⟩, fun i hi => ⟨(e _ _ (by first | decide | omega)).trans (h1 i hi).1, (e _ _ (by first | decide | omega)).trans (h1 i hi).2⟩, fun i hi => (e _ _ (by first | decide | omega)).trans (h2 i hi), fun i hi => (e _ _ (by first | decide | omega)).trans (h3 i hi), fun i hi => (e _ _ (by first | decide | omega)).trans (h4 i hi), fun i hi => (e _ _ (by first | decide | omega)).trans (h5 i hi), fun i hi => (e _ _ (by first | decide | omega)).trans (h6 i hi), fun i hi => (e _ _ (by first | decide | omega)).trans (gcb0 i hi), fun i hi => (e _ _ (by first | decide | omega)).trans (gcb1 i hi), fun i hi => (e _ _ (by first | decide | omega)).trans (gcb2 i hi), fun i hi => (e _ _ (by first | decide | omega)).trans (gcb3 i hi), fun i hi => (e _ _ (by first | decide | omega)).trans (gcb4 i hi), fun i hi => (e _ _ (by first | decide | omega)).trans (gcb5 i hi), fun i hi => (e _ _ (by first | decide | omega)).trans (gcb6 i hi), fun i hi => (e _ _ (by first | decide | omega)).trans (gcb7 i hi), fun i hi => (e _ _ (by first | decide | omega)).trans (gcb8 i hi), fun i hi => (e _ _ (by first | decide | omega)).trans (gcb9 i hi), fun i hi => (e _ _ (by first | decide | omega)).trans (gcb10 i hi), fun i hi => (e _ _ (by first | decide | omega)).trans (gcb11 i hi), (e _ _ (by first | decide | omega)).trans gcb12, fun i hi => (e _ _ (by first | decide | omega)).trans (gcb13 i hi)⟩
theorem inw_rng {wr : ai_W} {lo hi c i : Nat} (h : wr.all (fun q => Nat.ble lo q.1 && Nat.ble q.1 hi) = true) (h1 : ai_inw wr c i) : lo ≤ c ∧ c ≤ hi := by
  obtain ⟨q, hq, e, -⟩ := h1
  have h2 := List.all_eq_true.mp h q hq
  rw [Bool.and_eq_true] at h2
  rw [← e]
  exact ⟨Nat.le_of_ble_eq_true h2.1, Nat.le_of_ble_eq_true h2.2⟩
theorem rh_pt {x : Nat} {v : en_V} (hx : x < 2147483648) (h : ai_rh (.inl (2147483648 + x, 2147483648 + x)) v) : v = .inl x := by
  obtain ⟨m, e, h1, h2, h3⟩ := h
  rw [e]
  unfold ai_off at h2 h3
  dsimp only at h2 h3
  have : m = x := by omega
  rw [this]
theorem ai_HO_2 {t : en_H} {p : Nat} {a b : ai_h} {x y : Nat} {v w : en_V} (h1 : ai_hv t p x = some v) (r1 : ai_rh a v) (h2 : ai_hv t p y = some w) (r2 : ai_rh b w) : ai_HO [(p, x, a), (p, y, b)] t := by
  intro q hq
  rcases List.mem_cons.mp hq with rfl | hq
  · exact ⟨v, h1, r1⟩
  · rcases List.mem_cons.mp hq with rfl | hq
    · exact ⟨w, h2, r2⟩
    · exact absurd hq List.not_mem_nil
theorem ai_HO_ap {t : en_H} {a b : ai_O} (h1 : ai_HO a t) (h2 : ai_HO b t) : ai_HO (a ++ b) t := fun q hq => (List.mem_append.mp hq).elim (h1 q) (h2 q)
noncomputable def c28 (t : en_H) (p : Nat) : Prop := ai_HO [(p, 0, .inl (2147483650, 2147483656)), (p, 1, .inl (2147483650, 2147483656))] t
theorem c28_keep {t t' : en_H} {p : Nat} (h : c28 t p) (e : ∀ i, ai_hv t' p i = ai_hv t p i) : c28 t' p := fun q hq => by
  obtain ⟨v, h1, h2⟩ := h q hq
  refine ⟨v, ?_, h2⟩
  rcases List.mem_cons.mp hq with rfl | hq
  · exact (e _).trans h1
  · rcases List.mem_cons.mp hq with rfl | hq
    · exact (e _).trans h1
    · exact absurd hq List.not_mem_nil
theorem pc_pack191_l (d n : Nat) {tb : en_H} {S : Nat → Nat} {m N K : Nat} {σ0 : Nat → Nat → Nat} {p0 : Nat × Nat} {Q : en_O → Prop} (hQ : ∀ k t1 a1 f1, cS t1 a1 f1 → cT t1 S m N → ai_hv t1 7 1 = some (gx_r 191) → cV 191 tb t1 → (f1 = 0 → ∃ σ, CA t1 191 S m σ ∧ W3 S m N σ ∧ Pt S m N K σ0 p0 σ ∧ CLw t1 191 S m N σ) → Pk S m N K σ0 p0 f1 → en_ex none (en_u (d + 40)) (en_code 92) (fun _ => false) (128, [(2, .inl k), (0, gx_r 7), (1, gx_r 191)], [], t1, n, 0) Q) : ∀ j i σ t0 a f, i + j = 1000 → (f = 0 → i ≤ a) → cS t0 a f → cT t0 S m N → a ≤ N → ai_hv t0 7 1 = some (gx_r 191) → cV 191 tb t0 → (f = 0 → CA t0 191 S m σ ∧ W3 S m N σ ∧ CLw t0 191 S m N σ) → (∀ f1, Pk S m N (j + 1) σ (a, f) f1 → Pk S m N K σ0 p0 f1) → (∀ υ, Pt S m N (j + 1) σ (a, f) υ → Pt S m N K σ0 p0 υ) → en_ex none (en_u (d + 40)) (en_code 92) (fun _ => false) (94, [(2, .inl i), (0, gx_r 7), (1, gx_r 191)], [], t0, n, 0) Q := by
  intro j
  induction j with
  | zero =>
    intro i σ t0 a f hi hia s0 hT ha hP w0 hO hPk hPt
    have b0 := s0.2.2.2
    have hN := hT.2.2.2.2.2.2.1
    refine ex_go (S := (95, [(2, .inl i), (0, gx_r 7), (1, gx_r 191)], [.inl i], t0, n, 0)) rfl (fun _ => rfl) rfl ?_
    refine ex_go (S := (98, [(2, .inl i), (0, gx_r 7), (1, gx_r 191)], [.inl 1000, .inl i], t0, n, 0)) rfl (fun _ => rfl) rfl ?_
    refine gx_2t (c := .ge) rfl (by first | decide | omega) (by first | decide | omega) (show 1000 ≤ i from by omega) rfl ?_
    exact hQ i t0 a f s0 hT hP w0 (fun h0 => ⟨σ, (hO h0).1, (hO h0).2.1, hPt σ (Or.inl ⟨h0, by have := hia h0; show N ≤ a; omega, rfl⟩), (hO h0).2.2⟩) (hPk f (by
      by_cases h0 : f = 0
      · exact Or.inr (Or.inl ⟨h0, by have := hia h0; show N ≤ a; omega, h0⟩)
      · exact Or.inl ⟨h0, rfl⟩))
  | succ j ih =>
    intro i σ t0 a f hi hia s0 hT ha hP w0 hO hPk hPt
    have b0 := s0.2.2.2
    have hN := hT.2.2.2.2.2.2.1
    refine ex_go (S := (95, [(2, .inl i), (0, gx_r 7), (1, gx_r 191)], [.inl i], t0, n, 0)) rfl (fun _ => rfl) rfl ?_
    refine ex_go (S := (98, [(2, .inl i), (0, gx_r 7), (1, gx_r 191)], [.inl 1000, .inl i], t0, n, 0)) rfl (fun _ => rfl) rfl ?_
    refine gx_2f (c := .ge) rfl (by first | decide | omega) (by first | decide | omega) (show ¬ (1000 ≤ i) from by omega) rfl ?_
    refine ex_go (S := (102, [(2, .inl i), (0, gx_r 7), (1, gx_r 191)], [gx_r 7], t0, n, 0)) rfl (fun _ => rfl) rfl ?_
    refine gxo_ref (a := 7) (c := 1) rfl s0.1 rfl rfl rfl rfl rfl ?_
    obtain ⟨_, r101, v101, rfl, q101⟩ := pc_goesOn (d + 39) n (s0) hT (by first | decide | omega) 
    refine gx_callo (a := 1) rfl rfl s0.1 rfl rfl rfl r101 rfl ?_
    show en_ex _ _ _ _ (108, [(2, .inl i), (0, gx_r 7), (1, gx_r 191)], [.inl v101], t0, n, 0) _
    by_cases hc2 : v101 = 0
    · refine gx_1t (c := .eq) rfl (by first | decide | omega) hc2 rfl ?_
      exact hQ i t0 a f s0 hT hP w0 (fun h0 => ⟨σ, (hO h0).1, (hO h0).2.1, hPt σ (Or.inl ⟨h0, by
        show N ≤ a
        by_cases h1 : a < N
        · exact absurd (q101.2.mpr ⟨h0, h1⟩) (by first | decide | omega)
        · omega, rfl⟩), (hO h0).2.2⟩) (hPk f (by
        by_cases h0 : f = 0
        · refine Or.inr (Or.inl ⟨h0, ?_, h0⟩)
          show N ≤ a
          by_cases h1 : a < N
          · exact absurd (q101.2.mpr ⟨h0, h1⟩) (by first | decide | omega)
          · omega
        · exact Or.inl ⟨h0, rfl⟩))
    · refine gx_1f (c := .eq) rfl (by first | decide | omega) hc2 rfl ?_
      refine ex_go (S := (112, [(2, .inl i), (0, gx_r 7), (1, gx_r 191)], [gx_r 7], t0, n, 0)) rfl (fun _ => rfl) rfl ?_
      refine ex_go (S := (113, [(2, .inl i), (0, gx_r 7), (1, gx_r 191)], [gx_r 7, gx_r 7], t0, n, 0)) rfl (fun _ => rfl) rfl ?_
      refine gxo_ref (a := 7) (c := 1) rfl s0.1 rfl rfl rfl rfl rfl ?_
      obtain ⟨hf0, haN⟩ := q101.2.mp (by first | decide | omega)
      subst hf0
      obtain ⟨_, r103, wv103, rfl, q103⟩ := pc_word (d + 39) n s0 hT (by first | decide | omega)
      rcases q103 with ⟨rfl, nw103⟩ | ⟨w103, bw103, rfl, yw103⟩
      · refine gx_callo (a := 1) rfl rfl s0.1 rfl rfl rfl r103 rfl ?_
        show en_ex _ _ _ _ (119, [(2, .inl i), (0, gx_r 7), (1, gx_r 191)], [.inr (.inr (.inl none)), gx_r 7], t0, n, 0) _
        obtain ⟨hA, h3, hC⟩ := hO rfl
        have hfl0 : σ 9 0 ≤ 1 := by
          obtain ⟨m9, k9, k8, k7⟩ := gx_in (c := 7) (i := 5) (lo := 0) (hi := 1) s0.1 rfl rfl rfl rfl
          have h9 := Sum.inl.inj (Option.some.inj ((hA.1.2.2.2.2.2.2.2.2.2.1).symm.trans k9))
          omega
        have hfl1 : σ 9 1 ≤ 1 := by
          obtain ⟨m9, k9, k8, k7⟩ := gx_in (c := 7) (i := 6) (lo := 0) (hi := 1) s0.1 rfl rfl rfl rfl
          have h9 := Sum.inl.inj (Option.some.inj ((hA.1.2.2.2.2.2.2.2.2.2.2.1).symm.trans k9))
          omega
        have hfl2 : σ 9 2 ≤ 1 := by
          obtain ⟨m9, k9, k8, k7⟩ := gx_in (c := 7) (i := 7) (lo := 0) (hi := 1) s0.1 rfl rfl rfl rfl
          have h9 := Sum.inl.inj (Option.some.inj ((hA.1.2.2.2.2.2.2.2.2.2.2.2).symm.trans k9))
          omega
        obtain ⟨_, r104, t104, a104, f104, rfl, s104, hT104, hP104, e104, ⟨q104, τ, hLn, z104, y104⟩, hN104⟩ := pc_packLine191_0 (d) n s0 hT haN hP hA h3 nw103 hC ⟨hfl0, hfl1, hfl2⟩
        have b104 := s104.2.2.2
        refine gx_callo (a := 7) rfl rfl s0.1 rfl rfl rfl r104 rfl ?_
        show en_ex _ _ _ _ (122, [(2, .inl i), (0, gx_r 7), (1, gx_r 191)], [], t104, n, 0) _
        refine gx_iinc (i := 2) (k := 1) rfl (fun _ => rfl) (by first | decide | omega) rfl ?_
        show en_ex _ _ _ _ (125, [(2, .inl (i + 1)), (0, gx_r 7), (1, gx_r 191)], [], t104, n, 0) _
        refine ex_go (S := (94, [(2, .inl (i + 1)), (0, gx_r 7), (1, gx_r 191)], [], t104, n, 0)) rfl (fun _ => rfl) rfl ?_
        exact ih (i + 1) τ t104 a104 f104 (by first | decide | omega) (fun h0 => by have := (y104 h0).1; have := hia rfl; omega) s104 hT104 hN104 hP104 (fun c i h => (e104 c i h).trans (w0 c i h)) (fun h0 => ⟨(y104 h0).2.1, W3_Ln h3 hLn (f2_no.2.2.2.2.2.2.2 59 (by rw [← z104]; exact h0)), (y104 h0).2.2⟩) (fun f1 h1 => hPk f1 (Or.inr (Or.inr ⟨rfl, haN, q104, τ, hLn, by rw [← z104]; exact h1⟩))) (fun υ h1 => hPt υ (Or.inr ⟨rfl, haN, q104, τ, hLn, by rw [← z104]; exact h1⟩))
      · refine gx_callo (a := 1) rfl rfl s0.1 rfl rfl rfl r103 rfl ?_
        show en_ex _ _ _ _ (119, [(2, .inl i), (0, gx_r 7), (1, gx_r 191)], [gx_w w103, gx_r 7], t0, n, 0) _
        obtain ⟨hA, h3, hC⟩ := hO rfl
        have hfl0 : σ 9 0 ≤ 1 := by
          obtain ⟨m9, k9, k8, k7⟩ := gx_in (c := 7) (i := 5) (lo := 0) (hi := 1) s0.1 rfl rfl rfl rfl
          have h9 := Sum.inl.inj (Option.some.inj ((hA.1.2.2.2.2.2.2.2.2.2.1).symm.trans k9))
          omega
        have hfl1 : σ 9 1 ≤ 1 := by
          obtain ⟨m9, k9, k8, k7⟩ := gx_in (c := 7) (i := 6) (lo := 0) (hi := 1) s0.1 rfl rfl rfl rfl
          have h9 := Sum.inl.inj (Option.some.inj ((hA.1.2.2.2.2.2.2.2.2.2.2.1).symm.trans k9))
          omega
        have hfl2 : σ 9 2 ≤ 1 := by
          obtain ⟨m9, k9, k8, k7⟩ := gx_in (c := 7) (i := 7) (lo := 0) (hi := 1) s0.1 rfl rfl rfl rfl
          have h9 := Sum.inl.inj (Option.some.inj ((hA.1.2.2.2.2.2.2.2.2.2.2.2).symm.trans k9))
          omega
        obtain ⟨_, r105, t105, a105, f105, rfl, s105, hT105, hP105, e105, ⟨q105, τ, hLn, z105, y105⟩, hN105⟩ := pc_packLine191_1 (d) n s0 hT haN hP hA h3 bw103 yw103 hC ⟨hfl0, hfl1, hfl2⟩
        have b105 := s105.2.2.2
        refine gx_callo (a := 7) rfl rfl s0.1 rfl rfl rfl r105 rfl ?_
        show en_ex _ _ _ _ (122, [(2, .inl i), (0, gx_r 7), (1, gx_r 191)], [], t105, n, 0) _
        refine gx_iinc (i := 2) (k := 1) rfl (fun _ => rfl) (by first | decide | omega) rfl ?_
        show en_ex _ _ _ _ (125, [(2, .inl (i + 1)), (0, gx_r 7), (1, gx_r 191)], [], t105, n, 0) _
        refine ex_go (S := (94, [(2, .inl (i + 1)), (0, gx_r 7), (1, gx_r 191)], [], t105, n, 0)) rfl (fun _ => rfl) rfl ?_
        exact ih (i + 1) τ t105 a105 f105 (by first | decide | omega) (fun h0 => by have := (y105 h0).1; have := hia rfl; omega) s105 hT105 hN105 hP105 (fun c i h => (e105 c i h).trans (w0 c i h)) (fun h0 => ⟨(y105 h0).2.1, W3_Ln h3 hLn (f2_no.2.2.2.2.2.2.2 59 (by rw [← z105]; exact h0)), (y105 h0).2.2⟩) (fun f1 h1 => hPk f1 (Or.inr (Or.inr ⟨rfl, haN, q105, τ, hLn, by rw [← z105]; exact h1⟩))) (fun υ h1 => hPt υ (Or.inr ⟨rfl, haN, q105, τ, hLn, by rw [← z105]; exact h1⟩))
theorem pc_rclear194 (d n : Nat) {t0 : en_H} (g0 : ai_HG ah_G t0) : ∃ r, en_u (d + 1) 11 [gx_r 194] t0 n = some r ∧ ∃ t', r = (none, t', n, 0) ∧ ai_HG ah_G t' ∧ (∀ c i, ¬ (c = 194 ∧ i = 5) → ai_hv t' c i = ai_hv t0 c i) ∧ ai_hv t' 194 5 = some (.inl 0) := by
  refine en_u_ex rfl ?_
  show en_ex _ _ _ _ (0, [(0, gx_r 194)], [], t0, n, 0) _
  refine ex_go (S := (1, [(0, gx_r 194)], [gx_r 194], t0, n, 0)) rfl (fun _ => rfl) rfl ?_
  refine ex_go (S := (2, [(0, gx_r 194)], [.inl 0, gx_r 194], t0, n, 0)) rfl (fun _ => rfl) rfl ?_
  refine gxo_put (a := 194) rfl g0 rfl rfl rfl (ai_in_h (by first | decide | omega) (by first | decide | omega) (by first | decide | omega)) rfl (fun t101 g101 k101 e101 => ?_)
  refine ex_ret (r := (none, t101, n, 0)) rfl (fun _ => rfl) ?_
  exact ⟨_, rfl, t101, rfl, g101, (fun c i h => e101 c i (by first | decide | omega)), k101⟩
theorem pc_rclear200 (d n : Nat) {t0 : en_H} (g0 : ai_HG ah_G t0) : ∃ r, en_u (d + 1) 11 [gx_r 200] t0 n = some r ∧ ∃ t', r = (none, t', n, 0) ∧ ai_HG ah_G t' ∧ (∀ c i, ¬ (c = 200 ∧ i = 5) → ai_hv t' c i = ai_hv t0 c i) ∧ ai_hv t' 200 5 = some (.inl 0) := by
  refine en_u_ex rfl ?_
  show en_ex _ _ _ _ (0, [(0, gx_r 200)], [], t0, n, 0) _
  refine ex_go (S := (1, [(0, gx_r 200)], [gx_r 200], t0, n, 0)) rfl (fun _ => rfl) rfl ?_
  refine ex_go (S := (2, [(0, gx_r 200)], [.inl 0, gx_r 200], t0, n, 0)) rfl (fun _ => rfl) rfl ?_
  refine gxo_put (a := 200) rfl g0 rfl rfl rfl (ai_in_h (by first | decide | omega) (by first | decide | omega) (by first | decide | omega)) rfl (fun t101 g101 k101 e101 => ?_)
  refine ex_ret (r := (none, t101, n, 0)) rfl (fun _ => rfl) ?_
  exact ⟨_, rfl, t101, rfl, g101, (fun c i h => e101 c i (by first | decide | omega)), k101⟩
theorem pc_rclear206 (d n : Nat) {t0 : en_H} (g0 : ai_HG ah_G t0) : ∃ r, en_u (d + 1) 11 [gx_r 206] t0 n = some r ∧ ∃ t', r = (none, t', n, 0) ∧ ai_HG ah_G t' ∧ (∀ c i, ¬ (c = 206 ∧ i = 5) → ai_hv t' c i = ai_hv t0 c i) ∧ ai_hv t' 206 5 = some (.inl 0) := by
  refine en_u_ex rfl ?_
  show en_ex _ _ _ _ (0, [(0, gx_r 206)], [], t0, n, 0) _
  refine ex_go (S := (1, [(0, gx_r 206)], [gx_r 206], t0, n, 0)) rfl (fun _ => rfl) rfl ?_
  refine ex_go (S := (2, [(0, gx_r 206)], [.inl 0, gx_r 206], t0, n, 0)) rfl (fun _ => rfl) rfl ?_
  refine gxo_put (a := 206) rfl g0 rfl rfl rfl (ai_in_h (by first | decide | omega) (by first | decide | omega) (by first | decide | omega)) rfl (fun t101 g101 k101 e101 => ?_)
  refine ex_ret (r := (none, t101, n, 0)) rfl (fun _ => rfl) ?_
  exact ⟨_, rfl, t101, rfl, g101, (fun c i h => e101 c i (by first | decide | omega)), k101⟩
theorem pc_rclear212 (d n : Nat) {t0 : en_H} (g0 : ai_HG ah_G t0) : ∃ r, en_u (d + 1) 11 [gx_r 212] t0 n = some r ∧ ∃ t', r = (none, t', n, 0) ∧ ai_HG ah_G t' ∧ (∀ c i, ¬ (c = 212 ∧ i = 5) → ai_hv t' c i = ai_hv t0 c i) ∧ ai_hv t' 212 5 = some (.inl 0) := by
  refine en_u_ex rfl ?_
  show en_ex _ _ _ _ (0, [(0, gx_r 212)], [], t0, n, 0) _
  refine ex_go (S := (1, [(0, gx_r 212)], [gx_r 212], t0, n, 0)) rfl (fun _ => rfl) rfl ?_
  refine ex_go (S := (2, [(0, gx_r 212)], [.inl 0, gx_r 212], t0, n, 0)) rfl (fun _ => rfl) rfl ?_
  refine gxo_put (a := 212) rfl g0 rfl rfl rfl (ai_in_h (by first | decide | omega) (by first | decide | omega) (by first | decide | omega)) rfl (fun t101 g101 k101 e101 => ?_)
  refine ex_ret (r := (none, t101, n, 0)) rfl (fun _ => rfl) ?_
  exact ⟨_, rfl, t101, rfl, g101, (fun c i h => e101 c i (by first | decide | omega)), k101⟩
theorem pc_rclear218 (d n : Nat) {t0 : en_H} (g0 : ai_HG ah_G t0) : ∃ r, en_u (d + 1) 11 [gx_r 218] t0 n = some r ∧ ∃ t', r = (none, t', n, 0) ∧ ai_HG ah_G t' ∧ (∀ c i, ¬ (c = 218 ∧ i = 5) → ai_hv t' c i = ai_hv t0 c i) ∧ ai_hv t' 218 5 = some (.inl 0) := by
  refine en_u_ex rfl ?_
  show en_ex _ _ _ _ (0, [(0, gx_r 218)], [], t0, n, 0) _
  refine ex_go (S := (1, [(0, gx_r 218)], [gx_r 218], t0, n, 0)) rfl (fun _ => rfl) rfl ?_
  refine ex_go (S := (2, [(0, gx_r 218)], [.inl 0, gx_r 218], t0, n, 0)) rfl (fun _ => rfl) rfl ?_
  refine gxo_put (a := 218) rfl g0 rfl rfl rfl (ai_in_h (by first | decide | omega) (by first | decide | omega) (by first | decide | omega)) rfl (fun t101 g101 k101 e101 => ?_)
  refine ex_ret (r := (none, t101, n, 0)) rfl (fun _ => rfl) ?_
  exact ⟨_, rfl, t101, rfl, g101, (fun c i h => e101 c i (by first | decide | omega)), k101⟩
theorem pc_rclear224 (d n : Nat) {t0 : en_H} (g0 : ai_HG ah_G t0) : ∃ r, en_u (d + 1) 11 [gx_r 224] t0 n = some r ∧ ∃ t', r = (none, t', n, 0) ∧ ai_HG ah_G t' ∧ (∀ c i, ¬ (c = 224 ∧ i = 5) → ai_hv t' c i = ai_hv t0 c i) ∧ ai_hv t' 224 5 = some (.inl 0) := by
  refine en_u_ex rfl ?_
  show en_ex _ _ _ _ (0, [(0, gx_r 224)], [], t0, n, 0) _
  refine ex_go (S := (1, [(0, gx_r 224)], [gx_r 224], t0, n, 0)) rfl (fun _ => rfl) rfl ?_
  refine ex_go (S := (2, [(0, gx_r 224)], [.inl 0, gx_r 224], t0, n, 0)) rfl (fun _ => rfl) rfl ?_
  refine gxo_put (a := 224) rfl g0 rfl rfl rfl (ai_in_h (by first | decide | omega) (by first | decide | omega) (by first | decide | omega)) rfl (fun t101 g101 k101 e101 => ?_)
  refine ex_ret (r := (none, t101, n, 0)) rfl (fun _ => rfl) ?_
  exact ⟨_, rfl, t101, rfl, g101, (fun c i h => e101 c i (by first | decide | omega)), k101⟩
theorem pc_clr191_l {fn : en_F} {n : Nat} {tb : en_H} {Q : en_O → Prop} (hQ : ∀ t1, ai_HG ah_G t1 → (∀ c i, ¬ c = 192 → ai_hv t1 c i = ai_hv tb c i) → (∀ i, i < 64 → ai_hv t1 192 i = some (.inl 4)) → en_ex none fn (en_code 10) (fun _ => false) (36, [(1, .inl 64), (0, gx_r 191)], [], t1, n, 0) Q) : ∀ j k t0, k + j = 64 → ai_HG ah_G t0 → (∀ c i, ¬ c = 192 → ai_hv t0 c i = ai_hv tb c i) → (∀ i, i < k → ai_hv t0 192 i = some (.inl 4)) → en_ex none fn (en_code 10) (fun _ => false) (17, [(1, .inl k), (0, gx_r 191)], [], t0, n, 0) Q := by
  intro j
  induction j with
  | zero =>
    intro k t0 hk g0 e0 h4
    have hk : k = 64 := by omega
    subst hk
    refine ex_go (S := (18, [(1, .inl 64), (0, gx_r 191)], [.inl 64], t0, n, 0)) rfl (fun _ => rfl) rfl ?_
    refine ex_go (S := (20, [(1, .inl 64), (0, gx_r 191)], [.inl 64, .inl 64], t0, n, 0)) rfl (fun _ => rfl) rfl ?_
    refine ex_go (S := (36, [(1, .inl 64), (0, gx_r 191)], [], t0, n, 0)) rfl (fun _ => rfl) rfl ?_
    exact hQ t0 g0 e0 h4
  | succ j ih =>
    intro k t0 hk g0 e0 h4
    refine ex_go (S := (18, [(1, .inl k), (0, gx_r 191)], [.inl k], t0, n, 0)) rfl (fun _ => rfl) rfl ?_
    refine ex_go (S := (20, [(1, .inl k), (0, gx_r 191)], [.inl 64, .inl k], t0, n, 0)) rfl (fun _ => rfl) rfl ?_
    refine gx_2f (c := .ge) rfl (by first | decide | omega) (by first | decide | omega) (show ¬ (64 ≤ k) from by omega) rfl ?_
    refine ex_go (S := (24, [(1, .inl k), (0, gx_r 191)], [gx_r 191], t0, n, 0)) rfl (fun _ => rfl) rfl ?_
    refine gxo_ref (a := 191) (c := 192) rfl g0 rfl rfl rfl rfl rfl ?_
    refine ex_go (S := (28, [(1, .inl k), (0, gx_r 191)], [.inl k, gx_r 192], t0, n, 0)) rfl (fun _ => rfl) rfl ?_
    refine ex_go (S := (29, [(1, .inl k), (0, gx_r 191)], [.inl 4, .inl k, gx_r 192], t0, n, 0)) rfl (fun _ => rfl) rfl ?_
    refine gx_ap rfl (fun _ => rfl) g0 rfl rfl rfl (show k < 64 from by omega) (gx_run1 (show k < 64 from by omega)) (ai_in_h (by first | decide | omega) (by first | decide | omega) (by first | decide | omega)) rfl (fun t101 g101 k101 e101 => ?_)
    refine gx_iinc (i := 1) (k := 1) rfl (fun _ => rfl) (by first | decide | omega) rfl ?_
    show en_ex _ _ _ _ (33, [(1, .inl (k + 1)), (0, gx_r 191)], [], t101, n, 0) _
    refine ex_go (S := (17, [(1, .inl (k + 1)), (0, gx_r 191)], [], t101, n, 0)) rfl (fun _ => rfl) rfl ?_
    refine ih (k + 1) t101 (by first | decide | omega) g101 (fun c i h => (e101 c i (by first | decide | omega)).trans (e0 c i h)) (fun i hi => ?_)
    by_cases e9 : i = k
    · rw [e9]; exact k101
    · exact (e101 192 i (by first | decide | omega)).trans (h4 i (by first | decide | omega))
theorem pc_clear191 (d n : Nat) {t0 : en_H} (g0 : ai_HG ah_G t0) : ∃ r, en_u (d + 2) 10 [gx_r 191] t0 n = some r ∧ ∃ t', r = (none, t', n, 0) ∧ ai_HG ah_G t' ∧ (∀ c i, ¬ (191 ≤ c ∧ c ≤ 238) → ai_hv t' c i = ai_hv t0 c i) ∧ ai_hv t' 191 2 = some (.inl 2) ∧ (∀ i, i < 64 → ai_hv t' 192 i = some (.inl 4)) ∧ ai_hv t' 194 5 = some (.inl 0) ∧ ai_hv t' 200 5 = some (.inl 0) ∧ ai_hv t' 206 5 = some (.inl 0) ∧ ai_hv t' 212 5 = some (.inl 0) ∧ ai_hv t' 218 5 = some (.inl 0) ∧ ai_hv t' 224 5 = some (.inl 0) ∧ (CLs t' 230 [cdf 0] ∧ CLs t' 233 [cdf 1] ∧ CLs t' 236 [cdf 2]) := by
  refine en_u_ex (d := d + 1) rfl ?_
  show en_ex _ _ _ _ (0, [(0, gx_r 191)], [], t0, n, 0) _
  refine ex_go (S := (1, [(0, gx_r 191)], [gx_r 191], t0, n, 0)) rfl (fun _ => rfl) rfl ?_
  refine ex_go (S := (2, [(0, gx_r 191)], [.inl 2, gx_r 191], t0, n, 0)) rfl (fun _ => rfl) rfl ?_
  refine gxo_put (a := 191) rfl g0 rfl rfl rfl (gx_full (by first | decide | omega)) rfl (fun t101 g101 k101 e101 => ?_)
  refine ex_go (S := (6, [(0, gx_r 191)], [gx_r 191], t101, n, 0)) rfl (fun _ => rfl) rfl ?_
  refine ex_go (S := (7, [(0, gx_r 191)], [.inl 2, gx_r 191], t101, n, 0)) rfl (fun _ => rfl) rfl ?_
  refine gxo_put (a := 191) rfl g101 rfl rfl rfl (gx_full (by first | decide | omega)) rfl (fun t102 g102 k102 e102 => ?_)
  have k3 : ai_hv t102 191 0 = some (.inl 2) := (e102 191 0 (by first | decide | omega)).trans k101
  refine ex_go (S := (11, [(0, gx_r 191)], [gx_r 191], t102, n, 0)) rfl (fun _ => rfl) rfl ?_
  refine ex_go (S := (12, [(0, gx_r 191)], [.inl 2, gx_r 191], t102, n, 0)) rfl (fun _ => rfl) rfl ?_
  refine gxo_put (a := 191) rfl g102 rfl rfl rfl (gx_full (by first | decide | omega)) rfl (fun t104 g104 k104 e104 => ?_)
  have k5 : ai_hv t104 191 0 = some (.inl 2) := (e104 191 0 (by first | decide | omega)).trans k3
  have k6 : ai_hv t104 191 1 = some (.inl 2) := (e104 191 1 (by first | decide | omega)).trans k102
  refine ex_go (S := (16, [(0, gx_r 191)], [.inl 0], t104, n, 0)) rfl (fun _ => rfl) rfl ?_
  refine ex_go (S := (17, [(1, .inl 0), (0, gx_r 191)], [], t104, n, 0)) rfl (fun _ => rfl) rfl ?_
  refine pc_clr191_l (tb := t104) (fun t107 g107 e107 h4 => ?_) 64 0 _ rfl g104 (fun _ _ _ => rfl) (fun i hi => absurd hi (Nat.not_lt_zero i))
  have k8 : ai_hv t107 191 0 = some (.inl 2) := (e107 191 0 (by first | decide | omega)).trans k5
  have k9 : ai_hv t107 191 1 = some (.inl 2) := (e107 191 1 (by first | decide | omega)).trans k6
  have k10 : ai_hv t107 191 2 = some (.inl 2) := (e107 191 2 (by first | decide | omega)).trans k104
  refine ex_go (S := (37, [(1, .inl 64), (0, gx_r 191)], [gx_r 191], t107, n, 0)) rfl (fun _ => rfl) rfl ?_
  refine gxo_ref (a := 191) (c := 194) rfl g107 rfl rfl rfl rfl rfl ?_
  obtain ⟨_, r111, t111, rfl, g111, e111, k111⟩ := pc_rclear194 d n g107
  refine gx_callo (a := 194) rfl rfl g107 rfl rfl rfl r111 rfl ?_
  have k12 : ai_hv t111 191 0 = some (.inl 2) := (e111 191 0 (by first | decide | omega)).trans k8
  have k13 : ai_hv t111 191 1 = some (.inl 2) := (e111 191 1 (by first | decide | omega)).trans k9
  have k14 : ai_hv t111 191 2 = some (.inl 2) := (e111 191 2 (by first | decide | omega)).trans k10
  show en_ex _ _ _ _ (43, [(1, .inl 64), (0, gx_r 191)], [], t111, n, 0) _
  refine ex_go (S := (44, [(1, .inl 64), (0, gx_r 191)], [gx_r 191], t111, n, 0)) rfl (fun _ => rfl) rfl ?_
  refine gxo_ref (a := 191) (c := 200) rfl g111 rfl rfl rfl rfl rfl ?_
  obtain ⟨_, r115, t115, rfl, g115, e115, k115⟩ := pc_rclear200 d n g111
  refine gx_callo (a := 200) rfl rfl g111 rfl rfl rfl r115 rfl ?_
  have k16 : ai_hv t115 191 0 = some (.inl 2) := (e115 191 0 (by first | decide | omega)).trans k12
  have k17 : ai_hv t115 191 1 = some (.inl 2) := (e115 191 1 (by first | decide | omega)).trans k13
  have k18 : ai_hv t115 191 2 = some (.inl 2) := (e115 191 2 (by first | decide | omega)).trans k14
  have k19 : ai_hv t115 194 5 = some (.inl 0) := (e115 194 5 (by first | decide | omega)).trans k111
  show en_ex _ _ _ _ (50, [(1, .inl 64), (0, gx_r 191)], [], t115, n, 0) _
  refine ex_go (S := (51, [(1, .inl 64), (0, gx_r 191)], [gx_r 191], t115, n, 0)) rfl (fun _ => rfl) rfl ?_
  refine gxo_ref (a := 191) (c := 206) rfl g115 rfl rfl rfl rfl rfl ?_
  obtain ⟨_, r120, t120, rfl, g120, e120, k120⟩ := pc_rclear206 d n g115
  refine gx_callo (a := 206) rfl rfl g115 rfl rfl rfl r120 rfl ?_
  have k21 : ai_hv t120 191 0 = some (.inl 2) := (e120 191 0 (by first | decide | omega)).trans k16
  have k22 : ai_hv t120 191 1 = some (.inl 2) := (e120 191 1 (by first | decide | omega)).trans k17
  have k23 : ai_hv t120 191 2 = some (.inl 2) := (e120 191 2 (by first | decide | omega)).trans k18
  have k24 : ai_hv t120 194 5 = some (.inl 0) := (e120 194 5 (by first | decide | omega)).trans k19
  have k25 : ai_hv t120 200 5 = some (.inl 0) := (e120 200 5 (by first | decide | omega)).trans k115
  show en_ex _ _ _ _ (57, [(1, .inl 64), (0, gx_r 191)], [], t120, n, 0) _
  refine ex_go (S := (58, [(1, .inl 64), (0, gx_r 191)], [gx_r 191], t120, n, 0)) rfl (fun _ => rfl) rfl ?_
  refine gxo_ref (a := 191) (c := 212) rfl g120 rfl rfl rfl rfl rfl ?_
  obtain ⟨_, r126, t126, rfl, g126, e126, k126⟩ := pc_rclear212 d n g120
  refine gx_callo (a := 212) rfl rfl g120 rfl rfl rfl r126 rfl ?_
  have k27 : ai_hv t126 191 0 = some (.inl 2) := (e126 191 0 (by first | decide | omega)).trans k21
  have k28 : ai_hv t126 191 1 = some (.inl 2) := (e126 191 1 (by first | decide | omega)).trans k22
  have k29 : ai_hv t126 191 2 = some (.inl 2) := (e126 191 2 (by first | decide | omega)).trans k23
  have k30 : ai_hv t126 194 5 = some (.inl 0) := (e126 194 5 (by first | decide | omega)).trans k24
  have k31 : ai_hv t126 200 5 = some (.inl 0) := (e126 200 5 (by first | decide | omega)).trans k25
  have k32 : ai_hv t126 206 5 = some (.inl 0) := (e126 206 5 (by first | decide | omega)).trans k120
  show en_ex _ _ _ _ (64, [(1, .inl 64), (0, gx_r 191)], [], t126, n, 0) _
  refine ex_go (S := (65, [(1, .inl 64), (0, gx_r 191)], [gx_r 191], t126, n, 0)) rfl (fun _ => rfl) rfl ?_
  refine gxo_ref (a := 191) (c := 218) rfl g126 rfl rfl rfl rfl rfl ?_
  obtain ⟨_, r133, t133, rfl, g133, e133, k133⟩ := pc_rclear218 d n g126
  refine gx_callo (a := 218) rfl rfl g126 rfl rfl rfl r133 rfl ?_
  have k34 : ai_hv t133 191 0 = some (.inl 2) := (e133 191 0 (by first | decide | omega)).trans k27
  have k35 : ai_hv t133 191 1 = some (.inl 2) := (e133 191 1 (by first | decide | omega)).trans k28
  have k36 : ai_hv t133 191 2 = some (.inl 2) := (e133 191 2 (by first | decide | omega)).trans k29
  have k37 : ai_hv t133 194 5 = some (.inl 0) := (e133 194 5 (by first | decide | omega)).trans k30
  have k38 : ai_hv t133 200 5 = some (.inl 0) := (e133 200 5 (by first | decide | omega)).trans k31
  have k39 : ai_hv t133 206 5 = some (.inl 0) := (e133 206 5 (by first | decide | omega)).trans k32
  have k40 : ai_hv t133 212 5 = some (.inl 0) := (e133 212 5 (by first | decide | omega)).trans k126
  show en_ex _ _ _ _ (71, [(1, .inl 64), (0, gx_r 191)], [], t133, n, 0) _
  refine ex_go (S := (72, [(1, .inl 64), (0, gx_r 191)], [gx_r 191], t133, n, 0)) rfl (fun _ => rfl) rfl ?_
  refine gxo_ref (a := 191) (c := 224) rfl g133 rfl rfl rfl rfl rfl ?_
  obtain ⟨_, r141, t141, rfl, g141, e141, k141⟩ := pc_rclear224 d n g133
  refine gx_callo (a := 224) rfl rfl g133 rfl rfl rfl r141 rfl ?_
  have k42 : ai_hv t141 191 0 = some (.inl 2) := (e141 191 0 (by first | decide | omega)).trans k34
  have k43 : ai_hv t141 191 1 = some (.inl 2) := (e141 191 1 (by first | decide | omega)).trans k35
  have k44 : ai_hv t141 191 2 = some (.inl 2) := (e141 191 2 (by first | decide | omega)).trans k36
  have k45 : ai_hv t141 194 5 = some (.inl 0) := (e141 194 5 (by first | decide | omega)).trans k37
  have k46 : ai_hv t141 200 5 = some (.inl 0) := (e141 200 5 (by first | decide | omega)).trans k38
  have k47 : ai_hv t141 206 5 = some (.inl 0) := (e141 206 5 (by first | decide | omega)).trans k39
  have k48 : ai_hv t141 212 5 = some (.inl 0) := (e141 212 5 (by first | decide | omega)).trans k40
  have k49 : ai_hv t141 218 5 = some (.inl 0) := (e141 218 5 (by first | decide | omega)).trans k133
  show en_ex _ _ _ _ (78, [(1, .inl 64), (0, gx_r 191)], [], t141, n, 0) _
  refine ex_go (S := (79, [(1, .inl 64), (0, gx_r 191)], [gx_r 191], t141, n, 0)) rfl (fun _ => rfl) rfl ?_
  refine gxo_ref (a := 191) (c := 230) rfl g141 rfl rfl rfl rfl rfl ?_
  obtain ⟨_, r150, t150, rfl, g150, e150, kl150⟩ := pc_lclear230 d n g141
  refine gx_callo (a := 230) rfl rfl g141 rfl rfl rfl r150 rfl ?_
  have k51 : ai_hv t150 191 0 = some (.inl 2) := (e150 191 0 (by first | decide | omega)).trans k42
  have k52 : ai_hv t150 191 1 = some (.inl 2) := (e150 191 1 (by first | decide | omega)).trans k43
  have k53 : ai_hv t150 191 2 = some (.inl 2) := (e150 191 2 (by first | decide | omega)).trans k44
  have k54 : ai_hv t150 194 5 = some (.inl 0) := (e150 194 5 (by first | decide | omega)).trans k45
  have k55 : ai_hv t150 200 5 = some (.inl 0) := (e150 200 5 (by first | decide | omega)).trans k46
  have k56 : ai_hv t150 206 5 = some (.inl 0) := (e150 206 5 (by first | decide | omega)).trans k47
  have k57 : ai_hv t150 212 5 = some (.inl 0) := (e150 212 5 (by first | decide | omega)).trans k48
  have k58 : ai_hv t150 218 5 = some (.inl 0) := (e150 218 5 (by first | decide | omega)).trans k49
  have k59 : ai_hv t150 224 5 = some (.inl 0) := (e150 224 5 (by first | decide | omega)).trans k141
  show en_ex _ _ _ _ (85, [(1, .inl 64), (0, gx_r 191)], [], t150, n, 0) _
  refine ex_go (S := (86, [(1, .inl 64), (0, gx_r 191)], [gx_r 191], t150, n, 0)) rfl (fun _ => rfl) rfl ?_
  refine gxo_ref (a := 191) (c := 230) rfl g150 rfl rfl rfl rfl rfl ?_
  refine ex_go (S := (91, [(1, .inl 64), (0, gx_r 191)], [.inl 4294967287, gx_r 230], t150, n, 0)) rfl (fun _ => rfl) rfl ?_
  obtain ⟨t160, r160, g160, e160, z160, kz160, hz160, cz160⟩ := pc_ladd230 d n 4294967287 t150 g150 (by decide)
  have hz160 : z160 = 0 := Sum.inl.inj (Option.some.inj (kz160.symm.trans kl150))
  subst hz160
  have cz160 := CLs_of (cz160 (by decide))
  refine gx_callo (a := 230) rfl rfl g150 rfl rfl rfl r160 rfl ?_
  have k61 : ai_hv t160 191 0 = some (.inl 2) := (e160 191 0 (by first | decide | omega)).trans k51
  have k62 : ai_hv t160 191 1 = some (.inl 2) := (e160 191 1 (by first | decide | omega)).trans k52
  have k63 : ai_hv t160 191 2 = some (.inl 2) := (e160 191 2 (by first | decide | omega)).trans k53
  have k64 : ai_hv t160 194 5 = some (.inl 0) := (e160 194 5 (by first | decide | omega)).trans k54
  have k65 : ai_hv t160 200 5 = some (.inl 0) := (e160 200 5 (by first | decide | omega)).trans k55
  have k66 : ai_hv t160 206 5 = some (.inl 0) := (e160 206 5 (by first | decide | omega)).trans k56
  have k67 : ai_hv t160 212 5 = some (.inl 0) := (e160 212 5 (by first | decide | omega)).trans k57
  have k68 : ai_hv t160 218 5 = some (.inl 0) := (e160 218 5 (by first | decide | omega)).trans k58
  have k69 : ai_hv t160 224 5 = some (.inl 0) := (e160 224 5 (by first | decide | omega)).trans k59
  show en_ex _ _ _ _ (94, [(1, .inl 64), (0, gx_r 191)], [], t160, n, 0) _
  refine ex_go (S := (95, [(1, .inl 64), (0, gx_r 191)], [gx_r 191], t160, n, 0)) rfl (fun _ => rfl) rfl ?_
  refine gxo_ref (a := 191) (c := 233) rfl g160 rfl rfl rfl rfl rfl ?_
  obtain ⟨_, r170, t170, rfl, g170, e170, kl170⟩ := pc_lclear233 d n g160
  refine gx_callo (a := 233) rfl rfl g160 rfl rfl rfl r170 rfl ?_
  have k71 : ai_hv t170 191 0 = some (.inl 2) := (e170 191 0 (by first | decide | omega)).trans k61
  have k72 : ai_hv t170 191 1 = some (.inl 2) := (e170 191 1 (by first | decide | omega)).trans k62
  have k73 : ai_hv t170 191 2 = some (.inl 2) := (e170 191 2 (by first | decide | omega)).trans k63
  have k74 : ai_hv t170 194 5 = some (.inl 0) := (e170 194 5 (by first | decide | omega)).trans k64
  have k75 : ai_hv t170 200 5 = some (.inl 0) := (e170 200 5 (by first | decide | omega)).trans k65
  have k76 : ai_hv t170 206 5 = some (.inl 0) := (e170 206 5 (by first | decide | omega)).trans k66
  have k77 : ai_hv t170 212 5 = some (.inl 0) := (e170 212 5 (by first | decide | omega)).trans k67
  have k78 : ai_hv t170 218 5 = some (.inl 0) := (e170 218 5 (by first | decide | omega)).trans k68
  have k79 : ai_hv t170 224 5 = some (.inl 0) := (e170 224 5 (by first | decide | omega)).trans k69
  show en_ex _ _ _ _ (101, [(1, .inl 64), (0, gx_r 191)], [], t170, n, 0) _
  refine ex_go (S := (102, [(1, .inl 64), (0, gx_r 191)], [gx_r 191], t170, n, 0)) rfl (fun _ => rfl) rfl ?_
  refine gxo_ref (a := 191) (c := 233) rfl g170 rfl rfl rfl rfl rfl ?_
  refine ex_go (S := (106, [(1, .inl 64), (0, gx_r 191)], [.inl 1, gx_r 233], t170, n, 0)) rfl (fun _ => rfl) rfl ?_
  obtain ⟨t180, r180, g180, e180, z180, kz180, hz180, cz180⟩ := pc_ladd233 d n 1 t170 g170 (by decide)
  have hz180 : z180 = 0 := Sum.inl.inj (Option.some.inj (kz180.symm.trans kl170))
  subst hz180
  have cz180 := CLs_of (cz180 (by decide))
  refine gx_callo (a := 233) rfl rfl g170 rfl rfl rfl r180 rfl ?_
  have k81 : ai_hv t180 191 0 = some (.inl 2) := (e180 191 0 (by first | decide | omega)).trans k71
  have k82 : ai_hv t180 191 1 = some (.inl 2) := (e180 191 1 (by first | decide | omega)).trans k72
  have k83 : ai_hv t180 191 2 = some (.inl 2) := (e180 191 2 (by first | decide | omega)).trans k73
  have k84 : ai_hv t180 194 5 = some (.inl 0) := (e180 194 5 (by first | decide | omega)).trans k74
  have k85 : ai_hv t180 200 5 = some (.inl 0) := (e180 200 5 (by first | decide | omega)).trans k75
  have k86 : ai_hv t180 206 5 = some (.inl 0) := (e180 206 5 (by first | decide | omega)).trans k76
  have k87 : ai_hv t180 212 5 = some (.inl 0) := (e180 212 5 (by first | decide | omega)).trans k77
  have k88 : ai_hv t180 218 5 = some (.inl 0) := (e180 218 5 (by first | decide | omega)).trans k78
  have k89 : ai_hv t180 224 5 = some (.inl 0) := (e180 224 5 (by first | decide | omega)).trans k79
  show en_ex _ _ _ _ (109, [(1, .inl 64), (0, gx_r 191)], [], t180, n, 0) _
  refine ex_go (S := (110, [(1, .inl 64), (0, gx_r 191)], [gx_r 191], t180, n, 0)) rfl (fun _ => rfl) rfl ?_
  refine gxo_ref (a := 191) (c := 236) rfl g180 rfl rfl rfl rfl rfl ?_
  obtain ⟨_, r190, t190, rfl, g190, e190, kl190⟩ := pc_lclear236 d n g180
  refine gx_callo (a := 236) rfl rfl g180 rfl rfl rfl r190 rfl ?_
  have k91 : ai_hv t190 191 0 = some (.inl 2) := (e190 191 0 (by first | decide | omega)).trans k81
  have k92 : ai_hv t190 191 1 = some (.inl 2) := (e190 191 1 (by first | decide | omega)).trans k82
  have k93 : ai_hv t190 191 2 = some (.inl 2) := (e190 191 2 (by first | decide | omega)).trans k83
  have k94 : ai_hv t190 194 5 = some (.inl 0) := (e190 194 5 (by first | decide | omega)).trans k84
  have k95 : ai_hv t190 200 5 = some (.inl 0) := (e190 200 5 (by first | decide | omega)).trans k85
  have k96 : ai_hv t190 206 5 = some (.inl 0) := (e190 206 5 (by first | decide | omega)).trans k86
  have k97 : ai_hv t190 212 5 = some (.inl 0) := (e190 212 5 (by first | decide | omega)).trans k87
  have k98 : ai_hv t190 218 5 = some (.inl 0) := (e190 218 5 (by first | decide | omega)).trans k88
  have k99 : ai_hv t190 224 5 = some (.inl 0) := (e190 224 5 (by first | decide | omega)).trans k89
  show en_ex _ _ _ _ (116, [(1, .inl 64), (0, gx_r 191)], [], t190, n, 0) _
  refine ex_go (S := (117, [(1, .inl 64), (0, gx_r 191)], [gx_r 191], t190, n, 0)) rfl (fun _ => rfl) rfl ?_
  refine gxo_ref (a := 191) (c := 236) rfl g190 rfl rfl rfl rfl rfl ?_
  refine ex_go (S := (121, [(1, .inl 64), (0, gx_r 191)], [.inl 1, gx_r 236], t190, n, 0)) rfl (fun _ => rfl) rfl ?_
  obtain ⟨t200, r200, g200, e200, z200, kz200, hz200, cz200⟩ := pc_ladd236 d n 1 t190 g190 (by decide)
  have hz200 : z200 = 0 := Sum.inl.inj (Option.some.inj (kz200.symm.trans kl190))
  subst hz200
  have cz200 := CLs_of (cz200 (by decide))
  refine gx_callo (a := 236) rfl rfl g190 rfl rfl rfl r200 rfl ?_
  have k101 : ai_hv t200 191 0 = some (.inl 2) := (e200 191 0 (by first | decide | omega)).trans k91
  have k102 : ai_hv t200 191 1 = some (.inl 2) := (e200 191 1 (by first | decide | omega)).trans k92
  have k103 : ai_hv t200 191 2 = some (.inl 2) := (e200 191 2 (by first | decide | omega)).trans k93
  have k104 : ai_hv t200 194 5 = some (.inl 0) := (e200 194 5 (by first | decide | omega)).trans k94
  have k105 : ai_hv t200 200 5 = some (.inl 0) := (e200 200 5 (by first | decide | omega)).trans k95
  have k106 : ai_hv t200 206 5 = some (.inl 0) := (e200 206 5 (by first | decide | omega)).trans k96
  have k107 : ai_hv t200 212 5 = some (.inl 0) := (e200 212 5 (by first | decide | omega)).trans k97
  have k108 : ai_hv t200 218 5 = some (.inl 0) := (e200 218 5 (by first | decide | omega)).trans k98
  have k109 : ai_hv t200 224 5 = some (.inl 0) := (e200 224 5 (by first | decide | omega)).trans k99
  show en_ex _ _ _ _ (124, [(1, .inl 64), (0, gx_r 191)], [], t200, n, 0) _
  refine ex_ret (r := (none, t200, n, 0)) rfl (fun _ => rfl) ?_
  exact ⟨_, rfl, t200, rfl, g200, (fun c i h => (e200 c i (by first | decide | omega)).trans ((e190 c i (by first | decide | omega)).trans ((e180 c i (by first | decide | omega)).trans ((e170 c i (by first | decide | omega)).trans ((e160 c i (by first | decide | omega)).trans ((e150 c i (by first | decide | omega)).trans ((e141 c i (by first | decide | omega)).trans ((e133 c i (by first | decide | omega)).trans ((e126 c i (by first | decide | omega)).trans ((e120 c i (by first | decide | omega)).trans ((e115 c i (by first | decide | omega)).trans ((e111 c i (by first | decide | omega)).trans ((e107 c i (by first | decide | omega)).trans ((e104 c i (by first | decide | omega)).trans ((e102 c i (by first | decide | omega)).trans (e101 c i (by first | decide | omega))))))))))))))))), k103, (fun i hi => (e200 192 i (by first | decide | omega)).trans ((e190 192 i (by first | decide | omega)).trans ((e180 192 i (by first | decide | omega)).trans ((e170 192 i (by first | decide | omega)).trans ((e160 192 i (by first | decide | omega)).trans ((e150 192 i (by first | decide | omega)).trans ((e141 192 i (by first | decide | omega)).trans ((e133 192 i (by first | decide | omega)).trans ((e126 192 i (by first | decide | omega)).trans ((e120 192 i (by first | decide | omega)).trans ((e115 192 i (by first | decide | omega)).trans ((e111 192 i (by first | decide | omega)).trans (h4 i hi))))))))))))), k104, k105, k106, k107, k108, k109, ⟨CLs_keep cz160 ((e200 230 2 (by first | decide | omega)).trans ((e190 230 2 (by first | decide | omega)).trans ((e180 230 2 (by first | decide | omega)).trans (e170 230 2 (by first | decide | omega))))) (fun j => (e200 232 j (by first | decide | omega)).trans ((e190 232 j (by first | decide | omega)).trans ((e180 232 j (by first | decide | omega)).trans (e170 232 j (by first | decide | omega))))), CLs_keep cz180 ((e200 233 2 (by first | decide | omega)).trans (e190 233 2 (by first | decide | omega))) (fun j => (e200 235 j (by first | decide | omega)).trans (e190 235 j (by first | decide | omega))), CLs_keep cz200 (rfl) (fun j => rfl)⟩⟩
theorem stl_out191 {q : Nat × Nat × Nat} {c i : Nat} (hq : q ∈ ct_14_1.2.2.2.1) (h1 : q.1 = c) (h2 : q.2.1 ≤ i) (h3 : i ≤ q.2.2) (h : c < 191 ∨ c = 191 ∧ i ≤ 2 ∨ c = 191 + 1 ∨ (191 + 3 ≤ c ∧ c ≤ 191 + 47)) : False := by
  have hall : (ct_14_1.2.2.2.1).all (fun q => (Nat.beq q.1 191 && Nat.beq q.2.1 16) || Nat.beq q.1 193 || Nat.ble 239 q.1) = true := by decide +kernel
  have h9 := List.all_eq_true.mp hall q hq
  rw [Bool.or_eq_true, Bool.or_eq_true, Bool.and_eq_true] at h9
  rcases h9 with (⟨h9, h8⟩ | h9) | h9
  · have e1 := Nat.eq_of_beq_eq_true h9
    have e2 := Nat.eq_of_beq_eq_true h8
    omega
  · have e1 := Nat.eq_of_beq_eq_true h9
    omega
  · have e1 := Nat.le_of_ble_eq_true h9
    omega
theorem pc_readPack191_t (d n : Nat) {t0 t1 : en_H} {S : Nat → Nat} {m N a f k : Nat} (hE : ai_E t0) (h28 : c28 t0 257) (s1 : cS t1 a f) (hT : cT t1 S m N) (hP : ai_hv t1 7 1 = some (gx_r 191)) (w1 : cV 191 t0 t1) (hO : f = 0 → ∃ σ, CA t1 191 S m σ ∧ W3 S m N σ ∧ Pt S m N 1001 (sg_0 S m) (sl_0 S m N) σ ∧ CLw t1 191 S m N σ) (hPk : Pk S m N 1001 (sg_0 S m) (sl_0 S m N) f) (hJ : JRw t0 191) : en_ex none (en_u (d + 40)) (en_code 92) (fun _ => false) (128, [(2, .inl k), (0, gx_r 7), (1, gx_r 191)], [], t1, n, 0) (fun o => ∃ r, o = .inl r ∧ ∃ v t', r = (some (.inl v), t', n, 0) ∧ v < 2147483648 ∧ ai_HG ah_G t' ∧ ai_E t' ∧ (∀ i, ai_hv t' 0 i = ai_hv t0 0 i) ∧ (∀ c i, 257 ≤ c → c ≤ 304 → ai_hv t' c i = ai_hv t0 c i) ∧ ∃ N, (∀ j, j < N → sp_st S m j < m) ∧ sp_st S m N = m ∧ Pk S m N 1001 (sg_0 S m) (sl_0 S m N) v ∧ (v = 0 → (∃ υ, Pt S m N 1001 (sg_0 S m) (sl_0 S m N) υ ∧ W3 S m N υ ∧ CA t' 191 S m υ ∧ CLw t' 191 S m N υ) ∧ NX t' 191)) := by
  have b0 := s1.2.2.2
  have hE1 : ai_E t1 := ai_E_kept hE (fun c i hz => by have h9 := frz_ge hz; exact w1 c i (by first | decide | omega))
  refine ex_go (S := (129, [(2, .inl k), (0, gx_r 7), (1, gx_r 191)], [gx_r 7], t1, n, 0)) rfl (fun _ => rfl) rfl ?_
  refine gxo_ref (a := 7) (c := 1) rfl s1.1 rfl rfl rfl rfl rfl ?_
  refine gxo_get (a := 1) rfl s1.1 rfl rfl s1.2.2.1 rfl ?_
  by_cases hc1 : f ≠ 0
  · refine gx_1t (c := .ne) rfl (by first | decide | omega) hc1 rfl ?_
    refine ex_go (S := (146, [(2, .inl k), (0, gx_r 7), (1, gx_r 191)], [gx_r 7], t1, n, 0)) rfl (fun _ => rfl) rfl ?_
    refine gxo_ref (a := 7) (c := 1) rfl s1.1 rfl rfl rfl rfl rfl ?_
    refine gxo_get (a := 1) rfl s1.1 rfl rfl s1.2.2.1 rfl ?_
    refine ex_ret (r := (some (.inl f), t1, n, 0)) rfl (fun _ => rfl) ?_
    exact ⟨_, rfl, f, t1, rfl, by omega, s1.1, hE1, (fun i => w1 0 i (by first | decide | omega)), (fun c i l1 l2 => w1 c i (by first | decide | omega)), N, (fun j hj => (hT.1 j hj).1), hT.2.1, hPk, fun z => by omega⟩
  · refine gx_1f (c := .ne) rfl (by first | decide | omega) hc1 rfl ?_
    refine ex_go (S := (139, [(2, .inl k), (0, gx_r 7), (1, gx_r 191)], [gx_r 7], t1, n, 0)) rfl (fun _ => rfl) rfl ?_
    refine gxo_get (a := 7) rfl s1.1 rfl rfl hP rfl ?_
    obtain ⟨σ, hA, h3, hPt, hC⟩ := hO (by first | decide | omega)
    have hBB := h3.1.1
    have hd : c28 t1 191 := ai_HO_2 hA.1.1 (ai_in_h (by first | decide | omega) (by first | decide | omega) (by first | decide | omega)) hA.1.2.1 (ai_in_h (by first | decide | omega) (by first | decide | omega) (by first | decide | omega))
    have ht : c28 t1 257 := c28_keep h28 (fun i => w1 257 i (by first | decide | omega))
    obtain ⟨⟨rv102, t102, rn102, rs102⟩, r102, hn102, hs102, g102, fr102, E102b, o102, ho102, ro102, hh102⟩ := (ac_all (d + 40) 14 ce_14_1 (show ce_14_1 ∈ cm_14 from (List.mem_cons_of_mem _ List.mem_cons_self)) (Nat.lt_of_lt_of_le (show ce_14_1.1 < 40 by decide) (by first | decide | omega))) (fun _ => 0) [gx_r 191] t1 n ⟨gx_vref 191, trivial⟩ s1.1 (ai_HO_ap hd ht) hE1
    have hn102 : n = rn102 := hn102.symm
    have hs102 : rs102 = 0 := hs102
    subst hn102 hs102
    have ho102 := List.mem_singleton.mp ho102
    subst ho102
    have hv102 : rv102 = none := by
      cases rv102 with
      | none => rfl
      | some w => exact ro102.elim
    subst hv102
    have hsx : NX t102 191 := by
      have hA9 := hA
      obtain ⟨-, -, -, -, -, -, -, -, -, -, -, -, -, -, -, -, -, -, -, -, kF9⟩ := hA9
      obtain ⟨_, q1, tx9, rfl, -, -, hnx⟩ := st_191 (d + 37) n (tb := t1) (O := σ 0 0) (D := σ 1 0) (F := σ 23) s1.1 (by first | decide | omega) (by first | decide | omega) hA.1.1 hA.1.2.1 (fun j hj => ⟨kF9 j hj, by
        obtain ⟨m9, k9, -, k7⟩ := gx_inb (c := 192) (i := j) (lo := 0) (hi := 4) s1.1 rfl (show j < 64 from hj) (gx_run1 (show j < 64 from hj)) (by decide) (by decide) rfl
        have h9 := Sum.inl.inj (Option.some.inj ((kF9 j hj).symm.trans k9))
        omega⟩) (fun i hi => (w1 _ _ (by first | decide | omega)).trans (hJ i hi))
      have e1 := Option.some.inj (r102.symm.trans q1)
      have e2 : t102 = tx9 := congrArg (fun z => z.2.1) e1
      rw [e2]
      exact hnx
    have e102 : ∀ c i, ¬ (191 ≤ c ∧ c ≤ 256) → ai_hv t102 c i = ai_hv t1 c i := fun c i h => fr102 c i (fun z => h (inw_rng (by decide) z))
    refine gx_callo (a := 191) rfl rfl s1.1 rfl rfl rfl r102 rfl ?_
    have s102 : cS t102 a f := ⟨g102, (e102 1 8 (by first | decide | omega)).trans s1.2.1, (e102 1 1 (by first | decide | omega)).trans s1.2.2.1, s1.2.2.2⟩
    show en_ex _ _ _ _ (145, [(2, .inl k), (0, gx_r 7), (1, gx_r 191)], [], t102, n, 0) _
    refine ex_go (S := (146, [(2, .inl k), (0, gx_r 7), (1, gx_r 191)], [gx_r 7], t102, n, 0)) rfl (fun _ => rfl) rfl ?_
    refine gxo_ref (a := 7) (c := 1) rfl s102.1 rfl rfl rfl rfl rfl ?_
    refine gxo_get (a := 1) rfl s102.1 rfl rfl s102.2.2.1 rfl ?_
    refine ex_ret (r := (some (.inl f), t102, n, 0)) rfl (fun _ => rfl) ?_
    exact ⟨_, rfl, f, t102, rfl, by omega, s102.1, E102b, (fun i => (e102 0 i (by first | decide | omega)).trans (w1 0 i (by first | decide | omega))), (fun c i l1 l2 => (e102 c i (by first | decide | omega)).trans (w1 c i (by first | decide | omega))), N, (fun j hj => (hT.1 j hj).1), hT.2.1, hPk, fun _ => ⟨⟨σ, hPt, h3, CA_keep (by first | decide | omega) hA (fun c i h h2 => fr102 c i (fun z => by obtain ⟨q9, m1, m2, m3, m4⟩ := z; exact stl_out191 m1 m2 m3 m4 (by first | decide | omega))), CLw_keep hC (fun c i h h2 => fr102 c i (fun z => by obtain ⟨q9, m1, m2, m3, m4⟩ := z; exact stl_out191 m1 m2 m3 m4 (by first | decide | omega))) (fun _ => ⟨rfl, rfl⟩)⟩, hsx⟩⟩
theorem pc_readPack191 (d n : Nat) {t0 : en_H} {S : Nat → Nat} {m : Nat} (g0 : ai_HG ah_G t0) (hE : ai_E t0) (h28 : c28 t0 257) (hm : m ≤ 1000) (km : ai_hv t0 1 0 = some (.inl m)) (hS : ∀ i, i < m → ai_hv t0 2 i = some (.inl (S i)) ∧ S i ≤ 127) (hJ : JRw t0 191) : ∃ r, en_u (d + 41) 92 [gx_r 7, gx_r 191] t0 n = some r ∧ ∃ v t', r = (some (.inl v), t', n, 0) ∧ v < 2147483648 ∧ ai_HG ah_G t' ∧ ai_E t' ∧ (∀ i, ai_hv t' 0 i = ai_hv t0 0 i) ∧ (∀ c i, 257 ≤ c → c ≤ 304 → ai_hv t' c i = ai_hv t0 c i) ∧ ∃ N, (∀ j, j < N → sp_st S m j < m) ∧ sp_st S m N = m ∧ Pk S m N 1001 (sg_0 S m) (sl_0 S m N) v ∧ (v = 0 → (∃ υ, Pt S m N 1001 (sg_0 S m) (sl_0 S m N) υ ∧ W3 S m N υ ∧ CA t' 191 S m υ ∧ CLw t' 191 S m N υ) ∧ NX t' 191) := by
  refine en_u_ex (d := d + 40) rfl ?_
  show en_ex _ _ _ _ (0, [(0, gx_r 7), (1, gx_r 191)], [], t0, n, 0) _
  refine ex_go (S := (1, [(0, gx_r 7), (1, gx_r 191)], [gx_r 7], t0, n, 0)) rfl (fun _ => rfl) rfl ?_
  refine ex_go (S := (2, [(0, gx_r 7), (1, gx_r 191)], [gx_r 191, gx_r 7], t0, n, 0)) rfl (fun _ => rfl) rfl ?_
  refine gxo_putr (a := 7) (h := .inr (.inr [0, 291, 357])) rfl g0 rfl rfl rfl (refin_r (by decide)) rfl (fun t101 g101 k101 e101 => ?_)
  have k2 : ai_hv t101 1 0 = some (.inl m) := (e101 1 0 (by first | decide | omega)).trans km
  refine ex_go (S := (6, [(0, gx_r 7), (1, gx_r 191)], [gx_r 7], t101, n, 0)) rfl (fun _ => rfl) rfl ?_
  refine gxo_get (a := 7) rfl g101 rfl rfl k101 rfl ?_
  obtain ⟨_, r103, t103, rfl, g103, e103, kpa103, z4, kz194, kz200, kz206, kz212, kz218, kz224, hcl0, hcl1, hcl2⟩ := pc_clear191 (d + 38) n g101
  refine gx_callo (a := 191) rfl rfl g101 rfl rfl rfl r103 rfl ?_
  have k4 : ai_hv t103 1 0 = some (.inl m) := (e103 1 0 (by first | decide | omega)).trans k2
  have k5 : ai_hv t103 7 1 = some (gx_r 191) := (e103 7 1 (by first | decide | omega)).trans k101
  show en_ex _ _ _ _ (12, [(0, gx_r 7), (1, gx_r 191)], [], t103, n, 0) _
  refine ex_go (S := (13, [(0, gx_r 7), (1, gx_r 191)], [gx_r 7], t103, n, 0)) rfl (fun _ => rfl) rfl ?_
  refine ex_go (S := (14, [(0, gx_r 7), (1, gx_r 191)], [.inl 0, gx_r 7], t103, n, 0)) rfl (fun _ => rfl) rfl ?_
  refine gxo_put (a := 7) rfl g103 rfl rfl rfl (ai_in_h (by first | decide | omega) (by first | decide | omega) (by first | decide | omega)) rfl (fun t106 g106 k106 e106 => ?_)
  have k7 : ai_hv t106 1 0 = some (.inl m) := (e106 1 0 (by first | decide | omega)).trans k4
  have k8 : ai_hv t106 7 1 = some (gx_r 191) := (e106 7 1 (by first | decide | omega)).trans k5
  have k9 : ai_hv t106 194 5 = some (.inl 0) := (e106 194 5 (by first | decide | omega)).trans kz194
  have k10 : ai_hv t106 200 5 = some (.inl 0) := (e106 200 5 (by first | decide | omega)).trans kz200
  have k11 : ai_hv t106 206 5 = some (.inl 0) := (e106 206 5 (by first | decide | omega)).trans kz206
  have k12 : ai_hv t106 212 5 = some (.inl 0) := (e106 212 5 (by first | decide | omega)).trans kz212
  have k13 : ai_hv t106 218 5 = some (.inl 0) := (e106 218 5 (by first | decide | omega)).trans kz218
  have k14 : ai_hv t106 224 5 = some (.inl 0) := (e106 224 5 (by first | decide | omega)).trans kz224
  have k15 : ai_hv t106 191 2 = some (.inl 2) := (e106 191 2 (by first | decide | omega)).trans kpa103
  refine ex_go (S := (18, [(0, gx_r 7), (1, gx_r 191)], [gx_r 7], t106, n, 0)) rfl (fun _ => rfl) rfl ?_
  refine ex_go (S := (19, [(0, gx_r 7), (1, gx_r 191)], [.inl 0, gx_r 7], t106, n, 0)) rfl (fun _ => rfl) rfl ?_
  refine gxo_put (a := 7) rfl g106 rfl rfl rfl (ai_in_h (by first | decide | omega) (by first | decide | omega) (by first | decide | omega)) rfl (fun t116 g116 k116 e116 => ?_)
  have k17 : ai_hv t116 1 0 = some (.inl m) := (e116 1 0 (by first | decide | omega)).trans k7
  have k18 : ai_hv t116 7 1 = some (gx_r 191) := (e116 7 1 (by first | decide | omega)).trans k8
  have k19 : ai_hv t116 194 5 = some (.inl 0) := (e116 194 5 (by first | decide | omega)).trans k9
  have k20 : ai_hv t116 200 5 = some (.inl 0) := (e116 200 5 (by first | decide | omega)).trans k10
  have k21 : ai_hv t116 206 5 = some (.inl 0) := (e116 206 5 (by first | decide | omega)).trans k11
  have k22 : ai_hv t116 212 5 = some (.inl 0) := (e116 212 5 (by first | decide | omega)).trans k12
  have k23 : ai_hv t116 218 5 = some (.inl 0) := (e116 218 5 (by first | decide | omega)).trans k13
  have k24 : ai_hv t116 224 5 = some (.inl 0) := (e116 224 5 (by first | decide | omega)).trans k14
  have k25 : ai_hv t116 191 2 = some (.inl 2) := (e116 191 2 (by first | decide | omega)).trans k15
  have k26 : ai_hv t116 7 4 = some (.inl 0) := (e116 7 4 (by first | decide | omega)).trans k106
  refine ex_go (S := (23, [(0, gx_r 7), (1, gx_r 191)], [gx_r 7], t116, n, 0)) rfl (fun _ => rfl) rfl ?_
  refine ex_go (S := (24, [(0, gx_r 7), (1, gx_r 191)], [.inl 0, gx_r 7], t116, n, 0)) rfl (fun _ => rfl) rfl ?_
  refine gxo_put (a := 7) rfl g116 rfl rfl rfl (ai_in_h (by first | decide | omega) (by first | decide | omega) (by first | decide | omega)) rfl (fun t127 g127 k127 e127 => ?_)
  have k28 : ai_hv t127 1 0 = some (.inl m) := (e127 1 0 (by first | decide | omega)).trans k17
  have k29 : ai_hv t127 7 1 = some (gx_r 191) := (e127 7 1 (by first | decide | omega)).trans k18
  have k30 : ai_hv t127 194 5 = some (.inl 0) := (e127 194 5 (by first | decide | omega)).trans k19
  have k31 : ai_hv t127 200 5 = some (.inl 0) := (e127 200 5 (by first | decide | omega)).trans k20
  have k32 : ai_hv t127 206 5 = some (.inl 0) := (e127 206 5 (by first | decide | omega)).trans k21
  have k33 : ai_hv t127 212 5 = some (.inl 0) := (e127 212 5 (by first | decide | omega)).trans k22
  have k34 : ai_hv t127 218 5 = some (.inl 0) := (e127 218 5 (by first | decide | omega)).trans k23
  have k35 : ai_hv t127 224 5 = some (.inl 0) := (e127 224 5 (by first | decide | omega)).trans k24
  have k36 : ai_hv t127 191 2 = some (.inl 2) := (e127 191 2 (by first | decide | omega)).trans k25
  have k37 : ai_hv t127 7 4 = some (.inl 0) := (e127 7 4 (by first | decide | omega)).trans k26
  have k38 : ai_hv t127 7 5 = some (.inl 0) := (e127 7 5 (by first | decide | omega)).trans k116
  refine ex_go (S := (28, [(0, gx_r 7), (1, gx_r 191)], [gx_r 7], t127, n, 0)) rfl (fun _ => rfl) rfl ?_
  refine ex_go (S := (29, [(0, gx_r 7), (1, gx_r 191)], [.inl 0, gx_r 7], t127, n, 0)) rfl (fun _ => rfl) rfl ?_
  refine gxo_put (a := 7) rfl g127 rfl rfl rfl (ai_in_h (by first | decide | omega) (by first | decide | omega) (by first | decide | omega)) rfl (fun t139 g139 k139 e139 => ?_)
  have k40 : ai_hv t139 1 0 = some (.inl m) := (e139 1 0 (by first | decide | omega)).trans k28
  have k41 : ai_hv t139 7 1 = some (gx_r 191) := (e139 7 1 (by first | decide | omega)).trans k29
  have k42 : ai_hv t139 194 5 = some (.inl 0) := (e139 194 5 (by first | decide | omega)).trans k30
  have k43 : ai_hv t139 200 5 = some (.inl 0) := (e139 200 5 (by first | decide | omega)).trans k31
  have k44 : ai_hv t139 206 5 = some (.inl 0) := (e139 206 5 (by first | decide | omega)).trans k32
  have k45 : ai_hv t139 212 5 = some (.inl 0) := (e139 212 5 (by first | decide | omega)).trans k33
  have k46 : ai_hv t139 218 5 = some (.inl 0) := (e139 218 5 (by first | decide | omega)).trans k34
  have k47 : ai_hv t139 224 5 = some (.inl 0) := (e139 224 5 (by first | decide | omega)).trans k35
  have k48 : ai_hv t139 191 2 = some (.inl 2) := (e139 191 2 (by first | decide | omega)).trans k36
  have k49 : ai_hv t139 7 4 = some (.inl 0) := (e139 7 4 (by first | decide | omega)).trans k37
  have k50 : ai_hv t139 7 5 = some (.inl 0) := (e139 7 5 (by first | decide | omega)).trans k38
  have k51 : ai_hv t139 7 6 = some (.inl 0) := (e139 7 6 (by first | decide | omega)).trans k127
  refine ex_go (S := (33, [(0, gx_r 7), (1, gx_r 191)], [gx_r 7], t139, n, 0)) rfl (fun _ => rfl) rfl ?_
  refine gxo_ref (a := 7) (c := 1) rfl g139 rfl rfl rfl rfl rfl ?_
  obtain ⟨_, r152, t152, rfl, g152, k0_152, k1_152, k8_152, e152, N, hNm, hC1, hC2, hC3, hC4, hC5, hC6⟩ := pc_cut (d + 35) n (m := m) g139 hm k40 (fun i hi => ⟨((e139 2 i (by first | decide | omega)).trans ((e127 2 i (by first | decide | omega)).trans ((e116 2 i (by first | decide | omega)).trans ((e106 2 i (by first | decide | omega)).trans ((e103 2 i (by first | decide | omega)).trans (e101 2 i (by first | decide | omega))))))).trans (hS i hi).1, (hS i hi).2⟩)
  have s152 : cS t152 0 0 := ⟨g152, k8_152, k1_152, by omega, by omega⟩
  have hT : cT t152 S m N := ⟨hC1, hC2, hC3, hC4, hC5, hC6, ⟨hNm, hm⟩, fun i hi => (hS i hi).2⟩
  have b152 := s152.2.2.2
  have hN := hT.2.2.2.2.2.2.1
  refine gx_callo (a := 1) rfl rfl g139 rfl rfl rfl r152 rfl ?_
  have k53 : ai_hv t152 7 1 = some (gx_r 191) := (e152 7 1 (by first | decide | omega)).trans k41
  have k54 : ai_hv t152 194 5 = some (.inl 0) := (e152 194 5 (by first | decide | omega)).trans k42
  have k55 : ai_hv t152 200 5 = some (.inl 0) := (e152 200 5 (by first | decide | omega)).trans k43
  have k56 : ai_hv t152 206 5 = some (.inl 0) := (e152 206 5 (by first | decide | omega)).trans k44
  have k57 : ai_hv t152 212 5 = some (.inl 0) := (e152 212 5 (by first | decide | omega)).trans k45
  have k58 : ai_hv t152 218 5 = some (.inl 0) := (e152 218 5 (by first | decide | omega)).trans k46
  have k59 : ai_hv t152 224 5 = some (.inl 0) := (e152 224 5 (by first | decide | omega)).trans k47
  have k60 : ai_hv t152 191 2 = some (.inl 2) := (e152 191 2 (by first | decide | omega)).trans k48
  have k61 : ai_hv t152 7 4 = some (.inl 0) := (e152 7 4 (by first | decide | omega)).trans k49
  have k62 : ai_hv t152 7 5 = some (.inl 0) := (e152 7 5 (by first | decide | omega)).trans k50
  have k63 : ai_hv t152 7 6 = some (.inl 0) := (e152 7 6 (by first | decide | omega)).trans k51
  have k64 : ai_hv t152 7 7 = some (.inl 0) := (e152 7 7 (by first | decide | omega)).trans k139
  show en_ex _ _ _ _ (39, [(0, gx_r 7), (1, gx_r 191)], [], t152, n, 0) _
  refine ex_go (S := (40, [(0, gx_r 7), (1, gx_r 191)], [gx_r 7], t152, n, 0)) rfl (fun _ => rfl) rfl ?_
  refine gxo_ref (a := 7) (c := 1) rfl s152.1 rfl rfl rfl rfl rfl ?_
  refine ex_go (S := (46, [(0, gx_r 7), (1, gx_r 191)], [gx_w 0, gx_r 1], t152, n, 0)) rfl (fun _ => rfl) rfl ?_
  obtain ⟨_, r165, t165, a165, f165, rfl, s165, e165, z165, q165⟩ := pc_takeWord (d + 38) n (s152) hT (by first | decide | omega) (w := 0) (by first | decide | omega)
  have b165 := s165.2.2.2
  have y165 := z165.trans (congrArg (fw S m N 0) (rfl : ((0 : Nat), (0 : Nat)) = (0, 0)))
  refine gx_callo (a := 1) rfl rfl s152.1 rfl rfl rfl r165 rfl ?_
  have k66 : ai_hv t165 7 1 = some (gx_r 191) := (e165 7 1 (by first | decide | omega)).trans k53
  have k67 : ai_hv t165 194 5 = some (.inl 0) := (e165 194 5 (by first | decide | omega)).trans k54
  have k68 : ai_hv t165 200 5 = some (.inl 0) := (e165 200 5 (by first | decide | omega)).trans k55
  have k69 : ai_hv t165 206 5 = some (.inl 0) := (e165 206 5 (by first | decide | omega)).trans k56
  have k70 : ai_hv t165 212 5 = some (.inl 0) := (e165 212 5 (by first | decide | omega)).trans k57
  have k71 : ai_hv t165 218 5 = some (.inl 0) := (e165 218 5 (by first | decide | omega)).trans k58
  have k72 : ai_hv t165 224 5 = some (.inl 0) := (e165 224 5 (by first | decide | omega)).trans k59
  have k73 : ai_hv t165 191 2 = some (.inl 2) := (e165 191 2 (by first | decide | omega)).trans k60
  have k74 : ai_hv t165 7 4 = some (.inl 0) := (e165 7 4 (by first | decide | omega)).trans k61
  have k75 : ai_hv t165 7 5 = some (.inl 0) := (e165 7 5 (by first | decide | omega)).trans k62
  have k76 : ai_hv t165 7 6 = some (.inl 0) := (e165 7 6 (by first | decide | omega)).trans k63
  have k77 : ai_hv t165 7 7 = some (.inl 0) := (e165 7 7 (by first | decide | omega)).trans k64
  show en_ex _ _ _ _ (49, [(0, gx_r 7), (1, gx_r 191)], [], t165, n, 0) _
  refine ex_go (S := (50, [(0, gx_r 7), (1, gx_r 191)], [gx_r 7], t165, n, 0)) rfl (fun _ => rfl) rfl ?_
  refine gxo_get (a := 7) rfl s165.1 rfl rfl k66 rfl ?_
  refine ex_go (S := (54, [(0, gx_r 7), (1, gx_r 191)], [gx_r 7, gx_r 191], t165, n, 0)) rfl (fun _ => rfl) rfl ?_
  refine gxo_ref (a := 7) (c := 1) rfl s165.1 rfl rfl rfl rfl rfl ?_
  refine ex_go (S := (58, [(0, gx_r 7), (1, gx_r 191)], [.inl 2, gx_r 1, gx_r 191], t165, n, 0)) rfl (fun _ => rfl) rfl ?_
  refine ex_go (S := (60, [(0, gx_r 7), (1, gx_r 191)], [.inl 8, .inl 2, gx_r 1, gx_r 191], t165, n, 0)) rfl (fun _ => rfl) rfl ?_
  have hT79 := cT_keep (t' := t165) hT (fun c i h => e165 c i (by first | decide | omega))
  obtain ⟨_, r178, v178, t178, a178, f178, rfl, s178, e178, z178, q178⟩ := pc_takeNumber (d + 38) n (s165) hT79 (by first | decide | omega) (lo := 2) (hi := 8) (by first | decide | omega) (by first | decide | omega) (by first | decide | omega)
  have b178 := s178.2.2.2
  have y178 := z178.trans (congrArg (fn S m N 2 8) y165)
  refine gx_callo (a := 1) rfl rfl s165.1 rfl rfl rfl r178 rfl ?_
  have k80 : ai_hv t178 7 1 = some (gx_r 191) := (e178 7 1 (by first | decide | omega)).trans k66
  have k81 : ai_hv t178 194 5 = some (.inl 0) := (e178 194 5 (by first | decide | omega)).trans k67
  have k82 : ai_hv t178 200 5 = some (.inl 0) := (e178 200 5 (by first | decide | omega)).trans k68
  have k83 : ai_hv t178 206 5 = some (.inl 0) := (e178 206 5 (by first | decide | omega)).trans k69
  have k84 : ai_hv t178 212 5 = some (.inl 0) := (e178 212 5 (by first | decide | omega)).trans k70
  have k85 : ai_hv t178 218 5 = some (.inl 0) := (e178 218 5 (by first | decide | omega)).trans k71
  have k86 : ai_hv t178 224 5 = some (.inl 0) := (e178 224 5 (by first | decide | omega)).trans k72
  have k87 : ai_hv t178 191 2 = some (.inl 2) := (e178 191 2 (by first | decide | omega)).trans k73
  have k88 : ai_hv t178 7 4 = some (.inl 0) := (e178 7 4 (by first | decide | omega)).trans k74
  have k89 : ai_hv t178 7 5 = some (.inl 0) := (e178 7 5 (by first | decide | omega)).trans k75
  have k90 : ai_hv t178 7 6 = some (.inl 0) := (e178 7 6 (by first | decide | omega)).trans k76
  have k91 : ai_hv t178 7 7 = some (.inl 0) := (e178 7 7 (by first | decide | omega)).trans k77
  show en_ex _ _ _ _ (63, [(0, gx_r 7), (1, gx_r 191)], [.inl v178, gx_r 191], t178, n, 0) _
  refine gxo_put (a := 191) rfl s178.1 rfl rfl rfl (gx_full (by first | decide | omega)) rfl (fun t192 g192 k192 e192 => ?_)
  have k93 : ai_hv t192 7 1 = some (gx_r 191) := (e192 7 1 (by first | decide | omega)).trans k80
  have k94 : ai_hv t192 194 5 = some (.inl 0) := (e192 194 5 (by first | decide | omega)).trans k81
  have k95 : ai_hv t192 200 5 = some (.inl 0) := (e192 200 5 (by first | decide | omega)).trans k82
  have k96 : ai_hv t192 206 5 = some (.inl 0) := (e192 206 5 (by first | decide | omega)).trans k83
  have k97 : ai_hv t192 212 5 = some (.inl 0) := (e192 212 5 (by first | decide | omega)).trans k84
  have k98 : ai_hv t192 218 5 = some (.inl 0) := (e192 218 5 (by first | decide | omega)).trans k85
  have k99 : ai_hv t192 224 5 = some (.inl 0) := (e192 224 5 (by first | decide | omega)).trans k86
  have k100 : ai_hv t192 191 2 = some (.inl 2) := (e192 191 2 (by first | decide | omega)).trans k87
  have k101 : ai_hv t192 7 4 = some (.inl 0) := (e192 7 4 (by first | decide | omega)).trans k88
  have k102 : ai_hv t192 7 5 = some (.inl 0) := (e192 7 5 (by first | decide | omega)).trans k89
  have k103 : ai_hv t192 7 6 = some (.inl 0) := (e192 7 6 (by first | decide | omega)).trans k90
  have k104 : ai_hv t192 7 7 = some (.inl 0) := (e192 7 7 (by first | decide | omega)).trans k91
  have s192 : cS t192 a178 f178 := ⟨g192, (e192 1 8 (by first | decide | omega)).trans s178.2.1, (e192 1 1 (by first | decide | omega)).trans s178.2.2.1, s178.2.2.2⟩
  refine ex_go (S := (67, [(0, gx_r 7), (1, gx_r 191)], [gx_r 7], t192, n, 0)) rfl (fun _ => rfl) rfl ?_
  refine gxo_get (a := 7) rfl s192.1 rfl rfl k93 rfl ?_
  refine ex_go (S := (71, [(0, gx_r 7), (1, gx_r 191)], [gx_r 7, gx_r 191], t192, n, 0)) rfl (fun _ => rfl) rfl ?_
  refine gxo_ref (a := 7) (c := 1) rfl s192.1 rfl rfl rfl rfl rfl ?_
  refine ex_go (S := (75, [(0, gx_r 7), (1, gx_r 191)], [.inl 2, gx_r 1, gx_r 191], t192, n, 0)) rfl (fun _ => rfl) rfl ?_
  refine ex_go (S := (77, [(0, gx_r 7), (1, gx_r 191)], [.inl 8, .inl 2, gx_r 1, gx_r 191], t192, n, 0)) rfl (fun _ => rfl) rfl ?_
  have hT106 := cT_keep (t' := t192) hT (fun c i h => (e192 c i (by first | decide | omega)).trans ((e178 c i (by first | decide | omega)).trans (e165 c i (by first | decide | omega))))
  obtain ⟨_, r205, v205, t205, a205, f205, rfl, s205, e205, z205, q205⟩ := pc_takeNumber (d + 38) n (s192) hT106 (by first | decide | omega) (lo := 2) (hi := 8) (by first | decide | omega) (by first | decide | omega) (by first | decide | omega)
  have b205 := s205.2.2.2
  have y205 := z205.trans (congrArg (fn S m N 2 8) y178)
  refine gx_callo (a := 1) rfl rfl s192.1 rfl rfl rfl r205 rfl ?_
  have k107 : ai_hv t205 7 1 = some (gx_r 191) := (e205 7 1 (by first | decide | omega)).trans k93
  have k108 : ai_hv t205 194 5 = some (.inl 0) := (e205 194 5 (by first | decide | omega)).trans k94
  have k109 : ai_hv t205 200 5 = some (.inl 0) := (e205 200 5 (by first | decide | omega)).trans k95
  have k110 : ai_hv t205 206 5 = some (.inl 0) := (e205 206 5 (by first | decide | omega)).trans k96
  have k111 : ai_hv t205 212 5 = some (.inl 0) := (e205 212 5 (by first | decide | omega)).trans k97
  have k112 : ai_hv t205 218 5 = some (.inl 0) := (e205 218 5 (by first | decide | omega)).trans k98
  have k113 : ai_hv t205 224 5 = some (.inl 0) := (e205 224 5 (by first | decide | omega)).trans k99
  have k114 : ai_hv t205 191 2 = some (.inl 2) := (e205 191 2 (by first | decide | omega)).trans k100
  have k115 : ai_hv t205 7 4 = some (.inl 0) := (e205 7 4 (by first | decide | omega)).trans k101
  have k116 : ai_hv t205 7 5 = some (.inl 0) := (e205 7 5 (by first | decide | omega)).trans k102
  have k117 : ai_hv t205 7 6 = some (.inl 0) := (e205 7 6 (by first | decide | omega)).trans k103
  have k118 : ai_hv t205 7 7 = some (.inl 0) := (e205 7 7 (by first | decide | omega)).trans k104
  have k119 : ai_hv t205 191 0 = some (.inl v178) := (e205 191 0 (by first | decide | omega)).trans k192
  show en_ex _ _ _ _ (80, [(0, gx_r 7), (1, gx_r 191)], [.inl v205, gx_r 191], t205, n, 0) _
  refine gxo_put (a := 191) rfl s205.1 rfl rfl rfl (gx_full (by first | decide | omega)) rfl (fun t220 g220 k220 e220 => ?_)
  have k121 : ai_hv t220 7 1 = some (gx_r 191) := (e220 7 1 (by first | decide | omega)).trans k107
  have k122 : ai_hv t220 194 5 = some (.inl 0) := (e220 194 5 (by first | decide | omega)).trans k108
  have k123 : ai_hv t220 200 5 = some (.inl 0) := (e220 200 5 (by first | decide | omega)).trans k109
  have k124 : ai_hv t220 206 5 = some (.inl 0) := (e220 206 5 (by first | decide | omega)).trans k110
  have k125 : ai_hv t220 212 5 = some (.inl 0) := (e220 212 5 (by first | decide | omega)).trans k111
  have k126 : ai_hv t220 218 5 = some (.inl 0) := (e220 218 5 (by first | decide | omega)).trans k112
  have k127 : ai_hv t220 224 5 = some (.inl 0) := (e220 224 5 (by first | decide | omega)).trans k113
  have k128 : ai_hv t220 191 2 = some (.inl 2) := (e220 191 2 (by first | decide | omega)).trans k114
  have k129 : ai_hv t220 7 4 = some (.inl 0) := (e220 7 4 (by first | decide | omega)).trans k115
  have k130 : ai_hv t220 7 5 = some (.inl 0) := (e220 7 5 (by first | decide | omega)).trans k116
  have k131 : ai_hv t220 7 6 = some (.inl 0) := (e220 7 6 (by first | decide | omega)).trans k117
  have k132 : ai_hv t220 7 7 = some (.inl 0) := (e220 7 7 (by first | decide | omega)).trans k118
  have k133 : ai_hv t220 191 0 = some (.inl v178) := (e220 191 0 (by first | decide | omega)).trans k119
  have s220 : cS t220 a205 f205 := ⟨g220, (e220 1 8 (by first | decide | omega)).trans s205.2.1, (e220 1 1 (by first | decide | omega)).trans s205.2.2.1, s205.2.2.2⟩
  refine ex_go (S := (84, [(0, gx_r 7), (1, gx_r 191)], [gx_r 7], t220, n, 0)) rfl (fun _ => rfl) rfl ?_
  refine gxo_ref (a := 7) (c := 1) rfl s220.1 rfl rfl rfl rfl rfl ?_
  refine ex_go (S := (89, [(0, gx_r 7), (1, gx_r 191)], [.inl 59, gx_r 1], t220, n, 0)) rfl (fun _ => rfl) rfl ?_
  have hT135 := cT_keep (t' := t220) hT (fun c i h => (e220 c i (by first | decide | omega)).trans ((e205 c i (by first | decide | omega)).trans ((e192 c i (by first | decide | omega)).trans ((e178 c i (by first | decide | omega)).trans (e165 c i (by first | decide | omega))))))
  obtain ⟨_, r234, t234, a234, f234, rfl, s234, e234, z234, q234⟩ := pc_takeSign (d + 38) n (s220) hT135 (by first | decide | omega) (w := 59) (by first | decide | omega)
  have b234 := s234.2.2.2
  have y234 := z234.trans (congrArg (fs S m N 59) y205)
  refine gx_callo (a := 1) rfl rfl s220.1 rfl rfl rfl r234 rfl ?_
  have k136 : ai_hv t234 7 1 = some (gx_r 191) := (e234 7 1 (by first | decide | omega)).trans k121
  have k137 : ai_hv t234 194 5 = some (.inl 0) := (e234 194 5 (by first | decide | omega)).trans k122
  have k138 : ai_hv t234 200 5 = some (.inl 0) := (e234 200 5 (by first | decide | omega)).trans k123
  have k139 : ai_hv t234 206 5 = some (.inl 0) := (e234 206 5 (by first | decide | omega)).trans k124
  have k140 : ai_hv t234 212 5 = some (.inl 0) := (e234 212 5 (by first | decide | omega)).trans k125
  have k141 : ai_hv t234 218 5 = some (.inl 0) := (e234 218 5 (by first | decide | omega)).trans k126
  have k142 : ai_hv t234 224 5 = some (.inl 0) := (e234 224 5 (by first | decide | omega)).trans k127
  have k143 : ai_hv t234 191 2 = some (.inl 2) := (e234 191 2 (by first | decide | omega)).trans k128
  have k144 : ai_hv t234 7 4 = some (.inl 0) := (e234 7 4 (by first | decide | omega)).trans k129
  have k145 : ai_hv t234 7 5 = some (.inl 0) := (e234 7 5 (by first | decide | omega)).trans k130
  have k146 : ai_hv t234 7 6 = some (.inl 0) := (e234 7 6 (by first | decide | omega)).trans k131
  have k147 : ai_hv t234 7 7 = some (.inl 0) := (e234 7 7 (by first | decide | omega)).trans k132
  have k148 : ai_hv t234 191 0 = some (.inl v178) := (e234 191 0 (by first | decide | omega)).trans k133
  have k149 : ai_hv t234 191 1 = some (.inl v205) := (e234 191 1 (by first | decide | omega)).trans k220
  show en_ex _ _ _ _ (92, [(0, gx_r 7), (1, gx_r 191)], [], t234, n, 0) _
  refine ex_go (S := (93, [(0, gx_r 7), (1, gx_r 191)], [.inl 0], t234, n, 0)) rfl (fun _ => rfl) rfl ?_
  refine ex_go (S := (94, [(2, .inl 0), (0, gx_r 7), (1, gx_r 191)], [], t234, n, 0)) rfl (fun _ => rfl) rfl ?_
  have hv1 : f234 = 0 → v178 = sp_nv S m 1 ∧ 2 ≤ v178 ∧ v178 ≤ 8 := fun z => by
    have h9 : a165 = 1 := by omega
    rw [← h9]; omega
  have hv2 : f234 = 0 → v205 = sp_nv S m 2 ∧ 2 ≤ v205 ∧ v205 ≤ 8 := fun z => by
    have h9 : a178 = 2 := by omega
    rw [← h9]; omega
  have hT150 := cT_keep (t' := t234) hT (fun c i h => (e234 c i (by first | decide | omega)).trans ((e220 c i (by first | decide | omega)).trans ((e205 c i (by first | decide | omega)).trans ((e192 c i (by first | decide | omega)).trans ((e178 c i (by first | decide | omega)).trans (e165 c i (by first | decide | omega)))))))
  refine pc_pack191_l d n (tb := t0) (K := 1001) (σ0 := sg_0 S m) (p0 := sl_0 S m N) (fun k1 t1 a1 f1 s1 hT1 hP1 w1 hO1 hPk => ?_) 1000 0 (sg_0 S m) t234 a234 f234 (by first | decide | omega) (by first | decide | omega) s234 hT150 (by first | decide | omega) k136 (fun c i h => (e234 c i (by first | decide | omega)).trans ((e220 c i (by first | decide | omega)).trans ((e205 c i (by first | decide | omega)).trans ((e192 c i (by first | decide | omega)).trans ((e178 c i (by first | decide | omega)).trans ((e165 c i (by first | decide | omega)).trans ((e152 c i (by first | decide | omega)).trans ((e139 c i (by first | decide | omega)).trans ((e127 c i (by first | decide | omega)).trans ((e116 c i (by first | decide | omega)).trans ((e106 c i (by first | decide | omega)).trans ((e103 c i (by first | decide | omega)).trans (e101 c i (by first | decide | omega)))))))))))))) (fun h0 => ⟨?_, W3_0 (by have := hv1 h0; omega) (by have := hv2 h0; omega), fun k hk => ⟨[cdf k], Or.inr ⟨rfl, rfl⟩, ?_⟩⟩) (fun f1 h1 => by unfold sl_0; rw [← y234]; exact h1) (fun υ h1 => by unfold sl_0; rw [← y234]; exact h1)
  · exact pc_readPack191_t d n hE h28 s1 hT1 hP1 w1 hO1 hPk hJ
  · refine ⟨⟨?_, ?_, k137, k138, k139, k140, k141, k142, k144, k145, k146, k147⟩, fun i hi => absurd hi (Nat.not_lt_zero i), fun i hi => absurd hi (Nat.not_lt_zero i), fun i hi => absurd hi (Nat.not_lt_zero i), fun i hi => absurd hi (Nat.not_lt_zero i), fun i hi => absurd hi (Nat.not_lt_zero i), fun i hi => absurd hi (Nat.not_lt_zero i), fun i hi => absurd hi (Nat.not_lt_zero i), fun i hi => absurd hi (Nat.not_lt_zero i), fun i hi => absurd hi (Nat.not_lt_zero i), fun i hi => absurd hi (Nat.not_lt_zero i), fun i hi => absurd hi (Nat.not_lt_zero i), fun i hi => absurd hi (Nat.not_lt_zero i), fun i hi => absurd hi (Nat.not_lt_zero i), fun i hi => absurd hi (Nat.not_lt_zero i), fun i hi => absurd hi (Nat.not_lt_zero i), fun i hi => absurd hi (Nat.not_lt_zero i), fun i hi => absurd hi (Nat.not_lt_zero i), fun i hi => absurd hi (Nat.not_lt_zero i), k143, fun i hi => ((e234 192 i (by first | decide | omega)).trans ((e220 192 i (by first | decide | omega)).trans ((e205 192 i (by first | decide | omega)).trans ((e192 192 i (by first | decide | omega)).trans ((e178 192 i (by first | decide | omega)).trans ((e165 192 i (by first | decide | omega)).trans ((e152 192 i (by first | decide | omega)).trans ((e139 192 i (by first | decide | omega)).trans ((e127 192 i (by first | decide | omega)).trans ((e116 192 i (by first | decide | omega)).trans (e106 192 i (by first | decide | omega)))))))))))).trans (z4 i hi)⟩
    · show _ = some (Sum.inl (sp_nv S m 1))
      rw [← (hv1 h0).1]; exact k148
    · show _ = some (Sum.inl (sp_nv S m 2))
      rw [← (hv2 h0).1]; exact k149
  · rcases (show k = 0 ∨ k = 1 ∨ k = 2 by omega) with rfl | rfl | rfl
    · exact CLs_keep hcl0 ((e234 230 2 (by first | decide | omega)).trans ((e220 230 2 (by first | decide | omega)).trans ((e205 230 2 (by first | decide | omega)).trans ((e192 230 2 (by first | decide | omega)).trans ((e178 230 2 (by first | decide | omega)).trans ((e165 230 2 (by first | decide | omega)).trans ((e152 230 2 (by first | decide | omega)).trans ((e139 230 2 (by first | decide | omega)).trans ((e127 230 2 (by first | decide | omega)).trans ((e116 230 2 (by first | decide | omega)).trans (e106 230 2 (by first | decide | omega)))))))))))) (fun j => (e234 232 j (by first | decide | omega)).trans ((e220 232 j (by first | decide | omega)).trans ((e205 232 j (by first | decide | omega)).trans ((e192 232 j (by first | decide | omega)).trans ((e178 232 j (by first | decide | omega)).trans ((e165 232 j (by first | decide | omega)).trans ((e152 232 j (by first | decide | omega)).trans ((e139 232 j (by first | decide | omega)).trans ((e127 232 j (by first | decide | omega)).trans ((e116 232 j (by first | decide | omega)).trans (e106 232 j (by first | decide | omega))))))))))))
    · exact CLs_keep hcl1 ((e234 233 2 (by first | decide | omega)).trans ((e220 233 2 (by first | decide | omega)).trans ((e205 233 2 (by first | decide | omega)).trans ((e192 233 2 (by first | decide | omega)).trans ((e178 233 2 (by first | decide | omega)).trans ((e165 233 2 (by first | decide | omega)).trans ((e152 233 2 (by first | decide | omega)).trans ((e139 233 2 (by first | decide | omega)).trans ((e127 233 2 (by first | decide | omega)).trans ((e116 233 2 (by first | decide | omega)).trans (e106 233 2 (by first | decide | omega)))))))))))) (fun j => (e234 235 j (by first | decide | omega)).trans ((e220 235 j (by first | decide | omega)).trans ((e205 235 j (by first | decide | omega)).trans ((e192 235 j (by first | decide | omega)).trans ((e178 235 j (by first | decide | omega)).trans ((e165 235 j (by first | decide | omega)).trans ((e152 235 j (by first | decide | omega)).trans ((e139 235 j (by first | decide | omega)).trans ((e127 235 j (by first | decide | omega)).trans ((e116 235 j (by first | decide | omega)).trans (e106 235 j (by first | decide | omega))))))))))))
    · exact CLs_keep hcl2 ((e234 236 2 (by first | decide | omega)).trans ((e220 236 2 (by first | decide | omega)).trans ((e205 236 2 (by first | decide | omega)).trans ((e192 236 2 (by first | decide | omega)).trans ((e178 236 2 (by first | decide | omega)).trans ((e165 236 2 (by first | decide | omega)).trans ((e152 236 2 (by first | decide | omega)).trans ((e139 236 2 (by first | decide | omega)).trans ((e127 236 2 (by first | decide | omega)).trans ((e116 236 2 (by first | decide | omega)).trans (e106 236 2 (by first | decide | omega)))))))))))) (fun j => (e234 238 j (by first | decide | omega)).trans ((e220 238 j (by first | decide | omega)).trans ((e205 238 j (by first | decide | omega)).trans ((e192 238 j (by first | decide | omega)).trans ((e178 238 j (by first | decide | omega)).trans ((e165 238 j (by first | decide | omega)).trans ((e152 238 j (by first | decide | omega)).trans ((e139 238 j (by first | decide | omega)).trans ((e127 238 j (by first | decide | omega)).trans ((e116 238 j (by first | decide | omega)).trans (e106 238 j (by first | decide | omega))))))))))))
theorem beg_z191_2 {q : Nat × Nat × Nat} (hq : q ∈ ct_21_2.2.2.2.1) (h1 : q.1 = 0) : False := by
  have hall : (ct_21_2.2.2.2.1).all (fun q => Nat.ble 8 q.1) = true := by decide +kernel
  have h9 := Nat.le_of_ble_eq_true (List.all_eq_true.mp hall q hq)
  omega
theorem beg_out191_2 {q : Nat × Nat × Nat} {c i : Nat} (hq : q ∈ ct_21_2.2.2.2.1) (h1 : q.1 = c) (h : (c = 7 ∧ 4 ≤ i) ∨ c = 191 ∧ i ≤ 2 ∨ c = 191 + 1 ∨ (191 + 3 ≤ c ∧ c ≤ 191 + 47)) : False := by
  have hall : (ct_21_2.2.2.2.1).all (fun q => (Nat.ble 8 q.1 && Nat.ble q.1 139) || Nat.ble 323 q.1) = true := by decide +kernel
  have h9 := List.all_eq_true.mp hall q hq
  rw [Bool.or_eq_true, Bool.and_eq_true] at h9
  rcases h9 with ⟨h9, h8⟩ | h9
  · have e1 := Nat.le_of_ble_eq_true h9
    have e2 := Nat.le_of_ble_eq_true h8
    omega
  · have e1 := Nat.le_of_ble_eq_true h9
    omega
theorem pc_pack191_0 (d n : Nat) {t0 : en_H} {S : Nat → Nat} {m : Nat} (g0 : ai_HG ah_G t0) (hE : ai_E t0) (h28 : c28 t0 257) (k10 : ai_hv t0 0 10 = some (gx_r 257)) (k11 : ai_hv t0 0 11 = some (gx_r 191)) (k12 : ai_hv t0 0 12 = some (gx_r 323)) (hm : m ≤ 1000) (km : ai_hv t0 1 0 = some (.inl m)) (hS : ∀ i, i < m → ai_hv t0 2 i = some (.inl (S i)) ∧ S i ≤ 127) (hJ : JRw t0 191) : ∃ r, en_u (d + 42) 32 [gx_r 0] t0 n = some r ∧ ∃ v t', r = (some (.inl v), t', n, 0) ∧ v < 2147483648 ∧ ∃ N, (∀ j, j < N → sp_st S m j < m) ∧ sp_st S m N = m ∧ Pk S m N 1001 (sg_0 S m) (sl_0 S m N) v ∧ (v = 0 → (∃ υ, Pt S m N 1001 (sg_0 S m) (sl_0 S m N) υ ∧ W3 S m N υ ∧ CA t' 191 S m υ ∧ CLw t' 191 S m N υ) ∧ ai_hv t' 0 10 = some (gx_r 191)) ∧ (v ≠ 0 → ai_hv t' 0 10 = some (gx_r 257) ∧ ∀ c i, 257 ≤ c → c ≤ 304 → ai_hv t' c i = ai_hv t0 c i) := by
  refine en_u_ex (d := d + 41) rfl ?_
  show en_ex _ _ _ _ (0, [(0, gx_r 0)], [], t0, n, 0) _
  refine ex_go (S := (1, [(0, gx_r 0)], [gx_r 0], t0, n, 0)) rfl (fun _ => rfl) rfl ?_
  refine gxo_ref (a := 0) (c := 7) rfl g0 rfl rfl rfl rfl rfl ?_
  refine ex_go (S := (5, [(0, gx_r 0)], [gx_r 0, gx_r 7], t0, n, 0)) rfl (fun _ => rfl) rfl ?_
  refine gxo_get (a := 0) rfl g0 rfl rfl k11 rfl ?_
  obtain ⟨_, r101, v101, t101, rfl, hv101, g101, E101, f0_101, hq0, N, hN1, hN2, hPk, hTl⟩ := pc_readPack191 d n (m := m) g0 hE h28 hm km hS (hJ)
  refine gx_callo (a := 7) rfl rfl g0 rfl rfl rfl r101 rfl ?_
  have e101 : ∀ c i, ¬ (c ≠ 0) → ai_hv t101 c i = ai_hv t0 c i := fun c i h => by rw [show c = 0 by omega]; exact f0_101 i
  have k2 : ai_hv t101 0 10 = some (gx_r 257) := (e101 0 10 (by first | decide | omega)).trans k10
  have k3 : ai_hv t101 0 11 = some (gx_r 191) := (e101 0 11 (by first | decide | omega)).trans k11
  have k4 : ai_hv t101 0 12 = some (gx_r 323) := (e101 0 12 (by first | decide | omega)).trans k12
  show en_ex _ _ _ _ (11, [(0, gx_r 0)], [.inl v101], t101, n, 0) _
  refine ex_go (S := (12, [(1, .inl v101), (0, gx_r 0)], [], t101, n, 0)) rfl (fun _ => rfl) rfl ?_
  refine ex_go (S := (13, [(1, .inl v101), (0, gx_r 0)], [.inl v101], t101, n, 0)) rfl (fun _ => rfl) rfl ?_
  by_cases hc5 : v101 = 0
  · refine gx_1t (c := .eq) rfl (by first | decide | omega) hc5 rfl ?_
    refine ex_go (S := (19, [(1, .inl v101), (0, gx_r 0)], [gx_r 0], t101, n, 0)) rfl (fun _ => rfl) rfl ?_
    refine gxo_get (a := 0) rfl g101 rfl rfl k2 rfl ?_
    refine ex_go (S := (23, [(2, gx_r 257), (1, .inl v101), (0, gx_r 0)], [], t101, n, 0)) rfl (fun _ => rfl) rfl ?_
    refine ex_go (S := (24, [(2, gx_r 257), (1, .inl v101), (0, gx_r 0)], [gx_r 0], t101, n, 0)) rfl (fun _ => rfl) rfl ?_
    refine ex_go (S := (25, [(2, gx_r 257), (1, .inl v101), (0, gx_r 0)], [gx_r 0, gx_r 0], t101, n, 0)) rfl (fun _ => rfl) rfl ?_
    refine gxo_get (a := 0) rfl g101 rfl rfl k3 rfl ?_
    refine gxo_putr (a := 0) (h := .inr (.inr [291, 357])) rfl g101 rfl rfl rfl (refin_r (by decide)) rfl (fun t106 g106 k106 e106 => ?_)
    have k7 : ai_hv t106 0 11 = some (gx_r 191) := (e106 0 11 (by first | decide | omega)).trans k3
    have k8 : ai_hv t106 0 12 = some (gx_r 323) := (e106 0 12 (by first | decide | omega)).trans k4
    refine ex_go (S := (32, [(2, gx_r 257), (1, .inl v101), (0, gx_r 0)], [gx_r 0], t106, n, 0)) rfl (fun _ => rfl) rfl ?_
    refine ex_go (S := (33, [(2, gx_r 257), (1, .inl v101), (0, gx_r 0)], [gx_r 257, gx_r 0], t106, n, 0)) rfl (fun _ => rfl) rfl ?_
    refine gxo_putr (a := 0) (h := .inr (.inr [291, 357])) rfl g106 rfl rfl rfl (refin_r (by decide)) rfl (fun t109 g109 k109 e109 => ?_)
    have k10 : ai_hv t109 0 12 = some (gx_r 323) := (e109 0 12 (by first | decide | omega)).trans k8
    have k11 : ai_hv t109 0 10 = some (gx_r 191) := (e109 0 10 (by first | decide | omega)).trans k106
    refine ex_go (S := (37, [(2, gx_r 257), (1, .inl v101), (0, gx_r 0)], [gx_r 0], t109, n, 0)) rfl (fun _ => rfl) rfl ?_
    have E9 : ai_E t109 := ai_E_kept E101 (fun c i hz => by have h9 := frz_ge hz; exact (e109 c i (by first | decide | omega)).trans (e106 c i (by first | decide | omega)))
    obtain ⟨⟨rv112, t112, rn112, rs112⟩, r112, hn112, hs112, g112, fr112, E112b, o112, ho112, ro112, hh112⟩ := (ac_all (d + 41) 21 ce_21_2 (show ce_21_2 ∈ cm_21 from (List.mem_cons_of_mem _ (List.mem_cons_of_mem _ List.mem_cons_self))) (Nat.lt_of_lt_of_le (show ce_21_2.1 < 40 by decide) (by first | decide | omega))) (fun _ => 0) [gx_r 0] t109 n ⟨gx_vref 0, trivial⟩ g109 (fun q9 hq => by
      rcases List.mem_cons.mp hq with rfl | hq
      · exact ⟨_, k11, refin_r (by decide)⟩
      · rcases List.mem_cons.mp hq with rfl | hq
        · exact ⟨_, k10, refin_r (by decide)⟩
        · exact absurd hq List.not_mem_nil) E9
    have hn112 : n = rn112 := hn112.symm
    have hs112 : rs112 = 0 := hs112
    subst hn112 hs112
    have ho112 := List.mem_singleton.mp ho112
    subst ho112
    have hv112 : rv112 = none := by
      cases rv112 with
      | none => rfl
      | some w => exact ro112.elim
    subst hv112
    refine gx_callo (a := 0) rfl rfl g109 rfl rfl rfl r112 rfl ?_
    show en_ex _ _ _ _ (40, [(2, gx_r 257), (1, .inl v101), (0, gx_r 0)], [], t112, n, 0) _
    refine ex_go (S := (41, [(2, gx_r 257), (1, .inl v101), (0, gx_r 0)], [.inl 0], t112, n, 0)) rfl (fun _ => rfl) rfl ?_
    refine ex_ret (r := (some (.inl 0), t112, n, 0)) rfl (fun _ => rfl) ?_
    obtain ⟨⟨υ, u1, u2, u3, u4⟩, -⟩ := hTl (by first | decide | omega)
    exact ⟨_, rfl, 0, t112, rfl, by omega, N, hN1, hN2, by rw [show (0 : Nat) = v101 by omega]; exact hPk, fun _ => ⟨⟨υ, u1, u2, CA_keep2 (by first | decide | omega) u3 (fun c i h => (fr112 c i (fun z => by obtain ⟨q9, m1, m2, m3, m4⟩ := z; exact beg_out191_2 (c := c) (i := i) m1 m2 (by first | decide | omega))).trans ((e109 c i (by first | decide | omega)).trans (e106 c i (by first | decide | omega)))), CLw_keep u4 (fun c i l1 l2 => (fr112 c i (fun z => by obtain ⟨q9, m1, m2, m3, m4⟩ := z; exact beg_out191_2 (c := c) (i := i) m1 m2 (by first | decide | omega))).trans ((e109 c i (by first | decide | omega)).trans (e106 c i (by first | decide | omega)))) (fun _ => ⟨rfl, rfl⟩)⟩, (fr112 0 10 (fun z => by obtain ⟨q9, m1, m2, m3, m4⟩ := z; exact beg_z191_2 m1 m2)).trans k11⟩, fun z => absurd rfl z⟩
  · refine gx_1f (c := .eq) rfl (by first | decide | omega) hc5 rfl ?_
    refine ex_go (S := (17, [(1, .inl v101), (0, gx_r 0)], [.inl v101], t101, n, 0)) rfl (fun _ => rfl) rfl ?_
    refine ex_ret (r := (some (.inl v101), t101, n, 0)) rfl (fun _ => rfl) ?_
    exact ⟨_, rfl, v101, t101, rfl, by omega, N, hN1, hN2, hPk, (fun z => by omega), fun _ => ⟨k2, hq0⟩⟩
theorem beg_z191_3 {q : Nat × Nat × Nat} (hq : q ∈ ct_21_3.2.2.2.1) (h1 : q.1 = 0) : False := by
  have hall : (ct_21_3.2.2.2.1).all (fun q => Nat.ble 8 q.1) = true := by decide +kernel
  have h9 := Nat.le_of_ble_eq_true (List.all_eq_true.mp hall q hq)
  omega
theorem beg_out191_3 {q : Nat × Nat × Nat} {c i : Nat} (hq : q ∈ ct_21_3.2.2.2.1) (h1 : q.1 = c) (h : (c = 7 ∧ 4 ≤ i) ∨ c = 191 ∧ i ≤ 2 ∨ c = 191 + 1 ∨ (191 + 3 ≤ c ∧ c ≤ 191 + 47)) : False := by
  have hall : (ct_21_3.2.2.2.1).all (fun q => (Nat.ble 8 q.1 && Nat.ble q.1 139) || Nat.ble 323 q.1) = true := by decide +kernel
  have h9 := List.all_eq_true.mp hall q hq
  rw [Bool.or_eq_true, Bool.and_eq_true] at h9
  rcases h9 with ⟨h9, h8⟩ | h9
  · have e1 := Nat.le_of_ble_eq_true h9
    have e2 := Nat.le_of_ble_eq_true h8
    omega
  · have e1 := Nat.le_of_ble_eq_true h9
    omega
theorem pc_pack191_1 (d n : Nat) {t0 : en_H} {S : Nat → Nat} {m : Nat} (g0 : ai_HG ah_G t0) (hE : ai_E t0) (h28 : c28 t0 257) (k10 : ai_hv t0 0 10 = some (gx_r 257)) (k11 : ai_hv t0 0 11 = some (gx_r 191)) (k12 : ai_hv t0 0 12 = some (gx_r 329)) (hm : m ≤ 1000) (km : ai_hv t0 1 0 = some (.inl m)) (hS : ∀ i, i < m → ai_hv t0 2 i = some (.inl (S i)) ∧ S i ≤ 127) (hJ : JRw t0 191) : ∃ r, en_u (d + 42) 32 [gx_r 0] t0 n = some r ∧ ∃ v t', r = (some (.inl v), t', n, 0) ∧ v < 2147483648 ∧ ∃ N, (∀ j, j < N → sp_st S m j < m) ∧ sp_st S m N = m ∧ Pk S m N 1001 (sg_0 S m) (sl_0 S m N) v ∧ (v = 0 → (∃ υ, Pt S m N 1001 (sg_0 S m) (sl_0 S m N) υ ∧ W3 S m N υ ∧ CA t' 191 S m υ ∧ CLw t' 191 S m N υ) ∧ ai_hv t' 0 10 = some (gx_r 191)) ∧ (v ≠ 0 → ai_hv t' 0 10 = some (gx_r 257) ∧ ∀ c i, 257 ≤ c → c ≤ 304 → ai_hv t' c i = ai_hv t0 c i) := by
  refine en_u_ex (d := d + 41) rfl ?_
  show en_ex _ _ _ _ (0, [(0, gx_r 0)], [], t0, n, 0) _
  refine ex_go (S := (1, [(0, gx_r 0)], [gx_r 0], t0, n, 0)) rfl (fun _ => rfl) rfl ?_
  refine gxo_ref (a := 0) (c := 7) rfl g0 rfl rfl rfl rfl rfl ?_
  refine ex_go (S := (5, [(0, gx_r 0)], [gx_r 0, gx_r 7], t0, n, 0)) rfl (fun _ => rfl) rfl ?_
  refine gxo_get (a := 0) rfl g0 rfl rfl k11 rfl ?_
  obtain ⟨_, r101, v101, t101, rfl, hv101, g101, E101, f0_101, hq0, N, hN1, hN2, hPk, hTl⟩ := pc_readPack191 d n (m := m) g0 hE h28 hm km hS (hJ)
  refine gx_callo (a := 7) rfl rfl g0 rfl rfl rfl r101 rfl ?_
  have e101 : ∀ c i, ¬ (c ≠ 0) → ai_hv t101 c i = ai_hv t0 c i := fun c i h => by rw [show c = 0 by omega]; exact f0_101 i
  have k2 : ai_hv t101 0 10 = some (gx_r 257) := (e101 0 10 (by first | decide | omega)).trans k10
  have k3 : ai_hv t101 0 11 = some (gx_r 191) := (e101 0 11 (by first | decide | omega)).trans k11
  have k4 : ai_hv t101 0 12 = some (gx_r 329) := (e101 0 12 (by first | decide | omega)).trans k12
  show en_ex _ _ _ _ (11, [(0, gx_r 0)], [.inl v101], t101, n, 0) _
  refine ex_go (S := (12, [(1, .inl v101), (0, gx_r 0)], [], t101, n, 0)) rfl (fun _ => rfl) rfl ?_
  refine ex_go (S := (13, [(1, .inl v101), (0, gx_r 0)], [.inl v101], t101, n, 0)) rfl (fun _ => rfl) rfl ?_
  by_cases hc5 : v101 = 0
  · refine gx_1t (c := .eq) rfl (by first | decide | omega) hc5 rfl ?_
    refine ex_go (S := (19, [(1, .inl v101), (0, gx_r 0)], [gx_r 0], t101, n, 0)) rfl (fun _ => rfl) rfl ?_
    refine gxo_get (a := 0) rfl g101 rfl rfl k2 rfl ?_
    refine ex_go (S := (23, [(2, gx_r 257), (1, .inl v101), (0, gx_r 0)], [], t101, n, 0)) rfl (fun _ => rfl) rfl ?_
    refine ex_go (S := (24, [(2, gx_r 257), (1, .inl v101), (0, gx_r 0)], [gx_r 0], t101, n, 0)) rfl (fun _ => rfl) rfl ?_
    refine ex_go (S := (25, [(2, gx_r 257), (1, .inl v101), (0, gx_r 0)], [gx_r 0, gx_r 0], t101, n, 0)) rfl (fun _ => rfl) rfl ?_
    refine gxo_get (a := 0) rfl g101 rfl rfl k3 rfl ?_
    refine gxo_putr (a := 0) (h := .inr (.inr [291, 357])) rfl g101 rfl rfl rfl (refin_r (by decide)) rfl (fun t106 g106 k106 e106 => ?_)
    have k7 : ai_hv t106 0 11 = some (gx_r 191) := (e106 0 11 (by first | decide | omega)).trans k3
    have k8 : ai_hv t106 0 12 = some (gx_r 329) := (e106 0 12 (by first | decide | omega)).trans k4
    refine ex_go (S := (32, [(2, gx_r 257), (1, .inl v101), (0, gx_r 0)], [gx_r 0], t106, n, 0)) rfl (fun _ => rfl) rfl ?_
    refine ex_go (S := (33, [(2, gx_r 257), (1, .inl v101), (0, gx_r 0)], [gx_r 257, gx_r 0], t106, n, 0)) rfl (fun _ => rfl) rfl ?_
    refine gxo_putr (a := 0) (h := .inr (.inr [291, 357])) rfl g106 rfl rfl rfl (refin_r (by decide)) rfl (fun t109 g109 k109 e109 => ?_)
    have k10 : ai_hv t109 0 12 = some (gx_r 329) := (e109 0 12 (by first | decide | omega)).trans k8
    have k11 : ai_hv t109 0 10 = some (gx_r 191) := (e109 0 10 (by first | decide | omega)).trans k106
    refine ex_go (S := (37, [(2, gx_r 257), (1, .inl v101), (0, gx_r 0)], [gx_r 0], t109, n, 0)) rfl (fun _ => rfl) rfl ?_
    have E9 : ai_E t109 := ai_E_kept E101 (fun c i hz => by have h9 := frz_ge hz; exact (e109 c i (by first | decide | omega)).trans (e106 c i (by first | decide | omega)))
    obtain ⟨⟨rv112, t112, rn112, rs112⟩, r112, hn112, hs112, g112, fr112, E112b, o112, ho112, ro112, hh112⟩ := (ac_all (d + 41) 21 ce_21_3 (show ce_21_3 ∈ cm_21 from (List.mem_cons_of_mem _ (List.mem_cons_of_mem _ (List.mem_cons_of_mem _ List.mem_cons_self)))) (Nat.lt_of_lt_of_le (show ce_21_3.1 < 40 by decide) (by first | decide | omega))) (fun _ => 0) [gx_r 0] t109 n ⟨gx_vref 0, trivial⟩ g109 (fun q9 hq => by
      rcases List.mem_cons.mp hq with rfl | hq
      · exact ⟨_, k11, refin_r (by decide)⟩
      · rcases List.mem_cons.mp hq with rfl | hq
        · exact ⟨_, k10, refin_r (by decide)⟩
        · exact absurd hq List.not_mem_nil) E9
    have hn112 : n = rn112 := hn112.symm
    have hs112 : rs112 = 0 := hs112
    subst hn112 hs112
    have ho112 := List.mem_singleton.mp ho112
    subst ho112
    have hv112 : rv112 = none := by
      cases rv112 with
      | none => rfl
      | some w => exact ro112.elim
    subst hv112
    refine gx_callo (a := 0) rfl rfl g109 rfl rfl rfl r112 rfl ?_
    show en_ex _ _ _ _ (40, [(2, gx_r 257), (1, .inl v101), (0, gx_r 0)], [], t112, n, 0) _
    refine ex_go (S := (41, [(2, gx_r 257), (1, .inl v101), (0, gx_r 0)], [.inl 0], t112, n, 0)) rfl (fun _ => rfl) rfl ?_
    refine ex_ret (r := (some (.inl 0), t112, n, 0)) rfl (fun _ => rfl) ?_
    obtain ⟨⟨υ, u1, u2, u3, u4⟩, -⟩ := hTl (by first | decide | omega)
    exact ⟨_, rfl, 0, t112, rfl, by omega, N, hN1, hN2, by rw [show (0 : Nat) = v101 by omega]; exact hPk, fun _ => ⟨⟨υ, u1, u2, CA_keep2 (by first | decide | omega) u3 (fun c i h => (fr112 c i (fun z => by obtain ⟨q9, m1, m2, m3, m4⟩ := z; exact beg_out191_3 (c := c) (i := i) m1 m2 (by first | decide | omega))).trans ((e109 c i (by first | decide | omega)).trans (e106 c i (by first | decide | omega)))), CLw_keep u4 (fun c i l1 l2 => (fr112 c i (fun z => by obtain ⟨q9, m1, m2, m3, m4⟩ := z; exact beg_out191_3 (c := c) (i := i) m1 m2 (by first | decide | omega))).trans ((e109 c i (by first | decide | omega)).trans (e106 c i (by first | decide | omega)))) (fun _ => ⟨rfl, rfl⟩)⟩, (fr112 0 10 (fun z => by obtain ⟨q9, m1, m2, m3, m4⟩ := z; exact beg_z191_3 m1 m2)).trans k11⟩, fun z => absurd rfl z⟩
  · refine gx_1f (c := .eq) rfl (by first | decide | omega) hc5 rfl ?_
    refine ex_go (S := (17, [(1, .inl v101), (0, gx_r 0)], [.inl v101], t101, n, 0)) rfl (fun _ => rfl) rfl ?_
    refine ex_ret (r := (some (.inl v101), t101, n, 0)) rfl (fun _ => rfl) ?_
    exact ⟨_, rfl, v101, t101, rfl, by omega, N, hN1, hN2, hPk, (fun z => by omega), fun _ => ⟨k2, hq0⟩⟩
theorem pc_pack257_l (d n : Nat) {tb : en_H} {S : Nat → Nat} {m N K : Nat} {σ0 : Nat → Nat → Nat} {p0 : Nat × Nat} {Q : en_O → Prop} (hQ : ∀ k t1 a1 f1, cS t1 a1 f1 → cT t1 S m N → ai_hv t1 7 1 = some (gx_r 257) → cV 257 tb t1 → (f1 = 0 → ∃ σ, CA t1 257 S m σ ∧ W3 S m N σ ∧ Pt S m N K σ0 p0 σ ∧ CLw t1 257 S m N σ) → Pk S m N K σ0 p0 f1 → en_ex none (en_u (d + 40)) (en_code 92) (fun _ => false) (128, [(2, .inl k), (0, gx_r 7), (1, gx_r 257)], [], t1, n, 0) Q) : ∀ j i σ t0 a f, i + j = 1000 → (f = 0 → i ≤ a) → cS t0 a f → cT t0 S m N → a ≤ N → ai_hv t0 7 1 = some (gx_r 257) → cV 257 tb t0 → (f = 0 → CA t0 257 S m σ ∧ W3 S m N σ ∧ CLw t0 257 S m N σ) → (∀ f1, Pk S m N (j + 1) σ (a, f) f1 → Pk S m N K σ0 p0 f1) → (∀ υ, Pt S m N (j + 1) σ (a, f) υ → Pt S m N K σ0 p0 υ) → en_ex none (en_u (d + 40)) (en_code 92) (fun _ => false) (94, [(2, .inl i), (0, gx_r 7), (1, gx_r 257)], [], t0, n, 0) Q := by
  intro j
  induction j with
  | zero =>
    intro i σ t0 a f hi hia s0 hT ha hP w0 hO hPk hPt
    have b0 := s0.2.2.2
    have hN := hT.2.2.2.2.2.2.1
    refine ex_go (S := (95, [(2, .inl i), (0, gx_r 7), (1, gx_r 257)], [.inl i], t0, n, 0)) rfl (fun _ => rfl) rfl ?_
    refine ex_go (S := (98, [(2, .inl i), (0, gx_r 7), (1, gx_r 257)], [.inl 1000, .inl i], t0, n, 0)) rfl (fun _ => rfl) rfl ?_
    refine gx_2t (c := .ge) rfl (by first | decide | omega) (by first | decide | omega) (show 1000 ≤ i from by omega) rfl ?_
    exact hQ i t0 a f s0 hT hP w0 (fun h0 => ⟨σ, (hO h0).1, (hO h0).2.1, hPt σ (Or.inl ⟨h0, by have := hia h0; show N ≤ a; omega, rfl⟩), (hO h0).2.2⟩) (hPk f (by
      by_cases h0 : f = 0
      · exact Or.inr (Or.inl ⟨h0, by have := hia h0; show N ≤ a; omega, h0⟩)
      · exact Or.inl ⟨h0, rfl⟩))
  | succ j ih =>
    intro i σ t0 a f hi hia s0 hT ha hP w0 hO hPk hPt
    have b0 := s0.2.2.2
    have hN := hT.2.2.2.2.2.2.1
    refine ex_go (S := (95, [(2, .inl i), (0, gx_r 7), (1, gx_r 257)], [.inl i], t0, n, 0)) rfl (fun _ => rfl) rfl ?_
    refine ex_go (S := (98, [(2, .inl i), (0, gx_r 7), (1, gx_r 257)], [.inl 1000, .inl i], t0, n, 0)) rfl (fun _ => rfl) rfl ?_
    refine gx_2f (c := .ge) rfl (by first | decide | omega) (by first | decide | omega) (show ¬ (1000 ≤ i) from by omega) rfl ?_
    refine ex_go (S := (102, [(2, .inl i), (0, gx_r 7), (1, gx_r 257)], [gx_r 7], t0, n, 0)) rfl (fun _ => rfl) rfl ?_
    refine gxo_ref (a := 7) (c := 1) rfl s0.1 rfl rfl rfl rfl rfl ?_
    obtain ⟨_, r101, v101, rfl, q101⟩ := pc_goesOn (d + 39) n (s0) hT (by first | decide | omega) 
    refine gx_callo (a := 1) rfl rfl s0.1 rfl rfl rfl r101 rfl ?_
    show en_ex _ _ _ _ (108, [(2, .inl i), (0, gx_r 7), (1, gx_r 257)], [.inl v101], t0, n, 0) _
    by_cases hc2 : v101 = 0
    · refine gx_1t (c := .eq) rfl (by first | decide | omega) hc2 rfl ?_
      exact hQ i t0 a f s0 hT hP w0 (fun h0 => ⟨σ, (hO h0).1, (hO h0).2.1, hPt σ (Or.inl ⟨h0, by
        show N ≤ a
        by_cases h1 : a < N
        · exact absurd (q101.2.mpr ⟨h0, h1⟩) (by first | decide | omega)
        · omega, rfl⟩), (hO h0).2.2⟩) (hPk f (by
        by_cases h0 : f = 0
        · refine Or.inr (Or.inl ⟨h0, ?_, h0⟩)
          show N ≤ a
          by_cases h1 : a < N
          · exact absurd (q101.2.mpr ⟨h0, h1⟩) (by first | decide | omega)
          · omega
        · exact Or.inl ⟨h0, rfl⟩))
    · refine gx_1f (c := .eq) rfl (by first | decide | omega) hc2 rfl ?_
      refine ex_go (S := (112, [(2, .inl i), (0, gx_r 7), (1, gx_r 257)], [gx_r 7], t0, n, 0)) rfl (fun _ => rfl) rfl ?_
      refine ex_go (S := (113, [(2, .inl i), (0, gx_r 7), (1, gx_r 257)], [gx_r 7, gx_r 7], t0, n, 0)) rfl (fun _ => rfl) rfl ?_
      refine gxo_ref (a := 7) (c := 1) rfl s0.1 rfl rfl rfl rfl rfl ?_
      obtain ⟨hf0, haN⟩ := q101.2.mp (by first | decide | omega)
      subst hf0
      obtain ⟨_, r103, wv103, rfl, q103⟩ := pc_word (d + 39) n s0 hT (by first | decide | omega)
      rcases q103 with ⟨rfl, nw103⟩ | ⟨w103, bw103, rfl, yw103⟩
      · refine gx_callo (a := 1) rfl rfl s0.1 rfl rfl rfl r103 rfl ?_
        show en_ex _ _ _ _ (119, [(2, .inl i), (0, gx_r 7), (1, gx_r 257)], [.inr (.inr (.inl none)), gx_r 7], t0, n, 0) _
        obtain ⟨hA, h3, hC⟩ := hO rfl
        have hfl0 : σ 9 0 ≤ 1 := by
          obtain ⟨m9, k9, k8, k7⟩ := gx_in (c := 7) (i := 5) (lo := 0) (hi := 1) s0.1 rfl rfl rfl rfl
          have h9 := Sum.inl.inj (Option.some.inj ((hA.1.2.2.2.2.2.2.2.2.2.1).symm.trans k9))
          omega
        have hfl1 : σ 9 1 ≤ 1 := by
          obtain ⟨m9, k9, k8, k7⟩ := gx_in (c := 7) (i := 6) (lo := 0) (hi := 1) s0.1 rfl rfl rfl rfl
          have h9 := Sum.inl.inj (Option.some.inj ((hA.1.2.2.2.2.2.2.2.2.2.2.1).symm.trans k9))
          omega
        have hfl2 : σ 9 2 ≤ 1 := by
          obtain ⟨m9, k9, k8, k7⟩ := gx_in (c := 7) (i := 7) (lo := 0) (hi := 1) s0.1 rfl rfl rfl rfl
          have h9 := Sum.inl.inj (Option.some.inj ((hA.1.2.2.2.2.2.2.2.2.2.2.2).symm.trans k9))
          omega
        obtain ⟨_, r104, t104, a104, f104, rfl, s104, hT104, hP104, e104, ⟨q104, τ, hLn, z104, y104⟩, hN104⟩ := pc_packLine257_0 (d) n s0 hT haN hP hA h3 nw103 hC ⟨hfl0, hfl1, hfl2⟩
        have b104 := s104.2.2.2
        refine gx_callo (a := 7) rfl rfl s0.1 rfl rfl rfl r104 rfl ?_
        show en_ex _ _ _ _ (122, [(2, .inl i), (0, gx_r 7), (1, gx_r 257)], [], t104, n, 0) _
        refine gx_iinc (i := 2) (k := 1) rfl (fun _ => rfl) (by first | decide | omega) rfl ?_
        show en_ex _ _ _ _ (125, [(2, .inl (i + 1)), (0, gx_r 7), (1, gx_r 257)], [], t104, n, 0) _
        refine ex_go (S := (94, [(2, .inl (i + 1)), (0, gx_r 7), (1, gx_r 257)], [], t104, n, 0)) rfl (fun _ => rfl) rfl ?_
        exact ih (i + 1) τ t104 a104 f104 (by first | decide | omega) (fun h0 => by have := (y104 h0).1; have := hia rfl; omega) s104 hT104 hN104 hP104 (fun c i h => (e104 c i h).trans (w0 c i h)) (fun h0 => ⟨(y104 h0).2.1, W3_Ln h3 hLn (f2_no.2.2.2.2.2.2.2 59 (by rw [← z104]; exact h0)), (y104 h0).2.2⟩) (fun f1 h1 => hPk f1 (Or.inr (Or.inr ⟨rfl, haN, q104, τ, hLn, by rw [← z104]; exact h1⟩))) (fun υ h1 => hPt υ (Or.inr ⟨rfl, haN, q104, τ, hLn, by rw [← z104]; exact h1⟩))
      · refine gx_callo (a := 1) rfl rfl s0.1 rfl rfl rfl r103 rfl ?_
        show en_ex _ _ _ _ (119, [(2, .inl i), (0, gx_r 7), (1, gx_r 257)], [gx_w w103, gx_r 7], t0, n, 0) _
        obtain ⟨hA, h3, hC⟩ := hO rfl
        have hfl0 : σ 9 0 ≤ 1 := by
          obtain ⟨m9, k9, k8, k7⟩ := gx_in (c := 7) (i := 5) (lo := 0) (hi := 1) s0.1 rfl rfl rfl rfl
          have h9 := Sum.inl.inj (Option.some.inj ((hA.1.2.2.2.2.2.2.2.2.2.1).symm.trans k9))
          omega
        have hfl1 : σ 9 1 ≤ 1 := by
          obtain ⟨m9, k9, k8, k7⟩ := gx_in (c := 7) (i := 6) (lo := 0) (hi := 1) s0.1 rfl rfl rfl rfl
          have h9 := Sum.inl.inj (Option.some.inj ((hA.1.2.2.2.2.2.2.2.2.2.2.1).symm.trans k9))
          omega
        have hfl2 : σ 9 2 ≤ 1 := by
          obtain ⟨m9, k9, k8, k7⟩ := gx_in (c := 7) (i := 7) (lo := 0) (hi := 1) s0.1 rfl rfl rfl rfl
          have h9 := Sum.inl.inj (Option.some.inj ((hA.1.2.2.2.2.2.2.2.2.2.2.2).symm.trans k9))
          omega
        obtain ⟨_, r105, t105, a105, f105, rfl, s105, hT105, hP105, e105, ⟨q105, τ, hLn, z105, y105⟩, hN105⟩ := pc_packLine257_1 (d) n s0 hT haN hP hA h3 bw103 yw103 hC ⟨hfl0, hfl1, hfl2⟩
        have b105 := s105.2.2.2
        refine gx_callo (a := 7) rfl rfl s0.1 rfl rfl rfl r105 rfl ?_
        show en_ex _ _ _ _ (122, [(2, .inl i), (0, gx_r 7), (1, gx_r 257)], [], t105, n, 0) _
        refine gx_iinc (i := 2) (k := 1) rfl (fun _ => rfl) (by first | decide | omega) rfl ?_
        show en_ex _ _ _ _ (125, [(2, .inl (i + 1)), (0, gx_r 7), (1, gx_r 257)], [], t105, n, 0) _
        refine ex_go (S := (94, [(2, .inl (i + 1)), (0, gx_r 7), (1, gx_r 257)], [], t105, n, 0)) rfl (fun _ => rfl) rfl ?_
        exact ih (i + 1) τ t105 a105 f105 (by first | decide | omega) (fun h0 => by have := (y105 h0).1; have := hia rfl; omega) s105 hT105 hN105 hP105 (fun c i h => (e105 c i h).trans (w0 c i h)) (fun h0 => ⟨(y105 h0).2.1, W3_Ln h3 hLn (f2_no.2.2.2.2.2.2.2 59 (by rw [← z105]; exact h0)), (y105 h0).2.2⟩) (fun f1 h1 => hPk f1 (Or.inr (Or.inr ⟨rfl, haN, q105, τ, hLn, by rw [← z105]; exact h1⟩))) (fun υ h1 => hPt υ (Or.inr ⟨rfl, haN, q105, τ, hLn, by rw [← z105]; exact h1⟩))
theorem pc_rclear260 (d n : Nat) {t0 : en_H} (g0 : ai_HG ah_G t0) : ∃ r, en_u (d + 1) 11 [gx_r 260] t0 n = some r ∧ ∃ t', r = (none, t', n, 0) ∧ ai_HG ah_G t' ∧ (∀ c i, ¬ (c = 260 ∧ i = 5) → ai_hv t' c i = ai_hv t0 c i) ∧ ai_hv t' 260 5 = some (.inl 0) := by
  refine en_u_ex rfl ?_
  show en_ex _ _ _ _ (0, [(0, gx_r 260)], [], t0, n, 0) _
  refine ex_go (S := (1, [(0, gx_r 260)], [gx_r 260], t0, n, 0)) rfl (fun _ => rfl) rfl ?_
  refine ex_go (S := (2, [(0, gx_r 260)], [.inl 0, gx_r 260], t0, n, 0)) rfl (fun _ => rfl) rfl ?_
  refine gxo_put (a := 260) rfl g0 rfl rfl rfl (ai_in_h (by first | decide | omega) (by first | decide | omega) (by first | decide | omega)) rfl (fun t101 g101 k101 e101 => ?_)
  refine ex_ret (r := (none, t101, n, 0)) rfl (fun _ => rfl) ?_
  exact ⟨_, rfl, t101, rfl, g101, (fun c i h => e101 c i (by first | decide | omega)), k101⟩
theorem pc_rclear266 (d n : Nat) {t0 : en_H} (g0 : ai_HG ah_G t0) : ∃ r, en_u (d + 1) 11 [gx_r 266] t0 n = some r ∧ ∃ t', r = (none, t', n, 0) ∧ ai_HG ah_G t' ∧ (∀ c i, ¬ (c = 266 ∧ i = 5) → ai_hv t' c i = ai_hv t0 c i) ∧ ai_hv t' 266 5 = some (.inl 0) := by
  refine en_u_ex rfl ?_
  show en_ex _ _ _ _ (0, [(0, gx_r 266)], [], t0, n, 0) _
  refine ex_go (S := (1, [(0, gx_r 266)], [gx_r 266], t0, n, 0)) rfl (fun _ => rfl) rfl ?_
  refine ex_go (S := (2, [(0, gx_r 266)], [.inl 0, gx_r 266], t0, n, 0)) rfl (fun _ => rfl) rfl ?_
  refine gxo_put (a := 266) rfl g0 rfl rfl rfl (ai_in_h (by first | decide | omega) (by first | decide | omega) (by first | decide | omega)) rfl (fun t101 g101 k101 e101 => ?_)
  refine ex_ret (r := (none, t101, n, 0)) rfl (fun _ => rfl) ?_
  exact ⟨_, rfl, t101, rfl, g101, (fun c i h => e101 c i (by first | decide | omega)), k101⟩
theorem pc_rclear272 (d n : Nat) {t0 : en_H} (g0 : ai_HG ah_G t0) : ∃ r, en_u (d + 1) 11 [gx_r 272] t0 n = some r ∧ ∃ t', r = (none, t', n, 0) ∧ ai_HG ah_G t' ∧ (∀ c i, ¬ (c = 272 ∧ i = 5) → ai_hv t' c i = ai_hv t0 c i) ∧ ai_hv t' 272 5 = some (.inl 0) := by
  refine en_u_ex rfl ?_
  show en_ex _ _ _ _ (0, [(0, gx_r 272)], [], t0, n, 0) _
  refine ex_go (S := (1, [(0, gx_r 272)], [gx_r 272], t0, n, 0)) rfl (fun _ => rfl) rfl ?_
  refine ex_go (S := (2, [(0, gx_r 272)], [.inl 0, gx_r 272], t0, n, 0)) rfl (fun _ => rfl) rfl ?_
  refine gxo_put (a := 272) rfl g0 rfl rfl rfl (ai_in_h (by first | decide | omega) (by first | decide | omega) (by first | decide | omega)) rfl (fun t101 g101 k101 e101 => ?_)
  refine ex_ret (r := (none, t101, n, 0)) rfl (fun _ => rfl) ?_
  exact ⟨_, rfl, t101, rfl, g101, (fun c i h => e101 c i (by first | decide | omega)), k101⟩
theorem pc_rclear278 (d n : Nat) {t0 : en_H} (g0 : ai_HG ah_G t0) : ∃ r, en_u (d + 1) 11 [gx_r 278] t0 n = some r ∧ ∃ t', r = (none, t', n, 0) ∧ ai_HG ah_G t' ∧ (∀ c i, ¬ (c = 278 ∧ i = 5) → ai_hv t' c i = ai_hv t0 c i) ∧ ai_hv t' 278 5 = some (.inl 0) := by
  refine en_u_ex rfl ?_
  show en_ex _ _ _ _ (0, [(0, gx_r 278)], [], t0, n, 0) _
  refine ex_go (S := (1, [(0, gx_r 278)], [gx_r 278], t0, n, 0)) rfl (fun _ => rfl) rfl ?_
  refine ex_go (S := (2, [(0, gx_r 278)], [.inl 0, gx_r 278], t0, n, 0)) rfl (fun _ => rfl) rfl ?_
  refine gxo_put (a := 278) rfl g0 rfl rfl rfl (ai_in_h (by first | decide | omega) (by first | decide | omega) (by first | decide | omega)) rfl (fun t101 g101 k101 e101 => ?_)
  refine ex_ret (r := (none, t101, n, 0)) rfl (fun _ => rfl) ?_
  exact ⟨_, rfl, t101, rfl, g101, (fun c i h => e101 c i (by first | decide | omega)), k101⟩
theorem pc_rclear284 (d n : Nat) {t0 : en_H} (g0 : ai_HG ah_G t0) : ∃ r, en_u (d + 1) 11 [gx_r 284] t0 n = some r ∧ ∃ t', r = (none, t', n, 0) ∧ ai_HG ah_G t' ∧ (∀ c i, ¬ (c = 284 ∧ i = 5) → ai_hv t' c i = ai_hv t0 c i) ∧ ai_hv t' 284 5 = some (.inl 0) := by
  refine en_u_ex rfl ?_
  show en_ex _ _ _ _ (0, [(0, gx_r 284)], [], t0, n, 0) _
  refine ex_go (S := (1, [(0, gx_r 284)], [gx_r 284], t0, n, 0)) rfl (fun _ => rfl) rfl ?_
  refine ex_go (S := (2, [(0, gx_r 284)], [.inl 0, gx_r 284], t0, n, 0)) rfl (fun _ => rfl) rfl ?_
  refine gxo_put (a := 284) rfl g0 rfl rfl rfl (ai_in_h (by first | decide | omega) (by first | decide | omega) (by first | decide | omega)) rfl (fun t101 g101 k101 e101 => ?_)
  refine ex_ret (r := (none, t101, n, 0)) rfl (fun _ => rfl) ?_
  exact ⟨_, rfl, t101, rfl, g101, (fun c i h => e101 c i (by first | decide | omega)), k101⟩
theorem pc_rclear290 (d n : Nat) {t0 : en_H} (g0 : ai_HG ah_G t0) : ∃ r, en_u (d + 1) 11 [gx_r 290] t0 n = some r ∧ ∃ t', r = (none, t', n, 0) ∧ ai_HG ah_G t' ∧ (∀ c i, ¬ (c = 290 ∧ i = 5) → ai_hv t' c i = ai_hv t0 c i) ∧ ai_hv t' 290 5 = some (.inl 0) := by
  refine en_u_ex rfl ?_
  show en_ex _ _ _ _ (0, [(0, gx_r 290)], [], t0, n, 0) _
  refine ex_go (S := (1, [(0, gx_r 290)], [gx_r 290], t0, n, 0)) rfl (fun _ => rfl) rfl ?_
  refine ex_go (S := (2, [(0, gx_r 290)], [.inl 0, gx_r 290], t0, n, 0)) rfl (fun _ => rfl) rfl ?_
  refine gxo_put (a := 290) rfl g0 rfl rfl rfl (ai_in_h (by first | decide | omega) (by first | decide | omega) (by first | decide | omega)) rfl (fun t101 g101 k101 e101 => ?_)
  refine ex_ret (r := (none, t101, n, 0)) rfl (fun _ => rfl) ?_
  exact ⟨_, rfl, t101, rfl, g101, (fun c i h => e101 c i (by first | decide | omega)), k101⟩
theorem pc_clr257_l {fn : en_F} {n : Nat} {tb : en_H} {Q : en_O → Prop} (hQ : ∀ t1, ai_HG ah_G t1 → (∀ c i, ¬ c = 258 → ai_hv t1 c i = ai_hv tb c i) → (∀ i, i < 64 → ai_hv t1 258 i = some (.inl 4)) → en_ex none fn (en_code 10) (fun _ => false) (36, [(1, .inl 64), (0, gx_r 257)], [], t1, n, 0) Q) : ∀ j k t0, k + j = 64 → ai_HG ah_G t0 → (∀ c i, ¬ c = 258 → ai_hv t0 c i = ai_hv tb c i) → (∀ i, i < k → ai_hv t0 258 i = some (.inl 4)) → en_ex none fn (en_code 10) (fun _ => false) (17, [(1, .inl k), (0, gx_r 257)], [], t0, n, 0) Q := by
  intro j
  induction j with
  | zero =>
    intro k t0 hk g0 e0 h4
    have hk : k = 64 := by omega
    subst hk
    refine ex_go (S := (18, [(1, .inl 64), (0, gx_r 257)], [.inl 64], t0, n, 0)) rfl (fun _ => rfl) rfl ?_
    refine ex_go (S := (20, [(1, .inl 64), (0, gx_r 257)], [.inl 64, .inl 64], t0, n, 0)) rfl (fun _ => rfl) rfl ?_
    refine ex_go (S := (36, [(1, .inl 64), (0, gx_r 257)], [], t0, n, 0)) rfl (fun _ => rfl) rfl ?_
    exact hQ t0 g0 e0 h4
  | succ j ih =>
    intro k t0 hk g0 e0 h4
    refine ex_go (S := (18, [(1, .inl k), (0, gx_r 257)], [.inl k], t0, n, 0)) rfl (fun _ => rfl) rfl ?_
    refine ex_go (S := (20, [(1, .inl k), (0, gx_r 257)], [.inl 64, .inl k], t0, n, 0)) rfl (fun _ => rfl) rfl ?_
    refine gx_2f (c := .ge) rfl (by first | decide | omega) (by first | decide | omega) (show ¬ (64 ≤ k) from by omega) rfl ?_
    refine ex_go (S := (24, [(1, .inl k), (0, gx_r 257)], [gx_r 257], t0, n, 0)) rfl (fun _ => rfl) rfl ?_
    refine gxo_ref (a := 257) (c := 258) rfl g0 rfl rfl rfl rfl rfl ?_
    refine ex_go (S := (28, [(1, .inl k), (0, gx_r 257)], [.inl k, gx_r 258], t0, n, 0)) rfl (fun _ => rfl) rfl ?_
    refine ex_go (S := (29, [(1, .inl k), (0, gx_r 257)], [.inl 4, .inl k, gx_r 258], t0, n, 0)) rfl (fun _ => rfl) rfl ?_
    refine gx_ap rfl (fun _ => rfl) g0 rfl rfl rfl (show k < 64 from by omega) (gx_run1 (show k < 64 from by omega)) (ai_in_h (by first | decide | omega) (by first | decide | omega) (by first | decide | omega)) rfl (fun t101 g101 k101 e101 => ?_)
    refine gx_iinc (i := 1) (k := 1) rfl (fun _ => rfl) (by first | decide | omega) rfl ?_
    show en_ex _ _ _ _ (33, [(1, .inl (k + 1)), (0, gx_r 257)], [], t101, n, 0) _
    refine ex_go (S := (17, [(1, .inl (k + 1)), (0, gx_r 257)], [], t101, n, 0)) rfl (fun _ => rfl) rfl ?_
    refine ih (k + 1) t101 (by first | decide | omega) g101 (fun c i h => (e101 c i (by first | decide | omega)).trans (e0 c i h)) (fun i hi => ?_)
    by_cases e9 : i = k
    · rw [e9]; exact k101
    · exact (e101 258 i (by first | decide | omega)).trans (h4 i (by first | decide | omega))
theorem pc_clear257 (d n : Nat) {t0 : en_H} (g0 : ai_HG ah_G t0) : ∃ r, en_u (d + 2) 10 [gx_r 257] t0 n = some r ∧ ∃ t', r = (none, t', n, 0) ∧ ai_HG ah_G t' ∧ (∀ c i, ¬ (257 ≤ c ∧ c ≤ 304) → ai_hv t' c i = ai_hv t0 c i) ∧ ai_hv t' 257 2 = some (.inl 2) ∧ (∀ i, i < 64 → ai_hv t' 258 i = some (.inl 4)) ∧ ai_hv t' 260 5 = some (.inl 0) ∧ ai_hv t' 266 5 = some (.inl 0) ∧ ai_hv t' 272 5 = some (.inl 0) ∧ ai_hv t' 278 5 = some (.inl 0) ∧ ai_hv t' 284 5 = some (.inl 0) ∧ ai_hv t' 290 5 = some (.inl 0) ∧ (CLs t' 296 [cdf 0] ∧ CLs t' 299 [cdf 1] ∧ CLs t' 302 [cdf 2]) := by
  refine en_u_ex (d := d + 1) rfl ?_
  show en_ex _ _ _ _ (0, [(0, gx_r 257)], [], t0, n, 0) _
  refine ex_go (S := (1, [(0, gx_r 257)], [gx_r 257], t0, n, 0)) rfl (fun _ => rfl) rfl ?_
  refine ex_go (S := (2, [(0, gx_r 257)], [.inl 2, gx_r 257], t0, n, 0)) rfl (fun _ => rfl) rfl ?_
  refine gxo_put (a := 257) rfl g0 rfl rfl rfl (gx_full (by first | decide | omega)) rfl (fun t101 g101 k101 e101 => ?_)
  refine ex_go (S := (6, [(0, gx_r 257)], [gx_r 257], t101, n, 0)) rfl (fun _ => rfl) rfl ?_
  refine ex_go (S := (7, [(0, gx_r 257)], [.inl 2, gx_r 257], t101, n, 0)) rfl (fun _ => rfl) rfl ?_
  refine gxo_put (a := 257) rfl g101 rfl rfl rfl (gx_full (by first | decide | omega)) rfl (fun t102 g102 k102 e102 => ?_)
  have k3 : ai_hv t102 257 0 = some (.inl 2) := (e102 257 0 (by first | decide | omega)).trans k101
  refine ex_go (S := (11, [(0, gx_r 257)], [gx_r 257], t102, n, 0)) rfl (fun _ => rfl) rfl ?_
  refine ex_go (S := (12, [(0, gx_r 257)], [.inl 2, gx_r 257], t102, n, 0)) rfl (fun _ => rfl) rfl ?_
  refine gxo_put (a := 257) rfl g102 rfl rfl rfl (gx_full (by first | decide | omega)) rfl (fun t104 g104 k104 e104 => ?_)
  have k5 : ai_hv t104 257 0 = some (.inl 2) := (e104 257 0 (by first | decide | omega)).trans k3
  have k6 : ai_hv t104 257 1 = some (.inl 2) := (e104 257 1 (by first | decide | omega)).trans k102
  refine ex_go (S := (16, [(0, gx_r 257)], [.inl 0], t104, n, 0)) rfl (fun _ => rfl) rfl ?_
  refine ex_go (S := (17, [(1, .inl 0), (0, gx_r 257)], [], t104, n, 0)) rfl (fun _ => rfl) rfl ?_
  refine pc_clr257_l (tb := t104) (fun t107 g107 e107 h4 => ?_) 64 0 _ rfl g104 (fun _ _ _ => rfl) (fun i hi => absurd hi (Nat.not_lt_zero i))
  have k8 : ai_hv t107 257 0 = some (.inl 2) := (e107 257 0 (by first | decide | omega)).trans k5
  have k9 : ai_hv t107 257 1 = some (.inl 2) := (e107 257 1 (by first | decide | omega)).trans k6
  have k10 : ai_hv t107 257 2 = some (.inl 2) := (e107 257 2 (by first | decide | omega)).trans k104
  refine ex_go (S := (37, [(1, .inl 64), (0, gx_r 257)], [gx_r 257], t107, n, 0)) rfl (fun _ => rfl) rfl ?_
  refine gxo_ref (a := 257) (c := 260) rfl g107 rfl rfl rfl rfl rfl ?_
  obtain ⟨_, r111, t111, rfl, g111, e111, k111⟩ := pc_rclear260 d n g107
  refine gx_callo (a := 260) rfl rfl g107 rfl rfl rfl r111 rfl ?_
  have k12 : ai_hv t111 257 0 = some (.inl 2) := (e111 257 0 (by first | decide | omega)).trans k8
  have k13 : ai_hv t111 257 1 = some (.inl 2) := (e111 257 1 (by first | decide | omega)).trans k9
  have k14 : ai_hv t111 257 2 = some (.inl 2) := (e111 257 2 (by first | decide | omega)).trans k10
  show en_ex _ _ _ _ (43, [(1, .inl 64), (0, gx_r 257)], [], t111, n, 0) _
  refine ex_go (S := (44, [(1, .inl 64), (0, gx_r 257)], [gx_r 257], t111, n, 0)) rfl (fun _ => rfl) rfl ?_
  refine gxo_ref (a := 257) (c := 266) rfl g111 rfl rfl rfl rfl rfl ?_
  obtain ⟨_, r115, t115, rfl, g115, e115, k115⟩ := pc_rclear266 d n g111
  refine gx_callo (a := 266) rfl rfl g111 rfl rfl rfl r115 rfl ?_
  have k16 : ai_hv t115 257 0 = some (.inl 2) := (e115 257 0 (by first | decide | omega)).trans k12
  have k17 : ai_hv t115 257 1 = some (.inl 2) := (e115 257 1 (by first | decide | omega)).trans k13
  have k18 : ai_hv t115 257 2 = some (.inl 2) := (e115 257 2 (by first | decide | omega)).trans k14
  have k19 : ai_hv t115 260 5 = some (.inl 0) := (e115 260 5 (by first | decide | omega)).trans k111
  show en_ex _ _ _ _ (50, [(1, .inl 64), (0, gx_r 257)], [], t115, n, 0) _
  refine ex_go (S := (51, [(1, .inl 64), (0, gx_r 257)], [gx_r 257], t115, n, 0)) rfl (fun _ => rfl) rfl ?_
  refine gxo_ref (a := 257) (c := 272) rfl g115 rfl rfl rfl rfl rfl ?_
  obtain ⟨_, r120, t120, rfl, g120, e120, k120⟩ := pc_rclear272 d n g115
  refine gx_callo (a := 272) rfl rfl g115 rfl rfl rfl r120 rfl ?_
  have k21 : ai_hv t120 257 0 = some (.inl 2) := (e120 257 0 (by first | decide | omega)).trans k16
  have k22 : ai_hv t120 257 1 = some (.inl 2) := (e120 257 1 (by first | decide | omega)).trans k17
  have k23 : ai_hv t120 257 2 = some (.inl 2) := (e120 257 2 (by first | decide | omega)).trans k18
  have k24 : ai_hv t120 260 5 = some (.inl 0) := (e120 260 5 (by first | decide | omega)).trans k19
  have k25 : ai_hv t120 266 5 = some (.inl 0) := (e120 266 5 (by first | decide | omega)).trans k115
  show en_ex _ _ _ _ (57, [(1, .inl 64), (0, gx_r 257)], [], t120, n, 0) _
  refine ex_go (S := (58, [(1, .inl 64), (0, gx_r 257)], [gx_r 257], t120, n, 0)) rfl (fun _ => rfl) rfl ?_
  refine gxo_ref (a := 257) (c := 278) rfl g120 rfl rfl rfl rfl rfl ?_
  obtain ⟨_, r126, t126, rfl, g126, e126, k126⟩ := pc_rclear278 d n g120
  refine gx_callo (a := 278) rfl rfl g120 rfl rfl rfl r126 rfl ?_
  have k27 : ai_hv t126 257 0 = some (.inl 2) := (e126 257 0 (by first | decide | omega)).trans k21
  have k28 : ai_hv t126 257 1 = some (.inl 2) := (e126 257 1 (by first | decide | omega)).trans k22
  have k29 : ai_hv t126 257 2 = some (.inl 2) := (e126 257 2 (by first | decide | omega)).trans k23
  have k30 : ai_hv t126 260 5 = some (.inl 0) := (e126 260 5 (by first | decide | omega)).trans k24
  have k31 : ai_hv t126 266 5 = some (.inl 0) := (e126 266 5 (by first | decide | omega)).trans k25
  have k32 : ai_hv t126 272 5 = some (.inl 0) := (e126 272 5 (by first | decide | omega)).trans k120
  show en_ex _ _ _ _ (64, [(1, .inl 64), (0, gx_r 257)], [], t126, n, 0) _
  refine ex_go (S := (65, [(1, .inl 64), (0, gx_r 257)], [gx_r 257], t126, n, 0)) rfl (fun _ => rfl) rfl ?_
  refine gxo_ref (a := 257) (c := 284) rfl g126 rfl rfl rfl rfl rfl ?_
  obtain ⟨_, r133, t133, rfl, g133, e133, k133⟩ := pc_rclear284 d n g126
  refine gx_callo (a := 284) rfl rfl g126 rfl rfl rfl r133 rfl ?_
  have k34 : ai_hv t133 257 0 = some (.inl 2) := (e133 257 0 (by first | decide | omega)).trans k27
  have k35 : ai_hv t133 257 1 = some (.inl 2) := (e133 257 1 (by first | decide | omega)).trans k28
  have k36 : ai_hv t133 257 2 = some (.inl 2) := (e133 257 2 (by first | decide | omega)).trans k29
  have k37 : ai_hv t133 260 5 = some (.inl 0) := (e133 260 5 (by first | decide | omega)).trans k30
  have k38 : ai_hv t133 266 5 = some (.inl 0) := (e133 266 5 (by first | decide | omega)).trans k31
  have k39 : ai_hv t133 272 5 = some (.inl 0) := (e133 272 5 (by first | decide | omega)).trans k32
  have k40 : ai_hv t133 278 5 = some (.inl 0) := (e133 278 5 (by first | decide | omega)).trans k126
  show en_ex _ _ _ _ (71, [(1, .inl 64), (0, gx_r 257)], [], t133, n, 0) _
  refine ex_go (S := (72, [(1, .inl 64), (0, gx_r 257)], [gx_r 257], t133, n, 0)) rfl (fun _ => rfl) rfl ?_
  refine gxo_ref (a := 257) (c := 290) rfl g133 rfl rfl rfl rfl rfl ?_
  obtain ⟨_, r141, t141, rfl, g141, e141, k141⟩ := pc_rclear290 d n g133
  refine gx_callo (a := 290) rfl rfl g133 rfl rfl rfl r141 rfl ?_
  have k42 : ai_hv t141 257 0 = some (.inl 2) := (e141 257 0 (by first | decide | omega)).trans k34
  have k43 : ai_hv t141 257 1 = some (.inl 2) := (e141 257 1 (by first | decide | omega)).trans k35
  have k44 : ai_hv t141 257 2 = some (.inl 2) := (e141 257 2 (by first | decide | omega)).trans k36
  have k45 : ai_hv t141 260 5 = some (.inl 0) := (e141 260 5 (by first | decide | omega)).trans k37
  have k46 : ai_hv t141 266 5 = some (.inl 0) := (e141 266 5 (by first | decide | omega)).trans k38
  have k47 : ai_hv t141 272 5 = some (.inl 0) := (e141 272 5 (by first | decide | omega)).trans k39
  have k48 : ai_hv t141 278 5 = some (.inl 0) := (e141 278 5 (by first | decide | omega)).trans k40
  have k49 : ai_hv t141 284 5 = some (.inl 0) := (e141 284 5 (by first | decide | omega)).trans k133
  show en_ex _ _ _ _ (78, [(1, .inl 64), (0, gx_r 257)], [], t141, n, 0) _
  refine ex_go (S := (79, [(1, .inl 64), (0, gx_r 257)], [gx_r 257], t141, n, 0)) rfl (fun _ => rfl) rfl ?_
  refine gxo_ref (a := 257) (c := 296) rfl g141 rfl rfl rfl rfl rfl ?_
  obtain ⟨_, r150, t150, rfl, g150, e150, kl150⟩ := pc_lclear296 d n g141
  refine gx_callo (a := 296) rfl rfl g141 rfl rfl rfl r150 rfl ?_
  have k51 : ai_hv t150 257 0 = some (.inl 2) := (e150 257 0 (by first | decide | omega)).trans k42
  have k52 : ai_hv t150 257 1 = some (.inl 2) := (e150 257 1 (by first | decide | omega)).trans k43
  have k53 : ai_hv t150 257 2 = some (.inl 2) := (e150 257 2 (by first | decide | omega)).trans k44
  have k54 : ai_hv t150 260 5 = some (.inl 0) := (e150 260 5 (by first | decide | omega)).trans k45
  have k55 : ai_hv t150 266 5 = some (.inl 0) := (e150 266 5 (by first | decide | omega)).trans k46
  have k56 : ai_hv t150 272 5 = some (.inl 0) := (e150 272 5 (by first | decide | omega)).trans k47
  have k57 : ai_hv t150 278 5 = some (.inl 0) := (e150 278 5 (by first | decide | omega)).trans k48
  have k58 : ai_hv t150 284 5 = some (.inl 0) := (e150 284 5 (by first | decide | omega)).trans k49
  have k59 : ai_hv t150 290 5 = some (.inl 0) := (e150 290 5 (by first | decide | omega)).trans k141
  show en_ex _ _ _ _ (85, [(1, .inl 64), (0, gx_r 257)], [], t150, n, 0) _
  refine ex_go (S := (86, [(1, .inl 64), (0, gx_r 257)], [gx_r 257], t150, n, 0)) rfl (fun _ => rfl) rfl ?_
  refine gxo_ref (a := 257) (c := 296) rfl g150 rfl rfl rfl rfl rfl ?_
  refine ex_go (S := (91, [(1, .inl 64), (0, gx_r 257)], [.inl 4294967287, gx_r 296], t150, n, 0)) rfl (fun _ => rfl) rfl ?_
  obtain ⟨t160, r160, g160, e160, z160, kz160, hz160, cz160⟩ := pc_ladd296 d n 4294967287 t150 g150 (by decide)
  have hz160 : z160 = 0 := Sum.inl.inj (Option.some.inj (kz160.symm.trans kl150))
  subst hz160
  have cz160 := CLs_of (cz160 (by decide))
  refine gx_callo (a := 296) rfl rfl g150 rfl rfl rfl r160 rfl ?_
  have k61 : ai_hv t160 257 0 = some (.inl 2) := (e160 257 0 (by first | decide | omega)).trans k51
  have k62 : ai_hv t160 257 1 = some (.inl 2) := (e160 257 1 (by first | decide | omega)).trans k52
  have k63 : ai_hv t160 257 2 = some (.inl 2) := (e160 257 2 (by first | decide | omega)).trans k53
  have k64 : ai_hv t160 260 5 = some (.inl 0) := (e160 260 5 (by first | decide | omega)).trans k54
  have k65 : ai_hv t160 266 5 = some (.inl 0) := (e160 266 5 (by first | decide | omega)).trans k55
  have k66 : ai_hv t160 272 5 = some (.inl 0) := (e160 272 5 (by first | decide | omega)).trans k56
  have k67 : ai_hv t160 278 5 = some (.inl 0) := (e160 278 5 (by first | decide | omega)).trans k57
  have k68 : ai_hv t160 284 5 = some (.inl 0) := (e160 284 5 (by first | decide | omega)).trans k58
  have k69 : ai_hv t160 290 5 = some (.inl 0) := (e160 290 5 (by first | decide | omega)).trans k59
  show en_ex _ _ _ _ (94, [(1, .inl 64), (0, gx_r 257)], [], t160, n, 0) _
  refine ex_go (S := (95, [(1, .inl 64), (0, gx_r 257)], [gx_r 257], t160, n, 0)) rfl (fun _ => rfl) rfl ?_
  refine gxo_ref (a := 257) (c := 299) rfl g160 rfl rfl rfl rfl rfl ?_
  obtain ⟨_, r170, t170, rfl, g170, e170, kl170⟩ := pc_lclear299 d n g160
  refine gx_callo (a := 299) rfl rfl g160 rfl rfl rfl r170 rfl ?_
  have k71 : ai_hv t170 257 0 = some (.inl 2) := (e170 257 0 (by first | decide | omega)).trans k61
  have k72 : ai_hv t170 257 1 = some (.inl 2) := (e170 257 1 (by first | decide | omega)).trans k62
  have k73 : ai_hv t170 257 2 = some (.inl 2) := (e170 257 2 (by first | decide | omega)).trans k63
  have k74 : ai_hv t170 260 5 = some (.inl 0) := (e170 260 5 (by first | decide | omega)).trans k64
  have k75 : ai_hv t170 266 5 = some (.inl 0) := (e170 266 5 (by first | decide | omega)).trans k65
  have k76 : ai_hv t170 272 5 = some (.inl 0) := (e170 272 5 (by first | decide | omega)).trans k66
  have k77 : ai_hv t170 278 5 = some (.inl 0) := (e170 278 5 (by first | decide | omega)).trans k67
  have k78 : ai_hv t170 284 5 = some (.inl 0) := (e170 284 5 (by first | decide | omega)).trans k68
  have k79 : ai_hv t170 290 5 = some (.inl 0) := (e170 290 5 (by first | decide | omega)).trans k69
  show en_ex _ _ _ _ (101, [(1, .inl 64), (0, gx_r 257)], [], t170, n, 0) _
  refine ex_go (S := (102, [(1, .inl 64), (0, gx_r 257)], [gx_r 257], t170, n, 0)) rfl (fun _ => rfl) rfl ?_
  refine gxo_ref (a := 257) (c := 299) rfl g170 rfl rfl rfl rfl rfl ?_
  refine ex_go (S := (106, [(1, .inl 64), (0, gx_r 257)], [.inl 1, gx_r 299], t170, n, 0)) rfl (fun _ => rfl) rfl ?_
  obtain ⟨t180, r180, g180, e180, z180, kz180, hz180, cz180⟩ := pc_ladd299 d n 1 t170 g170 (by decide)
  have hz180 : z180 = 0 := Sum.inl.inj (Option.some.inj (kz180.symm.trans kl170))
  subst hz180
  have cz180 := CLs_of (cz180 (by decide))
  refine gx_callo (a := 299) rfl rfl g170 rfl rfl rfl r180 rfl ?_
  have k81 : ai_hv t180 257 0 = some (.inl 2) := (e180 257 0 (by first | decide | omega)).trans k71
  have k82 : ai_hv t180 257 1 = some (.inl 2) := (e180 257 1 (by first | decide | omega)).trans k72
  have k83 : ai_hv t180 257 2 = some (.inl 2) := (e180 257 2 (by first | decide | omega)).trans k73
  have k84 : ai_hv t180 260 5 = some (.inl 0) := (e180 260 5 (by first | decide | omega)).trans k74
  have k85 : ai_hv t180 266 5 = some (.inl 0) := (e180 266 5 (by first | decide | omega)).trans k75
  have k86 : ai_hv t180 272 5 = some (.inl 0) := (e180 272 5 (by first | decide | omega)).trans k76
  have k87 : ai_hv t180 278 5 = some (.inl 0) := (e180 278 5 (by first | decide | omega)).trans k77
  have k88 : ai_hv t180 284 5 = some (.inl 0) := (e180 284 5 (by first | decide | omega)).trans k78
  have k89 : ai_hv t180 290 5 = some (.inl 0) := (e180 290 5 (by first | decide | omega)).trans k79
  show en_ex _ _ _ _ (109, [(1, .inl 64), (0, gx_r 257)], [], t180, n, 0) _
  refine ex_go (S := (110, [(1, .inl 64), (0, gx_r 257)], [gx_r 257], t180, n, 0)) rfl (fun _ => rfl) rfl ?_
  refine gxo_ref (a := 257) (c := 302) rfl g180 rfl rfl rfl rfl rfl ?_
  obtain ⟨_, r190, t190, rfl, g190, e190, kl190⟩ := pc_lclear302 d n g180
  refine gx_callo (a := 302) rfl rfl g180 rfl rfl rfl r190 rfl ?_
  have k91 : ai_hv t190 257 0 = some (.inl 2) := (e190 257 0 (by first | decide | omega)).trans k81
  have k92 : ai_hv t190 257 1 = some (.inl 2) := (e190 257 1 (by first | decide | omega)).trans k82
  have k93 : ai_hv t190 257 2 = some (.inl 2) := (e190 257 2 (by first | decide | omega)).trans k83
  have k94 : ai_hv t190 260 5 = some (.inl 0) := (e190 260 5 (by first | decide | omega)).trans k84
  have k95 : ai_hv t190 266 5 = some (.inl 0) := (e190 266 5 (by first | decide | omega)).trans k85
  have k96 : ai_hv t190 272 5 = some (.inl 0) := (e190 272 5 (by first | decide | omega)).trans k86
  have k97 : ai_hv t190 278 5 = some (.inl 0) := (e190 278 5 (by first | decide | omega)).trans k87
  have k98 : ai_hv t190 284 5 = some (.inl 0) := (e190 284 5 (by first | decide | omega)).trans k88
  have k99 : ai_hv t190 290 5 = some (.inl 0) := (e190 290 5 (by first | decide | omega)).trans k89
  show en_ex _ _ _ _ (116, [(1, .inl 64), (0, gx_r 257)], [], t190, n, 0) _
  refine ex_go (S := (117, [(1, .inl 64), (0, gx_r 257)], [gx_r 257], t190, n, 0)) rfl (fun _ => rfl) rfl ?_
  refine gxo_ref (a := 257) (c := 302) rfl g190 rfl rfl rfl rfl rfl ?_
  refine ex_go (S := (121, [(1, .inl 64), (0, gx_r 257)], [.inl 1, gx_r 302], t190, n, 0)) rfl (fun _ => rfl) rfl ?_
  obtain ⟨t200, r200, g200, e200, z200, kz200, hz200, cz200⟩ := pc_ladd302 d n 1 t190 g190 (by decide)
  have hz200 : z200 = 0 := Sum.inl.inj (Option.some.inj (kz200.symm.trans kl190))
  subst hz200
  have cz200 := CLs_of (cz200 (by decide))
  refine gx_callo (a := 302) rfl rfl g190 rfl rfl rfl r200 rfl ?_
  have k101 : ai_hv t200 257 0 = some (.inl 2) := (e200 257 0 (by first | decide | omega)).trans k91
  have k102 : ai_hv t200 257 1 = some (.inl 2) := (e200 257 1 (by first | decide | omega)).trans k92
  have k103 : ai_hv t200 257 2 = some (.inl 2) := (e200 257 2 (by first | decide | omega)).trans k93
  have k104 : ai_hv t200 260 5 = some (.inl 0) := (e200 260 5 (by first | decide | omega)).trans k94
  have k105 : ai_hv t200 266 5 = some (.inl 0) := (e200 266 5 (by first | decide | omega)).trans k95
  have k106 : ai_hv t200 272 5 = some (.inl 0) := (e200 272 5 (by first | decide | omega)).trans k96
  have k107 : ai_hv t200 278 5 = some (.inl 0) := (e200 278 5 (by first | decide | omega)).trans k97
  have k108 : ai_hv t200 284 5 = some (.inl 0) := (e200 284 5 (by first | decide | omega)).trans k98
  have k109 : ai_hv t200 290 5 = some (.inl 0) := (e200 290 5 (by first | decide | omega)).trans k99
  show en_ex _ _ _ _ (124, [(1, .inl 64), (0, gx_r 257)], [], t200, n, 0) _
  refine ex_ret (r := (none, t200, n, 0)) rfl (fun _ => rfl) ?_
  exact ⟨_, rfl, t200, rfl, g200, (fun c i h => (e200 c i (by first | decide | omega)).trans ((e190 c i (by first | decide | omega)).trans ((e180 c i (by first | decide | omega)).trans ((e170 c i (by first | decide | omega)).trans ((e160 c i (by first | decide | omega)).trans ((e150 c i (by first | decide | omega)).trans ((e141 c i (by first | decide | omega)).trans ((e133 c i (by first | decide | omega)).trans ((e126 c i (by first | decide | omega)).trans ((e120 c i (by first | decide | omega)).trans ((e115 c i (by first | decide | omega)).trans ((e111 c i (by first | decide | omega)).trans ((e107 c i (by first | decide | omega)).trans ((e104 c i (by first | decide | omega)).trans ((e102 c i (by first | decide | omega)).trans (e101 c i (by first | decide | omega))))))))))))))))), k103, (fun i hi => (e200 258 i (by first | decide | omega)).trans ((e190 258 i (by first | decide | omega)).trans ((e180 258 i (by first | decide | omega)).trans ((e170 258 i (by first | decide | omega)).trans ((e160 258 i (by first | decide | omega)).trans ((e150 258 i (by first | decide | omega)).trans ((e141 258 i (by first | decide | omega)).trans ((e133 258 i (by first | decide | omega)).trans ((e126 258 i (by first | decide | omega)).trans ((e120 258 i (by first | decide | omega)).trans ((e115 258 i (by first | decide | omega)).trans ((e111 258 i (by first | decide | omega)).trans (h4 i hi))))))))))))), k104, k105, k106, k107, k108, k109, ⟨CLs_keep cz160 ((e200 296 2 (by first | decide | omega)).trans ((e190 296 2 (by first | decide | omega)).trans ((e180 296 2 (by first | decide | omega)).trans (e170 296 2 (by first | decide | omega))))) (fun j => (e200 298 j (by first | decide | omega)).trans ((e190 298 j (by first | decide | omega)).trans ((e180 298 j (by first | decide | omega)).trans (e170 298 j (by first | decide | omega))))), CLs_keep cz180 ((e200 299 2 (by first | decide | omega)).trans (e190 299 2 (by first | decide | omega))) (fun j => (e200 301 j (by first | decide | omega)).trans (e190 301 j (by first | decide | omega))), CLs_keep cz200 (rfl) (fun j => rfl)⟩⟩
theorem stl_out257 {q : Nat × Nat × Nat} {c i : Nat} (hq : q ∈ ct_14_0.2.2.2.1) (h1 : q.1 = c) (h2 : q.2.1 ≤ i) (h3 : i ≤ q.2.2) (h : c < 257 ∨ c = 257 ∧ i ≤ 2 ∨ c = 257 + 1 ∨ (257 + 3 ≤ c ∧ c ≤ 257 + 47)) : False := by
  have hall : (ct_14_0.2.2.2.1).all (fun q => (Nat.beq q.1 257 && Nat.beq q.2.1 16) || Nat.beq q.1 259 || Nat.ble 305 q.1) = true := by decide +kernel
  have h9 := List.all_eq_true.mp hall q hq
  rw [Bool.or_eq_true, Bool.or_eq_true, Bool.and_eq_true] at h9
  rcases h9 with (⟨h9, h8⟩ | h9) | h9
  · have e1 := Nat.eq_of_beq_eq_true h9
    have e2 := Nat.eq_of_beq_eq_true h8
    omega
  · have e1 := Nat.eq_of_beq_eq_true h9
    omega
  · have e1 := Nat.le_of_ble_eq_true h9
    omega
theorem pc_readPack257_t (d n : Nat) {t0 t1 : en_H} {S : Nat → Nat} {m N a f k : Nat} (hE : ai_E t0) (h28 : c28 t0 191) (s1 : cS t1 a f) (hT : cT t1 S m N) (hP : ai_hv t1 7 1 = some (gx_r 257)) (w1 : cV 257 t0 t1) (hO : f = 0 → ∃ σ, CA t1 257 S m σ ∧ W3 S m N σ ∧ Pt S m N 1001 (sg_0 S m) (sl_0 S m N) σ ∧ CLw t1 257 S m N σ) (hPk : Pk S m N 1001 (sg_0 S m) (sl_0 S m N) f) (hJ : JRw t0 257) : en_ex none (en_u (d + 40)) (en_code 92) (fun _ => false) (128, [(2, .inl k), (0, gx_r 7), (1, gx_r 257)], [], t1, n, 0) (fun o => ∃ r, o = .inl r ∧ ∃ v t', r = (some (.inl v), t', n, 0) ∧ v < 2147483648 ∧ ai_HG ah_G t' ∧ ai_E t' ∧ (∀ i, ai_hv t' 0 i = ai_hv t0 0 i) ∧ (∀ c i, 191 ≤ c → c ≤ 238 → ai_hv t' c i = ai_hv t0 c i) ∧ ∃ N, (∀ j, j < N → sp_st S m j < m) ∧ sp_st S m N = m ∧ Pk S m N 1001 (sg_0 S m) (sl_0 S m N) v ∧ (v = 0 → (∃ υ, Pt S m N 1001 (sg_0 S m) (sl_0 S m N) υ ∧ W3 S m N υ ∧ CA t' 257 S m υ ∧ CLw t' 257 S m N υ) ∧ NX t' 257)) := by
  have b0 := s1.2.2.2
  have hE1 : ai_E t1 := ai_E_kept hE (fun c i hz => by have h9 := frz_ge hz; exact w1 c i (by first | decide | omega))
  refine ex_go (S := (129, [(2, .inl k), (0, gx_r 7), (1, gx_r 257)], [gx_r 7], t1, n, 0)) rfl (fun _ => rfl) rfl ?_
  refine gxo_ref (a := 7) (c := 1) rfl s1.1 rfl rfl rfl rfl rfl ?_
  refine gxo_get (a := 1) rfl s1.1 rfl rfl s1.2.2.1 rfl ?_
  by_cases hc1 : f ≠ 0
  · refine gx_1t (c := .ne) rfl (by first | decide | omega) hc1 rfl ?_
    refine ex_go (S := (146, [(2, .inl k), (0, gx_r 7), (1, gx_r 257)], [gx_r 7], t1, n, 0)) rfl (fun _ => rfl) rfl ?_
    refine gxo_ref (a := 7) (c := 1) rfl s1.1 rfl rfl rfl rfl rfl ?_
    refine gxo_get (a := 1) rfl s1.1 rfl rfl s1.2.2.1 rfl ?_
    refine ex_ret (r := (some (.inl f), t1, n, 0)) rfl (fun _ => rfl) ?_
    exact ⟨_, rfl, f, t1, rfl, by omega, s1.1, hE1, (fun i => w1 0 i (by first | decide | omega)), (fun c i l1 l2 => w1 c i (by first | decide | omega)), N, (fun j hj => (hT.1 j hj).1), hT.2.1, hPk, fun z => by omega⟩
  · refine gx_1f (c := .ne) rfl (by first | decide | omega) hc1 rfl ?_
    refine ex_go (S := (139, [(2, .inl k), (0, gx_r 7), (1, gx_r 257)], [gx_r 7], t1, n, 0)) rfl (fun _ => rfl) rfl ?_
    refine gxo_get (a := 7) rfl s1.1 rfl rfl hP rfl ?_
    obtain ⟨σ, hA, h3, hPt, hC⟩ := hO (by first | decide | omega)
    have hBB := h3.1.1
    have hd : c28 t1 257 := ai_HO_2 hA.1.1 (ai_in_h (by first | decide | omega) (by first | decide | omega) (by first | decide | omega)) hA.1.2.1 (ai_in_h (by first | decide | omega) (by first | decide | omega) (by first | decide | omega))
    have ht : c28 t1 191 := c28_keep h28 (fun i => w1 191 i (by first | decide | omega))
    obtain ⟨⟨rv102, t102, rn102, rs102⟩, r102, hn102, hs102, g102, fr102, E102b, o102, ho102, ro102, hh102⟩ := (ac_all (d + 40) 14 ce_14_0 (show ce_14_0 ∈ cm_14 from List.mem_cons_self) (Nat.lt_of_lt_of_le (show ce_14_0.1 < 40 by decide) (by first | decide | omega))) (fun _ => 0) [gx_r 257] t1 n ⟨gx_vref 257, trivial⟩ s1.1 (ai_HO_ap ht hd) hE1
    have hn102 : n = rn102 := hn102.symm
    have hs102 : rs102 = 0 := hs102
    subst hn102 hs102
    have ho102 := List.mem_singleton.mp ho102
    subst ho102
    have hv102 : rv102 = none := by
      cases rv102 with
      | none => rfl
      | some w => exact ro102.elim
    subst hv102
    have hsx : NX t102 257 := by
      have hA9 := hA
      obtain ⟨-, -, -, -, -, -, -, -, -, -, -, -, -, -, -, -, -, -, -, -, kF9⟩ := hA9
      obtain ⟨_, q1, tx9, rfl, -, -, hnx⟩ := st_257 (d + 37) n (tb := t1) (O := σ 0 0) (D := σ 1 0) (F := σ 23) s1.1 (by first | decide | omega) (by first | decide | omega) hA.1.1 hA.1.2.1 (fun j hj => ⟨kF9 j hj, by
        obtain ⟨m9, k9, -, k7⟩ := gx_inb (c := 258) (i := j) (lo := 0) (hi := 4) s1.1 rfl (show j < 64 from hj) (gx_run1 (show j < 64 from hj)) (by decide) (by decide) rfl
        have h9 := Sum.inl.inj (Option.some.inj ((kF9 j hj).symm.trans k9))
        omega⟩) (fun i hi => (w1 _ _ (by first | decide | omega)).trans (hJ i hi))
      have e1 := Option.some.inj (r102.symm.trans q1)
      have e2 : t102 = tx9 := congrArg (fun z => z.2.1) e1
      rw [e2]
      exact hnx
    have e102 : ∀ c i, ¬ (257 ≤ c ∧ c ≤ 322) → ai_hv t102 c i = ai_hv t1 c i := fun c i h => fr102 c i (fun z => h (inw_rng (by decide) z))
    refine gx_callo (a := 257) rfl rfl s1.1 rfl rfl rfl r102 rfl ?_
    have s102 : cS t102 a f := ⟨g102, (e102 1 8 (by first | decide | omega)).trans s1.2.1, (e102 1 1 (by first | decide | omega)).trans s1.2.2.1, s1.2.2.2⟩
    show en_ex _ _ _ _ (145, [(2, .inl k), (0, gx_r 7), (1, gx_r 257)], [], t102, n, 0) _
    refine ex_go (S := (146, [(2, .inl k), (0, gx_r 7), (1, gx_r 257)], [gx_r 7], t102, n, 0)) rfl (fun _ => rfl) rfl ?_
    refine gxo_ref (a := 7) (c := 1) rfl s102.1 rfl rfl rfl rfl rfl ?_
    refine gxo_get (a := 1) rfl s102.1 rfl rfl s102.2.2.1 rfl ?_
    refine ex_ret (r := (some (.inl f), t102, n, 0)) rfl (fun _ => rfl) ?_
    exact ⟨_, rfl, f, t102, rfl, by omega, s102.1, E102b, (fun i => (e102 0 i (by first | decide | omega)).trans (w1 0 i (by first | decide | omega))), (fun c i l1 l2 => (e102 c i (by first | decide | omega)).trans (w1 c i (by first | decide | omega))), N, (fun j hj => (hT.1 j hj).1), hT.2.1, hPk, fun _ => ⟨⟨σ, hPt, h3, CA_keep (by first | decide | omega) hA (fun c i h h2 => fr102 c i (fun z => by obtain ⟨q9, m1, m2, m3, m4⟩ := z; exact stl_out257 m1 m2 m3 m4 (by first | decide | omega))), CLw_keep hC (fun c i h h2 => fr102 c i (fun z => by obtain ⟨q9, m1, m2, m3, m4⟩ := z; exact stl_out257 m1 m2 m3 m4 (by first | decide | omega))) (fun _ => ⟨rfl, rfl⟩)⟩, hsx⟩⟩
theorem pc_readPack257 (d n : Nat) {t0 : en_H} {S : Nat → Nat} {m : Nat} (g0 : ai_HG ah_G t0) (hE : ai_E t0) (h28 : c28 t0 191) (hm : m ≤ 1000) (km : ai_hv t0 1 0 = some (.inl m)) (hS : ∀ i, i < m → ai_hv t0 2 i = some (.inl (S i)) ∧ S i ≤ 127) (hJ : JRw t0 257) : ∃ r, en_u (d + 41) 92 [gx_r 7, gx_r 257] t0 n = some r ∧ ∃ v t', r = (some (.inl v), t', n, 0) ∧ v < 2147483648 ∧ ai_HG ah_G t' ∧ ai_E t' ∧ (∀ i, ai_hv t' 0 i = ai_hv t0 0 i) ∧ (∀ c i, 191 ≤ c → c ≤ 238 → ai_hv t' c i = ai_hv t0 c i) ∧ ∃ N, (∀ j, j < N → sp_st S m j < m) ∧ sp_st S m N = m ∧ Pk S m N 1001 (sg_0 S m) (sl_0 S m N) v ∧ (v = 0 → (∃ υ, Pt S m N 1001 (sg_0 S m) (sl_0 S m N) υ ∧ W3 S m N υ ∧ CA t' 257 S m υ ∧ CLw t' 257 S m N υ) ∧ NX t' 257) := by
  refine en_u_ex (d := d + 40) rfl ?_
  show en_ex _ _ _ _ (0, [(0, gx_r 7), (1, gx_r 257)], [], t0, n, 0) _
  refine ex_go (S := (1, [(0, gx_r 7), (1, gx_r 257)], [gx_r 7], t0, n, 0)) rfl (fun _ => rfl) rfl ?_
  refine ex_go (S := (2, [(0, gx_r 7), (1, gx_r 257)], [gx_r 257, gx_r 7], t0, n, 0)) rfl (fun _ => rfl) rfl ?_
  refine gxo_putr (a := 7) (h := .inr (.inr [0, 291, 357])) rfl g0 rfl rfl rfl (refin_r (by decide)) rfl (fun t101 g101 k101 e101 => ?_)
  have k2 : ai_hv t101 1 0 = some (.inl m) := (e101 1 0 (by first | decide | omega)).trans km
  refine ex_go (S := (6, [(0, gx_r 7), (1, gx_r 257)], [gx_r 7], t101, n, 0)) rfl (fun _ => rfl) rfl ?_
  refine gxo_get (a := 7) rfl g101 rfl rfl k101 rfl ?_
  obtain ⟨_, r103, t103, rfl, g103, e103, kpa103, z4, kz260, kz266, kz272, kz278, kz284, kz290, hcl0, hcl1, hcl2⟩ := pc_clear257 (d + 38) n g101
  refine gx_callo (a := 257) rfl rfl g101 rfl rfl rfl r103 rfl ?_
  have k4 : ai_hv t103 1 0 = some (.inl m) := (e103 1 0 (by first | decide | omega)).trans k2
  have k5 : ai_hv t103 7 1 = some (gx_r 257) := (e103 7 1 (by first | decide | omega)).trans k101
  show en_ex _ _ _ _ (12, [(0, gx_r 7), (1, gx_r 257)], [], t103, n, 0) _
  refine ex_go (S := (13, [(0, gx_r 7), (1, gx_r 257)], [gx_r 7], t103, n, 0)) rfl (fun _ => rfl) rfl ?_
  refine ex_go (S := (14, [(0, gx_r 7), (1, gx_r 257)], [.inl 0, gx_r 7], t103, n, 0)) rfl (fun _ => rfl) rfl ?_
  refine gxo_put (a := 7) rfl g103 rfl rfl rfl (ai_in_h (by first | decide | omega) (by first | decide | omega) (by first | decide | omega)) rfl (fun t106 g106 k106 e106 => ?_)
  have k7 : ai_hv t106 1 0 = some (.inl m) := (e106 1 0 (by first | decide | omega)).trans k4
  have k8 : ai_hv t106 7 1 = some (gx_r 257) := (e106 7 1 (by first | decide | omega)).trans k5
  have k9 : ai_hv t106 260 5 = some (.inl 0) := (e106 260 5 (by first | decide | omega)).trans kz260
  have k10 : ai_hv t106 266 5 = some (.inl 0) := (e106 266 5 (by first | decide | omega)).trans kz266
  have k11 : ai_hv t106 272 5 = some (.inl 0) := (e106 272 5 (by first | decide | omega)).trans kz272
  have k12 : ai_hv t106 278 5 = some (.inl 0) := (e106 278 5 (by first | decide | omega)).trans kz278
  have k13 : ai_hv t106 284 5 = some (.inl 0) := (e106 284 5 (by first | decide | omega)).trans kz284
  have k14 : ai_hv t106 290 5 = some (.inl 0) := (e106 290 5 (by first | decide | omega)).trans kz290
  have k15 : ai_hv t106 257 2 = some (.inl 2) := (e106 257 2 (by first | decide | omega)).trans kpa103
  refine ex_go (S := (18, [(0, gx_r 7), (1, gx_r 257)], [gx_r 7], t106, n, 0)) rfl (fun _ => rfl) rfl ?_
  refine ex_go (S := (19, [(0, gx_r 7), (1, gx_r 257)], [.inl 0, gx_r 7], t106, n, 0)) rfl (fun _ => rfl) rfl ?_
  refine gxo_put (a := 7) rfl g106 rfl rfl rfl (ai_in_h (by first | decide | omega) (by first | decide | omega) (by first | decide | omega)) rfl (fun t116 g116 k116 e116 => ?_)
  have k17 : ai_hv t116 1 0 = some (.inl m) := (e116 1 0 (by first | decide | omega)).trans k7
  have k18 : ai_hv t116 7 1 = some (gx_r 257) := (e116 7 1 (by first | decide | omega)).trans k8
  have k19 : ai_hv t116 260 5 = some (.inl 0) := (e116 260 5 (by first | decide | omega)).trans k9
  have k20 : ai_hv t116 266 5 = some (.inl 0) := (e116 266 5 (by first | decide | omega)).trans k10
  have k21 : ai_hv t116 272 5 = some (.inl 0) := (e116 272 5 (by first | decide | omega)).trans k11
  have k22 : ai_hv t116 278 5 = some (.inl 0) := (e116 278 5 (by first | decide | omega)).trans k12
  have k23 : ai_hv t116 284 5 = some (.inl 0) := (e116 284 5 (by first | decide | omega)).trans k13
  have k24 : ai_hv t116 290 5 = some (.inl 0) := (e116 290 5 (by first | decide | omega)).trans k14
  have k25 : ai_hv t116 257 2 = some (.inl 2) := (e116 257 2 (by first | decide | omega)).trans k15
  have k26 : ai_hv t116 7 4 = some (.inl 0) := (e116 7 4 (by first | decide | omega)).trans k106
  refine ex_go (S := (23, [(0, gx_r 7), (1, gx_r 257)], [gx_r 7], t116, n, 0)) rfl (fun _ => rfl) rfl ?_
  refine ex_go (S := (24, [(0, gx_r 7), (1, gx_r 257)], [.inl 0, gx_r 7], t116, n, 0)) rfl (fun _ => rfl) rfl ?_
  refine gxo_put (a := 7) rfl g116 rfl rfl rfl (ai_in_h (by first | decide | omega) (by first | decide | omega) (by first | decide | omega)) rfl (fun t127 g127 k127 e127 => ?_)
  have k28 : ai_hv t127 1 0 = some (.inl m) := (e127 1 0 (by first | decide | omega)).trans k17
  have k29 : ai_hv t127 7 1 = some (gx_r 257) := (e127 7 1 (by first | decide | omega)).trans k18
  have k30 : ai_hv t127 260 5 = some (.inl 0) := (e127 260 5 (by first | decide | omega)).trans k19
  have k31 : ai_hv t127 266 5 = some (.inl 0) := (e127 266 5 (by first | decide | omega)).trans k20
  have k32 : ai_hv t127 272 5 = some (.inl 0) := (e127 272 5 (by first | decide | omega)).trans k21
  have k33 : ai_hv t127 278 5 = some (.inl 0) := (e127 278 5 (by first | decide | omega)).trans k22
  have k34 : ai_hv t127 284 5 = some (.inl 0) := (e127 284 5 (by first | decide | omega)).trans k23
  have k35 : ai_hv t127 290 5 = some (.inl 0) := (e127 290 5 (by first | decide | omega)).trans k24
  have k36 : ai_hv t127 257 2 = some (.inl 2) := (e127 257 2 (by first | decide | omega)).trans k25
  have k37 : ai_hv t127 7 4 = some (.inl 0) := (e127 7 4 (by first | decide | omega)).trans k26
  have k38 : ai_hv t127 7 5 = some (.inl 0) := (e127 7 5 (by first | decide | omega)).trans k116
  refine ex_go (S := (28, [(0, gx_r 7), (1, gx_r 257)], [gx_r 7], t127, n, 0)) rfl (fun _ => rfl) rfl ?_
  refine ex_go (S := (29, [(0, gx_r 7), (1, gx_r 257)], [.inl 0, gx_r 7], t127, n, 0)) rfl (fun _ => rfl) rfl ?_
  refine gxo_put (a := 7) rfl g127 rfl rfl rfl (ai_in_h (by first | decide | omega) (by first | decide | omega) (by first | decide | omega)) rfl (fun t139 g139 k139 e139 => ?_)
  have k40 : ai_hv t139 1 0 = some (.inl m) := (e139 1 0 (by first | decide | omega)).trans k28
  have k41 : ai_hv t139 7 1 = some (gx_r 257) := (e139 7 1 (by first | decide | omega)).trans k29
  have k42 : ai_hv t139 260 5 = some (.inl 0) := (e139 260 5 (by first | decide | omega)).trans k30
  have k43 : ai_hv t139 266 5 = some (.inl 0) := (e139 266 5 (by first | decide | omega)).trans k31
  have k44 : ai_hv t139 272 5 = some (.inl 0) := (e139 272 5 (by first | decide | omega)).trans k32
  have k45 : ai_hv t139 278 5 = some (.inl 0) := (e139 278 5 (by first | decide | omega)).trans k33
  have k46 : ai_hv t139 284 5 = some (.inl 0) := (e139 284 5 (by first | decide | omega)).trans k34
  have k47 : ai_hv t139 290 5 = some (.inl 0) := (e139 290 5 (by first | decide | omega)).trans k35
  have k48 : ai_hv t139 257 2 = some (.inl 2) := (e139 257 2 (by first | decide | omega)).trans k36
  have k49 : ai_hv t139 7 4 = some (.inl 0) := (e139 7 4 (by first | decide | omega)).trans k37
  have k50 : ai_hv t139 7 5 = some (.inl 0) := (e139 7 5 (by first | decide | omega)).trans k38
  have k51 : ai_hv t139 7 6 = some (.inl 0) := (e139 7 6 (by first | decide | omega)).trans k127
  refine ex_go (S := (33, [(0, gx_r 7), (1, gx_r 257)], [gx_r 7], t139, n, 0)) rfl (fun _ => rfl) rfl ?_
  refine gxo_ref (a := 7) (c := 1) rfl g139 rfl rfl rfl rfl rfl ?_
  obtain ⟨_, r152, t152, rfl, g152, k0_152, k1_152, k8_152, e152, N, hNm, hC1, hC2, hC3, hC4, hC5, hC6⟩ := pc_cut (d + 35) n (m := m) g139 hm k40 (fun i hi => ⟨((e139 2 i (by first | decide | omega)).trans ((e127 2 i (by first | decide | omega)).trans ((e116 2 i (by first | decide | omega)).trans ((e106 2 i (by first | decide | omega)).trans ((e103 2 i (by first | decide | omega)).trans (e101 2 i (by first | decide | omega))))))).trans (hS i hi).1, (hS i hi).2⟩)
  have s152 : cS t152 0 0 := ⟨g152, k8_152, k1_152, by omega, by omega⟩
  have hT : cT t152 S m N := ⟨hC1, hC2, hC3, hC4, hC5, hC6, ⟨hNm, hm⟩, fun i hi => (hS i hi).2⟩
  have b152 := s152.2.2.2
  have hN := hT.2.2.2.2.2.2.1
  refine gx_callo (a := 1) rfl rfl g139 rfl rfl rfl r152 rfl ?_
  have k53 : ai_hv t152 7 1 = some (gx_r 257) := (e152 7 1 (by first | decide | omega)).trans k41
  have k54 : ai_hv t152 260 5 = some (.inl 0) := (e152 260 5 (by first | decide | omega)).trans k42
  have k55 : ai_hv t152 266 5 = some (.inl 0) := (e152 266 5 (by first | decide | omega)).trans k43
  have k56 : ai_hv t152 272 5 = some (.inl 0) := (e152 272 5 (by first | decide | omega)).trans k44
  have k57 : ai_hv t152 278 5 = some (.inl 0) := (e152 278 5 (by first | decide | omega)).trans k45
  have k58 : ai_hv t152 284 5 = some (.inl 0) := (e152 284 5 (by first | decide | omega)).trans k46
  have k59 : ai_hv t152 290 5 = some (.inl 0) := (e152 290 5 (by first | decide | omega)).trans k47
  have k60 : ai_hv t152 257 2 = some (.inl 2) := (e152 257 2 (by first | decide | omega)).trans k48
  have k61 : ai_hv t152 7 4 = some (.inl 0) := (e152 7 4 (by first | decide | omega)).trans k49
  have k62 : ai_hv t152 7 5 = some (.inl 0) := (e152 7 5 (by first | decide | omega)).trans k50
  have k63 : ai_hv t152 7 6 = some (.inl 0) := (e152 7 6 (by first | decide | omega)).trans k51
  have k64 : ai_hv t152 7 7 = some (.inl 0) := (e152 7 7 (by first | decide | omega)).trans k139
  show en_ex _ _ _ _ (39, [(0, gx_r 7), (1, gx_r 257)], [], t152, n, 0) _
  refine ex_go (S := (40, [(0, gx_r 7), (1, gx_r 257)], [gx_r 7], t152, n, 0)) rfl (fun _ => rfl) rfl ?_
  refine gxo_ref (a := 7) (c := 1) rfl s152.1 rfl rfl rfl rfl rfl ?_
  refine ex_go (S := (46, [(0, gx_r 7), (1, gx_r 257)], [gx_w 0, gx_r 1], t152, n, 0)) rfl (fun _ => rfl) rfl ?_
  obtain ⟨_, r165, t165, a165, f165, rfl, s165, e165, z165, q165⟩ := pc_takeWord (d + 38) n (s152) hT (by first | decide | omega) (w := 0) (by first | decide | omega)
  have b165 := s165.2.2.2
  have y165 := z165.trans (congrArg (fw S m N 0) (rfl : ((0 : Nat), (0 : Nat)) = (0, 0)))
  refine gx_callo (a := 1) rfl rfl s152.1 rfl rfl rfl r165 rfl ?_
  have k66 : ai_hv t165 7 1 = some (gx_r 257) := (e165 7 1 (by first | decide | omega)).trans k53
  have k67 : ai_hv t165 260 5 = some (.inl 0) := (e165 260 5 (by first | decide | omega)).trans k54
  have k68 : ai_hv t165 266 5 = some (.inl 0) := (e165 266 5 (by first | decide | omega)).trans k55
  have k69 : ai_hv t165 272 5 = some (.inl 0) := (e165 272 5 (by first | decide | omega)).trans k56
  have k70 : ai_hv t165 278 5 = some (.inl 0) := (e165 278 5 (by first | decide | omega)).trans k57
  have k71 : ai_hv t165 284 5 = some (.inl 0) := (e165 284 5 (by first | decide | omega)).trans k58
  have k72 : ai_hv t165 290 5 = some (.inl 0) := (e165 290 5 (by first | decide | omega)).trans k59
  have k73 : ai_hv t165 257 2 = some (.inl 2) := (e165 257 2 (by first | decide | omega)).trans k60
  have k74 : ai_hv t165 7 4 = some (.inl 0) := (e165 7 4 (by first | decide | omega)).trans k61
  have k75 : ai_hv t165 7 5 = some (.inl 0) := (e165 7 5 (by first | decide | omega)).trans k62
  have k76 : ai_hv t165 7 6 = some (.inl 0) := (e165 7 6 (by first | decide | omega)).trans k63
  have k77 : ai_hv t165 7 7 = some (.inl 0) := (e165 7 7 (by first | decide | omega)).trans k64
  show en_ex _ _ _ _ (49, [(0, gx_r 7), (1, gx_r 257)], [], t165, n, 0) _
  refine ex_go (S := (50, [(0, gx_r 7), (1, gx_r 257)], [gx_r 7], t165, n, 0)) rfl (fun _ => rfl) rfl ?_
  refine gxo_get (a := 7) rfl s165.1 rfl rfl k66 rfl ?_
  refine ex_go (S := (54, [(0, gx_r 7), (1, gx_r 257)], [gx_r 7, gx_r 257], t165, n, 0)) rfl (fun _ => rfl) rfl ?_
  refine gxo_ref (a := 7) (c := 1) rfl s165.1 rfl rfl rfl rfl rfl ?_
  refine ex_go (S := (58, [(0, gx_r 7), (1, gx_r 257)], [.inl 2, gx_r 1, gx_r 257], t165, n, 0)) rfl (fun _ => rfl) rfl ?_
  refine ex_go (S := (60, [(0, gx_r 7), (1, gx_r 257)], [.inl 8, .inl 2, gx_r 1, gx_r 257], t165, n, 0)) rfl (fun _ => rfl) rfl ?_
  have hT79 := cT_keep (t' := t165) hT (fun c i h => e165 c i (by first | decide | omega))
  obtain ⟨_, r178, v178, t178, a178, f178, rfl, s178, e178, z178, q178⟩ := pc_takeNumber (d + 38) n (s165) hT79 (by first | decide | omega) (lo := 2) (hi := 8) (by first | decide | omega) (by first | decide | omega) (by first | decide | omega)
  have b178 := s178.2.2.2
  have y178 := z178.trans (congrArg (fn S m N 2 8) y165)
  refine gx_callo (a := 1) rfl rfl s165.1 rfl rfl rfl r178 rfl ?_
  have k80 : ai_hv t178 7 1 = some (gx_r 257) := (e178 7 1 (by first | decide | omega)).trans k66
  have k81 : ai_hv t178 260 5 = some (.inl 0) := (e178 260 5 (by first | decide | omega)).trans k67
  have k82 : ai_hv t178 266 5 = some (.inl 0) := (e178 266 5 (by first | decide | omega)).trans k68
  have k83 : ai_hv t178 272 5 = some (.inl 0) := (e178 272 5 (by first | decide | omega)).trans k69
  have k84 : ai_hv t178 278 5 = some (.inl 0) := (e178 278 5 (by first | decide | omega)).trans k70
  have k85 : ai_hv t178 284 5 = some (.inl 0) := (e178 284 5 (by first | decide | omega)).trans k71
  have k86 : ai_hv t178 290 5 = some (.inl 0) := (e178 290 5 (by first | decide | omega)).trans k72
  have k87 : ai_hv t178 257 2 = some (.inl 2) := (e178 257 2 (by first | decide | omega)).trans k73
  have k88 : ai_hv t178 7 4 = some (.inl 0) := (e178 7 4 (by first | decide | omega)).trans k74
  have k89 : ai_hv t178 7 5 = some (.inl 0) := (e178 7 5 (by first | decide | omega)).trans k75
  have k90 : ai_hv t178 7 6 = some (.inl 0) := (e178 7 6 (by first | decide | omega)).trans k76
  have k91 : ai_hv t178 7 7 = some (.inl 0) := (e178 7 7 (by first | decide | omega)).trans k77
  show en_ex _ _ _ _ (63, [(0, gx_r 7), (1, gx_r 257)], [.inl v178, gx_r 257], t178, n, 0) _
  refine gxo_put (a := 257) rfl s178.1 rfl rfl rfl (gx_full (by first | decide | omega)) rfl (fun t192 g192 k192 e192 => ?_)
  have k93 : ai_hv t192 7 1 = some (gx_r 257) := (e192 7 1 (by first | decide | omega)).trans k80
  have k94 : ai_hv t192 260 5 = some (.inl 0) := (e192 260 5 (by first | decide | omega)).trans k81
  have k95 : ai_hv t192 266 5 = some (.inl 0) := (e192 266 5 (by first | decide | omega)).trans k82
  have k96 : ai_hv t192 272 5 = some (.inl 0) := (e192 272 5 (by first | decide | omega)).trans k83
  have k97 : ai_hv t192 278 5 = some (.inl 0) := (e192 278 5 (by first | decide | omega)).trans k84
  have k98 : ai_hv t192 284 5 = some (.inl 0) := (e192 284 5 (by first | decide | omega)).trans k85
  have k99 : ai_hv t192 290 5 = some (.inl 0) := (e192 290 5 (by first | decide | omega)).trans k86
  have k100 : ai_hv t192 257 2 = some (.inl 2) := (e192 257 2 (by first | decide | omega)).trans k87
  have k101 : ai_hv t192 7 4 = some (.inl 0) := (e192 7 4 (by first | decide | omega)).trans k88
  have k102 : ai_hv t192 7 5 = some (.inl 0) := (e192 7 5 (by first | decide | omega)).trans k89
  have k103 : ai_hv t192 7 6 = some (.inl 0) := (e192 7 6 (by first | decide | omega)).trans k90
  have k104 : ai_hv t192 7 7 = some (.inl 0) := (e192 7 7 (by first | decide | omega)).trans k91
  have s192 : cS t192 a178 f178 := ⟨g192, (e192 1 8 (by first | decide | omega)).trans s178.2.1, (e192 1 1 (by first | decide | omega)).trans s178.2.2.1, s178.2.2.2⟩
  refine ex_go (S := (67, [(0, gx_r 7), (1, gx_r 257)], [gx_r 7], t192, n, 0)) rfl (fun _ => rfl) rfl ?_
  refine gxo_get (a := 7) rfl s192.1 rfl rfl k93 rfl ?_
  refine ex_go (S := (71, [(0, gx_r 7), (1, gx_r 257)], [gx_r 7, gx_r 257], t192, n, 0)) rfl (fun _ => rfl) rfl ?_
  refine gxo_ref (a := 7) (c := 1) rfl s192.1 rfl rfl rfl rfl rfl ?_
  refine ex_go (S := (75, [(0, gx_r 7), (1, gx_r 257)], [.inl 2, gx_r 1, gx_r 257], t192, n, 0)) rfl (fun _ => rfl) rfl ?_
  refine ex_go (S := (77, [(0, gx_r 7), (1, gx_r 257)], [.inl 8, .inl 2, gx_r 1, gx_r 257], t192, n, 0)) rfl (fun _ => rfl) rfl ?_
  have hT106 := cT_keep (t' := t192) hT (fun c i h => (e192 c i (by first | decide | omega)).trans ((e178 c i (by first | decide | omega)).trans (e165 c i (by first | decide | omega))))
  obtain ⟨_, r205, v205, t205, a205, f205, rfl, s205, e205, z205, q205⟩ := pc_takeNumber (d + 38) n (s192) hT106 (by first | decide | omega) (lo := 2) (hi := 8) (by first | decide | omega) (by first | decide | omega) (by first | decide | omega)
  have b205 := s205.2.2.2
  have y205 := z205.trans (congrArg (fn S m N 2 8) y178)
  refine gx_callo (a := 1) rfl rfl s192.1 rfl rfl rfl r205 rfl ?_
  have k107 : ai_hv t205 7 1 = some (gx_r 257) := (e205 7 1 (by first | decide | omega)).trans k93
  have k108 : ai_hv t205 260 5 = some (.inl 0) := (e205 260 5 (by first | decide | omega)).trans k94
  have k109 : ai_hv t205 266 5 = some (.inl 0) := (e205 266 5 (by first | decide | omega)).trans k95
  have k110 : ai_hv t205 272 5 = some (.inl 0) := (e205 272 5 (by first | decide | omega)).trans k96
  have k111 : ai_hv t205 278 5 = some (.inl 0) := (e205 278 5 (by first | decide | omega)).trans k97
  have k112 : ai_hv t205 284 5 = some (.inl 0) := (e205 284 5 (by first | decide | omega)).trans k98
  have k113 : ai_hv t205 290 5 = some (.inl 0) := (e205 290 5 (by first | decide | omega)).trans k99
  have k114 : ai_hv t205 257 2 = some (.inl 2) := (e205 257 2 (by first | decide | omega)).trans k100
  have k115 : ai_hv t205 7 4 = some (.inl 0) := (e205 7 4 (by first | decide | omega)).trans k101
  have k116 : ai_hv t205 7 5 = some (.inl 0) := (e205 7 5 (by first | decide | omega)).trans k102
  have k117 : ai_hv t205 7 6 = some (.inl 0) := (e205 7 6 (by first | decide | omega)).trans k103
  have k118 : ai_hv t205 7 7 = some (.inl 0) := (e205 7 7 (by first | decide | omega)).trans k104
  have k119 : ai_hv t205 257 0 = some (.inl v178) := (e205 257 0 (by first | decide | omega)).trans k192
  show en_ex _ _ _ _ (80, [(0, gx_r 7), (1, gx_r 257)], [.inl v205, gx_r 257], t205, n, 0) _
  refine gxo_put (a := 257) rfl s205.1 rfl rfl rfl (gx_full (by first | decide | omega)) rfl (fun t220 g220 k220 e220 => ?_)
  have k121 : ai_hv t220 7 1 = some (gx_r 257) := (e220 7 1 (by first | decide | omega)).trans k107
  have k122 : ai_hv t220 260 5 = some (.inl 0) := (e220 260 5 (by first | decide | omega)).trans k108
  have k123 : ai_hv t220 266 5 = some (.inl 0) := (e220 266 5 (by first | decide | omega)).trans k109
  have k124 : ai_hv t220 272 5 = some (.inl 0) := (e220 272 5 (by first | decide | omega)).trans k110
  have k125 : ai_hv t220 278 5 = some (.inl 0) := (e220 278 5 (by first | decide | omega)).trans k111
  have k126 : ai_hv t220 284 5 = some (.inl 0) := (e220 284 5 (by first | decide | omega)).trans k112
  have k127 : ai_hv t220 290 5 = some (.inl 0) := (e220 290 5 (by first | decide | omega)).trans k113
  have k128 : ai_hv t220 257 2 = some (.inl 2) := (e220 257 2 (by first | decide | omega)).trans k114
  have k129 : ai_hv t220 7 4 = some (.inl 0) := (e220 7 4 (by first | decide | omega)).trans k115
  have k130 : ai_hv t220 7 5 = some (.inl 0) := (e220 7 5 (by first | decide | omega)).trans k116
  have k131 : ai_hv t220 7 6 = some (.inl 0) := (e220 7 6 (by first | decide | omega)).trans k117
  have k132 : ai_hv t220 7 7 = some (.inl 0) := (e220 7 7 (by first | decide | omega)).trans k118
  have k133 : ai_hv t220 257 0 = some (.inl v178) := (e220 257 0 (by first | decide | omega)).trans k119
  have s220 : cS t220 a205 f205 := ⟨g220, (e220 1 8 (by first | decide | omega)).trans s205.2.1, (e220 1 1 (by first | decide | omega)).trans s205.2.2.1, s205.2.2.2⟩
  refine ex_go (S := (84, [(0, gx_r 7), (1, gx_r 257)], [gx_r 7], t220, n, 0)) rfl (fun _ => rfl) rfl ?_
  refine gxo_ref (a := 7) (c := 1) rfl s220.1 rfl rfl rfl rfl rfl ?_
  refine ex_go (S := (89, [(0, gx_r 7), (1, gx_r 257)], [.inl 59, gx_r 1], t220, n, 0)) rfl (fun _ => rfl) rfl ?_
  have hT135 := cT_keep (t' := t220) hT (fun c i h => (e220 c i (by first | decide | omega)).trans ((e205 c i (by first | decide | omega)).trans ((e192 c i (by first | decide | omega)).trans ((e178 c i (by first | decide | omega)).trans (e165 c i (by first | decide | omega))))))
  obtain ⟨_, r234, t234, a234, f234, rfl, s234, e234, z234, q234⟩ := pc_takeSign (d + 38) n (s220) hT135 (by first | decide | omega) (w := 59) (by first | decide | omega)
  have b234 := s234.2.2.2
  have y234 := z234.trans (congrArg (fs S m N 59) y205)
  refine gx_callo (a := 1) rfl rfl s220.1 rfl rfl rfl r234 rfl ?_
  have k136 : ai_hv t234 7 1 = some (gx_r 257) := (e234 7 1 (by first | decide | omega)).trans k121
  have k137 : ai_hv t234 260 5 = some (.inl 0) := (e234 260 5 (by first | decide | omega)).trans k122
  have k138 : ai_hv t234 266 5 = some (.inl 0) := (e234 266 5 (by first | decide | omega)).trans k123
  have k139 : ai_hv t234 272 5 = some (.inl 0) := (e234 272 5 (by first | decide | omega)).trans k124
  have k140 : ai_hv t234 278 5 = some (.inl 0) := (e234 278 5 (by first | decide | omega)).trans k125
  have k141 : ai_hv t234 284 5 = some (.inl 0) := (e234 284 5 (by first | decide | omega)).trans k126
  have k142 : ai_hv t234 290 5 = some (.inl 0) := (e234 290 5 (by first | decide | omega)).trans k127
  have k143 : ai_hv t234 257 2 = some (.inl 2) := (e234 257 2 (by first | decide | omega)).trans k128
  have k144 : ai_hv t234 7 4 = some (.inl 0) := (e234 7 4 (by first | decide | omega)).trans k129
  have k145 : ai_hv t234 7 5 = some (.inl 0) := (e234 7 5 (by first | decide | omega)).trans k130
  have k146 : ai_hv t234 7 6 = some (.inl 0) := (e234 7 6 (by first | decide | omega)).trans k131
  have k147 : ai_hv t234 7 7 = some (.inl 0) := (e234 7 7 (by first | decide | omega)).trans k132
  have k148 : ai_hv t234 257 0 = some (.inl v178) := (e234 257 0 (by first | decide | omega)).trans k133
  have k149 : ai_hv t234 257 1 = some (.inl v205) := (e234 257 1 (by first | decide | omega)).trans k220
  show en_ex _ _ _ _ (92, [(0, gx_r 7), (1, gx_r 257)], [], t234, n, 0) _
  refine ex_go (S := (93, [(0, gx_r 7), (1, gx_r 257)], [.inl 0], t234, n, 0)) rfl (fun _ => rfl) rfl ?_
  refine ex_go (S := (94, [(2, .inl 0), (0, gx_r 7), (1, gx_r 257)], [], t234, n, 0)) rfl (fun _ => rfl) rfl ?_
  have hv1 : f234 = 0 → v178 = sp_nv S m 1 ∧ 2 ≤ v178 ∧ v178 ≤ 8 := fun z => by
    have h9 : a165 = 1 := by omega
    rw [← h9]; omega
  have hv2 : f234 = 0 → v205 = sp_nv S m 2 ∧ 2 ≤ v205 ∧ v205 ≤ 8 := fun z => by
    have h9 : a178 = 2 := by omega
    rw [← h9]; omega
  have hT150 := cT_keep (t' := t234) hT (fun c i h => (e234 c i (by first | decide | omega)).trans ((e220 c i (by first | decide | omega)).trans ((e205 c i (by first | decide | omega)).trans ((e192 c i (by first | decide | omega)).trans ((e178 c i (by first | decide | omega)).trans (e165 c i (by first | decide | omega)))))))
  refine pc_pack257_l d n (tb := t0) (K := 1001) (σ0 := sg_0 S m) (p0 := sl_0 S m N) (fun k1 t1 a1 f1 s1 hT1 hP1 w1 hO1 hPk => ?_) 1000 0 (sg_0 S m) t234 a234 f234 (by first | decide | omega) (by first | decide | omega) s234 hT150 (by first | decide | omega) k136 (fun c i h => (e234 c i (by first | decide | omega)).trans ((e220 c i (by first | decide | omega)).trans ((e205 c i (by first | decide | omega)).trans ((e192 c i (by first | decide | omega)).trans ((e178 c i (by first | decide | omega)).trans ((e165 c i (by first | decide | omega)).trans ((e152 c i (by first | decide | omega)).trans ((e139 c i (by first | decide | omega)).trans ((e127 c i (by first | decide | omega)).trans ((e116 c i (by first | decide | omega)).trans ((e106 c i (by first | decide | omega)).trans ((e103 c i (by first | decide | omega)).trans (e101 c i (by first | decide | omega)))))))))))))) (fun h0 => ⟨?_, W3_0 (by have := hv1 h0; omega) (by have := hv2 h0; omega), fun k hk => ⟨[cdf k], Or.inr ⟨rfl, rfl⟩, ?_⟩⟩) (fun f1 h1 => by unfold sl_0; rw [← y234]; exact h1) (fun υ h1 => by unfold sl_0; rw [← y234]; exact h1)
  · exact pc_readPack257_t d n hE h28 s1 hT1 hP1 w1 hO1 hPk hJ
  · refine ⟨⟨?_, ?_, k137, k138, k139, k140, k141, k142, k144, k145, k146, k147⟩, fun i hi => absurd hi (Nat.not_lt_zero i), fun i hi => absurd hi (Nat.not_lt_zero i), fun i hi => absurd hi (Nat.not_lt_zero i), fun i hi => absurd hi (Nat.not_lt_zero i), fun i hi => absurd hi (Nat.not_lt_zero i), fun i hi => absurd hi (Nat.not_lt_zero i), fun i hi => absurd hi (Nat.not_lt_zero i), fun i hi => absurd hi (Nat.not_lt_zero i), fun i hi => absurd hi (Nat.not_lt_zero i), fun i hi => absurd hi (Nat.not_lt_zero i), fun i hi => absurd hi (Nat.not_lt_zero i), fun i hi => absurd hi (Nat.not_lt_zero i), fun i hi => absurd hi (Nat.not_lt_zero i), fun i hi => absurd hi (Nat.not_lt_zero i), fun i hi => absurd hi (Nat.not_lt_zero i), fun i hi => absurd hi (Nat.not_lt_zero i), fun i hi => absurd hi (Nat.not_lt_zero i), fun i hi => absurd hi (Nat.not_lt_zero i), k143, fun i hi => ((e234 258 i (by first | decide | omega)).trans ((e220 258 i (by first | decide | omega)).trans ((e205 258 i (by first | decide | omega)).trans ((e192 258 i (by first | decide | omega)).trans ((e178 258 i (by first | decide | omega)).trans ((e165 258 i (by first | decide | omega)).trans ((e152 258 i (by first | decide | omega)).trans ((e139 258 i (by first | decide | omega)).trans ((e127 258 i (by first | decide | omega)).trans ((e116 258 i (by first | decide | omega)).trans (e106 258 i (by first | decide | omega)))))))))))).trans (z4 i hi)⟩
    · show _ = some (Sum.inl (sp_nv S m 1))
      rw [← (hv1 h0).1]; exact k148
    · show _ = some (Sum.inl (sp_nv S m 2))
      rw [← (hv2 h0).1]; exact k149
  · rcases (show k = 0 ∨ k = 1 ∨ k = 2 by omega) with rfl | rfl | rfl
    · exact CLs_keep hcl0 ((e234 296 2 (by first | decide | omega)).trans ((e220 296 2 (by first | decide | omega)).trans ((e205 296 2 (by first | decide | omega)).trans ((e192 296 2 (by first | decide | omega)).trans ((e178 296 2 (by first | decide | omega)).trans ((e165 296 2 (by first | decide | omega)).trans ((e152 296 2 (by first | decide | omega)).trans ((e139 296 2 (by first | decide | omega)).trans ((e127 296 2 (by first | decide | omega)).trans ((e116 296 2 (by first | decide | omega)).trans (e106 296 2 (by first | decide | omega)))))))))))) (fun j => (e234 298 j (by first | decide | omega)).trans ((e220 298 j (by first | decide | omega)).trans ((e205 298 j (by first | decide | omega)).trans ((e192 298 j (by first | decide | omega)).trans ((e178 298 j (by first | decide | omega)).trans ((e165 298 j (by first | decide | omega)).trans ((e152 298 j (by first | decide | omega)).trans ((e139 298 j (by first | decide | omega)).trans ((e127 298 j (by first | decide | omega)).trans ((e116 298 j (by first | decide | omega)).trans (e106 298 j (by first | decide | omega))))))))))))
    · exact CLs_keep hcl1 ((e234 299 2 (by first | decide | omega)).trans ((e220 299 2 (by first | decide | omega)).trans ((e205 299 2 (by first | decide | omega)).trans ((e192 299 2 (by first | decide | omega)).trans ((e178 299 2 (by first | decide | omega)).trans ((e165 299 2 (by first | decide | omega)).trans ((e152 299 2 (by first | decide | omega)).trans ((e139 299 2 (by first | decide | omega)).trans ((e127 299 2 (by first | decide | omega)).trans ((e116 299 2 (by first | decide | omega)).trans (e106 299 2 (by first | decide | omega)))))))))))) (fun j => (e234 301 j (by first | decide | omega)).trans ((e220 301 j (by first | decide | omega)).trans ((e205 301 j (by first | decide | omega)).trans ((e192 301 j (by first | decide | omega)).trans ((e178 301 j (by first | decide | omega)).trans ((e165 301 j (by first | decide | omega)).trans ((e152 301 j (by first | decide | omega)).trans ((e139 301 j (by first | decide | omega)).trans ((e127 301 j (by first | decide | omega)).trans ((e116 301 j (by first | decide | omega)).trans (e106 301 j (by first | decide | omega))))))))))))
    · exact CLs_keep hcl2 ((e234 302 2 (by first | decide | omega)).trans ((e220 302 2 (by first | decide | omega)).trans ((e205 302 2 (by first | decide | omega)).trans ((e192 302 2 (by first | decide | omega)).trans ((e178 302 2 (by first | decide | omega)).trans ((e165 302 2 (by first | decide | omega)).trans ((e152 302 2 (by first | decide | omega)).trans ((e139 302 2 (by first | decide | omega)).trans ((e127 302 2 (by first | decide | omega)).trans ((e116 302 2 (by first | decide | omega)).trans (e106 302 2 (by first | decide | omega)))))))))))) (fun j => (e234 304 j (by first | decide | omega)).trans ((e220 304 j (by first | decide | omega)).trans ((e205 304 j (by first | decide | omega)).trans ((e192 304 j (by first | decide | omega)).trans ((e178 304 j (by first | decide | omega)).trans ((e165 304 j (by first | decide | omega)).trans ((e152 304 j (by first | decide | omega)).trans ((e139 304 j (by first | decide | omega)).trans ((e127 304 j (by first | decide | omega)).trans ((e116 304 j (by first | decide | omega)).trans (e106 304 j (by first | decide | omega))))))))))))
theorem beg_z257_0 {q : Nat × Nat × Nat} (hq : q ∈ ct_21_0.2.2.2.1) (h1 : q.1 = 0) : False := by
  have hall : (ct_21_0.2.2.2.1).all (fun q => Nat.ble 8 q.1) = true := by decide +kernel
  have h9 := Nat.le_of_ble_eq_true (List.all_eq_true.mp hall q hq)
  omega
theorem beg_out257_0 {q : Nat × Nat × Nat} {c i : Nat} (hq : q ∈ ct_21_0.2.2.2.1) (h1 : q.1 = c) (h : (c = 7 ∧ 4 ≤ i) ∨ c = 257 ∧ i ≤ 2 ∨ c = 257 + 1 ∨ (257 + 3 ≤ c ∧ c ≤ 257 + 47)) : False := by
  have hall : (ct_21_0.2.2.2.1).all (fun q => (Nat.ble 8 q.1 && Nat.ble q.1 139) || Nat.ble 323 q.1) = true := by decide +kernel
  have h9 := List.all_eq_true.mp hall q hq
  rw [Bool.or_eq_true, Bool.and_eq_true] at h9
  rcases h9 with ⟨h9, h8⟩ | h9
  · have e1 := Nat.le_of_ble_eq_true h9
    have e2 := Nat.le_of_ble_eq_true h8
    omega
  · have e1 := Nat.le_of_ble_eq_true h9
    omega
theorem pc_pack257_0 (d n : Nat) {t0 : en_H} {S : Nat → Nat} {m : Nat} (g0 : ai_HG ah_G t0) (hE : ai_E t0) (h28 : c28 t0 191) (k10 : ai_hv t0 0 10 = some (gx_r 191)) (k11 : ai_hv t0 0 11 = some (gx_r 257)) (k12 : ai_hv t0 0 12 = some (gx_r 323)) (hm : m ≤ 1000) (km : ai_hv t0 1 0 = some (.inl m)) (hS : ∀ i, i < m → ai_hv t0 2 i = some (.inl (S i)) ∧ S i ≤ 127) (hJ : JRw t0 257) : ∃ r, en_u (d + 42) 32 [gx_r 0] t0 n = some r ∧ ∃ v t', r = (some (.inl v), t', n, 0) ∧ v < 2147483648 ∧ ∃ N, (∀ j, j < N → sp_st S m j < m) ∧ sp_st S m N = m ∧ Pk S m N 1001 (sg_0 S m) (sl_0 S m N) v ∧ (v = 0 → (∃ υ, Pt S m N 1001 (sg_0 S m) (sl_0 S m N) υ ∧ W3 S m N υ ∧ CA t' 257 S m υ ∧ CLw t' 257 S m N υ) ∧ ai_hv t' 0 10 = some (gx_r 257)) ∧ (v ≠ 0 → ai_hv t' 0 10 = some (gx_r 191) ∧ ∀ c i, 191 ≤ c → c ≤ 238 → ai_hv t' c i = ai_hv t0 c i) := by
  refine en_u_ex (d := d + 41) rfl ?_
  show en_ex _ _ _ _ (0, [(0, gx_r 0)], [], t0, n, 0) _
  refine ex_go (S := (1, [(0, gx_r 0)], [gx_r 0], t0, n, 0)) rfl (fun _ => rfl) rfl ?_
  refine gxo_ref (a := 0) (c := 7) rfl g0 rfl rfl rfl rfl rfl ?_
  refine ex_go (S := (5, [(0, gx_r 0)], [gx_r 0, gx_r 7], t0, n, 0)) rfl (fun _ => rfl) rfl ?_
  refine gxo_get (a := 0) rfl g0 rfl rfl k11 rfl ?_
  obtain ⟨_, r101, v101, t101, rfl, hv101, g101, E101, f0_101, hq0, N, hN1, hN2, hPk, hTl⟩ := pc_readPack257 d n (m := m) g0 hE h28 hm km hS (hJ)
  refine gx_callo (a := 7) rfl rfl g0 rfl rfl rfl r101 rfl ?_
  have e101 : ∀ c i, ¬ (c ≠ 0) → ai_hv t101 c i = ai_hv t0 c i := fun c i h => by rw [show c = 0 by omega]; exact f0_101 i
  have k2 : ai_hv t101 0 10 = some (gx_r 191) := (e101 0 10 (by first | decide | omega)).trans k10
  have k3 : ai_hv t101 0 11 = some (gx_r 257) := (e101 0 11 (by first | decide | omega)).trans k11
  have k4 : ai_hv t101 0 12 = some (gx_r 323) := (e101 0 12 (by first | decide | omega)).trans k12
  show en_ex _ _ _ _ (11, [(0, gx_r 0)], [.inl v101], t101, n, 0) _
  refine ex_go (S := (12, [(1, .inl v101), (0, gx_r 0)], [], t101, n, 0)) rfl (fun _ => rfl) rfl ?_
  refine ex_go (S := (13, [(1, .inl v101), (0, gx_r 0)], [.inl v101], t101, n, 0)) rfl (fun _ => rfl) rfl ?_
  by_cases hc5 : v101 = 0
  · refine gx_1t (c := .eq) rfl (by first | decide | omega) hc5 rfl ?_
    refine ex_go (S := (19, [(1, .inl v101), (0, gx_r 0)], [gx_r 0], t101, n, 0)) rfl (fun _ => rfl) rfl ?_
    refine gxo_get (a := 0) rfl g101 rfl rfl k2 rfl ?_
    refine ex_go (S := (23, [(2, gx_r 191), (1, .inl v101), (0, gx_r 0)], [], t101, n, 0)) rfl (fun _ => rfl) rfl ?_
    refine ex_go (S := (24, [(2, gx_r 191), (1, .inl v101), (0, gx_r 0)], [gx_r 0], t101, n, 0)) rfl (fun _ => rfl) rfl ?_
    refine ex_go (S := (25, [(2, gx_r 191), (1, .inl v101), (0, gx_r 0)], [gx_r 0, gx_r 0], t101, n, 0)) rfl (fun _ => rfl) rfl ?_
    refine gxo_get (a := 0) rfl g101 rfl rfl k3 rfl ?_
    refine gxo_putr (a := 0) (h := .inr (.inr [291, 357])) rfl g101 rfl rfl rfl (refin_r (by decide)) rfl (fun t106 g106 k106 e106 => ?_)
    have k7 : ai_hv t106 0 11 = some (gx_r 257) := (e106 0 11 (by first | decide | omega)).trans k3
    have k8 : ai_hv t106 0 12 = some (gx_r 323) := (e106 0 12 (by first | decide | omega)).trans k4
    refine ex_go (S := (32, [(2, gx_r 191), (1, .inl v101), (0, gx_r 0)], [gx_r 0], t106, n, 0)) rfl (fun _ => rfl) rfl ?_
    refine ex_go (S := (33, [(2, gx_r 191), (1, .inl v101), (0, gx_r 0)], [gx_r 191, gx_r 0], t106, n, 0)) rfl (fun _ => rfl) rfl ?_
    refine gxo_putr (a := 0) (h := .inr (.inr [291, 357])) rfl g106 rfl rfl rfl (refin_r (by decide)) rfl (fun t109 g109 k109 e109 => ?_)
    have k10 : ai_hv t109 0 12 = some (gx_r 323) := (e109 0 12 (by first | decide | omega)).trans k8
    have k11 : ai_hv t109 0 10 = some (gx_r 257) := (e109 0 10 (by first | decide | omega)).trans k106
    refine ex_go (S := (37, [(2, gx_r 191), (1, .inl v101), (0, gx_r 0)], [gx_r 0], t109, n, 0)) rfl (fun _ => rfl) rfl ?_
    have E9 : ai_E t109 := ai_E_kept E101 (fun c i hz => by have h9 := frz_ge hz; exact (e109 c i (by first | decide | omega)).trans (e106 c i (by first | decide | omega)))
    obtain ⟨⟨rv112, t112, rn112, rs112⟩, r112, hn112, hs112, g112, fr112, E112b, o112, ho112, ro112, hh112⟩ := (ac_all (d + 41) 21 ce_21_0 (show ce_21_0 ∈ cm_21 from List.mem_cons_self) (Nat.lt_of_lt_of_le (show ce_21_0.1 < 40 by decide) (by first | decide | omega))) (fun _ => 0) [gx_r 0] t109 n ⟨gx_vref 0, trivial⟩ g109 (fun q9 hq => by
      rcases List.mem_cons.mp hq with rfl | hq
      · exact ⟨_, k11, refin_r (by decide)⟩
      · rcases List.mem_cons.mp hq with rfl | hq
        · exact ⟨_, k10, refin_r (by decide)⟩
        · exact absurd hq List.not_mem_nil) E9
    have hn112 : n = rn112 := hn112.symm
    have hs112 : rs112 = 0 := hs112
    subst hn112 hs112
    have ho112 := List.mem_singleton.mp ho112
    subst ho112
    have hv112 : rv112 = none := by
      cases rv112 with
      | none => rfl
      | some w => exact ro112.elim
    subst hv112
    refine gx_callo (a := 0) rfl rfl g109 rfl rfl rfl r112 rfl ?_
    show en_ex _ _ _ _ (40, [(2, gx_r 191), (1, .inl v101), (0, gx_r 0)], [], t112, n, 0) _
    refine ex_go (S := (41, [(2, gx_r 191), (1, .inl v101), (0, gx_r 0)], [.inl 0], t112, n, 0)) rfl (fun _ => rfl) rfl ?_
    refine ex_ret (r := (some (.inl 0), t112, n, 0)) rfl (fun _ => rfl) ?_
    obtain ⟨⟨υ, u1, u2, u3, u4⟩, -⟩ := hTl (by first | decide | omega)
    exact ⟨_, rfl, 0, t112, rfl, by omega, N, hN1, hN2, by rw [show (0 : Nat) = v101 by omega]; exact hPk, fun _ => ⟨⟨υ, u1, u2, CA_keep2 (by first | decide | omega) u3 (fun c i h => (fr112 c i (fun z => by obtain ⟨q9, m1, m2, m3, m4⟩ := z; exact beg_out257_0 (c := c) (i := i) m1 m2 (by first | decide | omega))).trans ((e109 c i (by first | decide | omega)).trans (e106 c i (by first | decide | omega)))), CLw_keep u4 (fun c i l1 l2 => (fr112 c i (fun z => by obtain ⟨q9, m1, m2, m3, m4⟩ := z; exact beg_out257_0 (c := c) (i := i) m1 m2 (by first | decide | omega))).trans ((e109 c i (by first | decide | omega)).trans (e106 c i (by first | decide | omega)))) (fun _ => ⟨rfl, rfl⟩)⟩, (fr112 0 10 (fun z => by obtain ⟨q9, m1, m2, m3, m4⟩ := z; exact beg_z257_0 m1 m2)).trans k11⟩, fun z => absurd rfl z⟩
  · refine gx_1f (c := .eq) rfl (by first | decide | omega) hc5 rfl ?_
    refine ex_go (S := (17, [(1, .inl v101), (0, gx_r 0)], [.inl v101], t101, n, 0)) rfl (fun _ => rfl) rfl ?_
    refine ex_ret (r := (some (.inl v101), t101, n, 0)) rfl (fun _ => rfl) ?_
    exact ⟨_, rfl, v101, t101, rfl, by omega, N, hN1, hN2, hPk, (fun z => by omega), fun _ => ⟨k2, hq0⟩⟩
theorem beg_z257_1 {q : Nat × Nat × Nat} (hq : q ∈ ct_21_1.2.2.2.1) (h1 : q.1 = 0) : False := by
  have hall : (ct_21_1.2.2.2.1).all (fun q => Nat.ble 8 q.1) = true := by decide +kernel
  have h9 := Nat.le_of_ble_eq_true (List.all_eq_true.mp hall q hq)
  omega
theorem beg_out257_1 {q : Nat × Nat × Nat} {c i : Nat} (hq : q ∈ ct_21_1.2.2.2.1) (h1 : q.1 = c) (h : (c = 7 ∧ 4 ≤ i) ∨ c = 257 ∧ i ≤ 2 ∨ c = 257 + 1 ∨ (257 + 3 ≤ c ∧ c ≤ 257 + 47)) : False := by
  have hall : (ct_21_1.2.2.2.1).all (fun q => (Nat.ble 8 q.1 && Nat.ble q.1 139) || Nat.ble 323 q.1) = true := by decide +kernel
  have h9 := List.all_eq_true.mp hall q hq
  rw [Bool.or_eq_true, Bool.and_eq_true] at h9
  rcases h9 with ⟨h9, h8⟩ | h9
  · have e1 := Nat.le_of_ble_eq_true h9
    have e2 := Nat.le_of_ble_eq_true h8
    omega
  · have e1 := Nat.le_of_ble_eq_true h9
    omega
theorem pc_pack257_1 (d n : Nat) {t0 : en_H} {S : Nat → Nat} {m : Nat} (g0 : ai_HG ah_G t0) (hE : ai_E t0) (h28 : c28 t0 191) (k10 : ai_hv t0 0 10 = some (gx_r 191)) (k11 : ai_hv t0 0 11 = some (gx_r 257)) (k12 : ai_hv t0 0 12 = some (gx_r 329)) (hm : m ≤ 1000) (km : ai_hv t0 1 0 = some (.inl m)) (hS : ∀ i, i < m → ai_hv t0 2 i = some (.inl (S i)) ∧ S i ≤ 127) (hJ : JRw t0 257) : ∃ r, en_u (d + 42) 32 [gx_r 0] t0 n = some r ∧ ∃ v t', r = (some (.inl v), t', n, 0) ∧ v < 2147483648 ∧ ∃ N, (∀ j, j < N → sp_st S m j < m) ∧ sp_st S m N = m ∧ Pk S m N 1001 (sg_0 S m) (sl_0 S m N) v ∧ (v = 0 → (∃ υ, Pt S m N 1001 (sg_0 S m) (sl_0 S m N) υ ∧ W3 S m N υ ∧ CA t' 257 S m υ ∧ CLw t' 257 S m N υ) ∧ ai_hv t' 0 10 = some (gx_r 257)) ∧ (v ≠ 0 → ai_hv t' 0 10 = some (gx_r 191) ∧ ∀ c i, 191 ≤ c → c ≤ 238 → ai_hv t' c i = ai_hv t0 c i) := by
  refine en_u_ex (d := d + 41) rfl ?_
  show en_ex _ _ _ _ (0, [(0, gx_r 0)], [], t0, n, 0) _
  refine ex_go (S := (1, [(0, gx_r 0)], [gx_r 0], t0, n, 0)) rfl (fun _ => rfl) rfl ?_
  refine gxo_ref (a := 0) (c := 7) rfl g0 rfl rfl rfl rfl rfl ?_
  refine ex_go (S := (5, [(0, gx_r 0)], [gx_r 0, gx_r 7], t0, n, 0)) rfl (fun _ => rfl) rfl ?_
  refine gxo_get (a := 0) rfl g0 rfl rfl k11 rfl ?_
  obtain ⟨_, r101, v101, t101, rfl, hv101, g101, E101, f0_101, hq0, N, hN1, hN2, hPk, hTl⟩ := pc_readPack257 d n (m := m) g0 hE h28 hm km hS (hJ)
  refine gx_callo (a := 7) rfl rfl g0 rfl rfl rfl r101 rfl ?_
  have e101 : ∀ c i, ¬ (c ≠ 0) → ai_hv t101 c i = ai_hv t0 c i := fun c i h => by rw [show c = 0 by omega]; exact f0_101 i
  have k2 : ai_hv t101 0 10 = some (gx_r 191) := (e101 0 10 (by first | decide | omega)).trans k10
  have k3 : ai_hv t101 0 11 = some (gx_r 257) := (e101 0 11 (by first | decide | omega)).trans k11
  have k4 : ai_hv t101 0 12 = some (gx_r 329) := (e101 0 12 (by first | decide | omega)).trans k12
  show en_ex _ _ _ _ (11, [(0, gx_r 0)], [.inl v101], t101, n, 0) _
  refine ex_go (S := (12, [(1, .inl v101), (0, gx_r 0)], [], t101, n, 0)) rfl (fun _ => rfl) rfl ?_
  refine ex_go (S := (13, [(1, .inl v101), (0, gx_r 0)], [.inl v101], t101, n, 0)) rfl (fun _ => rfl) rfl ?_
  by_cases hc5 : v101 = 0
  · refine gx_1t (c := .eq) rfl (by first | decide | omega) hc5 rfl ?_
    refine ex_go (S := (19, [(1, .inl v101), (0, gx_r 0)], [gx_r 0], t101, n, 0)) rfl (fun _ => rfl) rfl ?_
    refine gxo_get (a := 0) rfl g101 rfl rfl k2 rfl ?_
    refine ex_go (S := (23, [(2, gx_r 191), (1, .inl v101), (0, gx_r 0)], [], t101, n, 0)) rfl (fun _ => rfl) rfl ?_
    refine ex_go (S := (24, [(2, gx_r 191), (1, .inl v101), (0, gx_r 0)], [gx_r 0], t101, n, 0)) rfl (fun _ => rfl) rfl ?_
    refine ex_go (S := (25, [(2, gx_r 191), (1, .inl v101), (0, gx_r 0)], [gx_r 0, gx_r 0], t101, n, 0)) rfl (fun _ => rfl) rfl ?_
    refine gxo_get (a := 0) rfl g101 rfl rfl k3 rfl ?_
    refine gxo_putr (a := 0) (h := .inr (.inr [291, 357])) rfl g101 rfl rfl rfl (refin_r (by decide)) rfl (fun t106 g106 k106 e106 => ?_)
    have k7 : ai_hv t106 0 11 = some (gx_r 257) := (e106 0 11 (by first | decide | omega)).trans k3
    have k8 : ai_hv t106 0 12 = some (gx_r 329) := (e106 0 12 (by first | decide | omega)).trans k4
    refine ex_go (S := (32, [(2, gx_r 191), (1, .inl v101), (0, gx_r 0)], [gx_r 0], t106, n, 0)) rfl (fun _ => rfl) rfl ?_
    refine ex_go (S := (33, [(2, gx_r 191), (1, .inl v101), (0, gx_r 0)], [gx_r 191, gx_r 0], t106, n, 0)) rfl (fun _ => rfl) rfl ?_
    refine gxo_putr (a := 0) (h := .inr (.inr [291, 357])) rfl g106 rfl rfl rfl (refin_r (by decide)) rfl (fun t109 g109 k109 e109 => ?_)
    have k10 : ai_hv t109 0 12 = some (gx_r 329) := (e109 0 12 (by first | decide | omega)).trans k8
    have k11 : ai_hv t109 0 10 = some (gx_r 257) := (e109 0 10 (by first | decide | omega)).trans k106
    refine ex_go (S := (37, [(2, gx_r 191), (1, .inl v101), (0, gx_r 0)], [gx_r 0], t109, n, 0)) rfl (fun _ => rfl) rfl ?_
    have E9 : ai_E t109 := ai_E_kept E101 (fun c i hz => by have h9 := frz_ge hz; exact (e109 c i (by first | decide | omega)).trans (e106 c i (by first | decide | omega)))
    obtain ⟨⟨rv112, t112, rn112, rs112⟩, r112, hn112, hs112, g112, fr112, E112b, o112, ho112, ro112, hh112⟩ := (ac_all (d + 41) 21 ce_21_1 (show ce_21_1 ∈ cm_21 from (List.mem_cons_of_mem _ List.mem_cons_self)) (Nat.lt_of_lt_of_le (show ce_21_1.1 < 40 by decide) (by first | decide | omega))) (fun _ => 0) [gx_r 0] t109 n ⟨gx_vref 0, trivial⟩ g109 (fun q9 hq => by
      rcases List.mem_cons.mp hq with rfl | hq
      · exact ⟨_, k11, refin_r (by decide)⟩
      · rcases List.mem_cons.mp hq with rfl | hq
        · exact ⟨_, k10, refin_r (by decide)⟩
        · exact absurd hq List.not_mem_nil) E9
    have hn112 : n = rn112 := hn112.symm
    have hs112 : rs112 = 0 := hs112
    subst hn112 hs112
    have ho112 := List.mem_singleton.mp ho112
    subst ho112
    have hv112 : rv112 = none := by
      cases rv112 with
      | none => rfl
      | some w => exact ro112.elim
    subst hv112
    refine gx_callo (a := 0) rfl rfl g109 rfl rfl rfl r112 rfl ?_
    show en_ex _ _ _ _ (40, [(2, gx_r 191), (1, .inl v101), (0, gx_r 0)], [], t112, n, 0) _
    refine ex_go (S := (41, [(2, gx_r 191), (1, .inl v101), (0, gx_r 0)], [.inl 0], t112, n, 0)) rfl (fun _ => rfl) rfl ?_
    refine ex_ret (r := (some (.inl 0), t112, n, 0)) rfl (fun _ => rfl) ?_
    obtain ⟨⟨υ, u1, u2, u3, u4⟩, -⟩ := hTl (by first | decide | omega)
    exact ⟨_, rfl, 0, t112, rfl, by omega, N, hN1, hN2, by rw [show (0 : Nat) = v101 by omega]; exact hPk, fun _ => ⟨⟨υ, u1, u2, CA_keep2 (by first | decide | omega) u3 (fun c i h => (fr112 c i (fun z => by obtain ⟨q9, m1, m2, m3, m4⟩ := z; exact beg_out257_1 (c := c) (i := i) m1 m2 (by first | decide | omega))).trans ((e109 c i (by first | decide | omega)).trans (e106 c i (by first | decide | omega)))), CLw_keep u4 (fun c i l1 l2 => (fr112 c i (fun z => by obtain ⟨q9, m1, m2, m3, m4⟩ := z; exact beg_out257_1 (c := c) (i := i) m1 m2 (by first | decide | omega))).trans ((e109 c i (by first | decide | omega)).trans (e106 c i (by first | decide | omega)))) (fun _ => ⟨rfl, rfl⟩)⟩, (fr112 0 10 (fun z => by obtain ⟨q9, m1, m2, m3, m4⟩ := z; exact beg_z257_1 m1 m2)).trans k11⟩, fun z => absurd rfl z⟩
  · refine gx_1f (c := .eq) rfl (by first | decide | omega) hc5 rfl ?_
    refine ex_go (S := (17, [(1, .inl v101), (0, gx_r 0)], [.inl v101], t101, n, 0)) rfl (fun _ => rfl) rfl ?_
    refine ex_ret (r := (some (.inl v101), t101, n, 0)) rfl (fun _ => rfl) ?_
    exact ⟨_, rfl, v101, t101, rfl, by omega, N, hN1, hN2, hPk, (fun z => by omega), fun _ => ⟨k2, hq0⟩⟩
end SPY
