section SPY
theorem inw_rng {wr : ai_W} {lo hi c i : Nat} (h : wr.all (fun q => Nat.ble lo q.1 && Nat.ble q.1 hi) = true) (h1 : ai_inw wr c i) : lo ≤ c ∧ c ≤ hi := by
  obtain ⟨q, hq, e, -⟩ := h1
  have h2 := List.all_eq_true.mp h q hq
  rw [Bool.and_eq_true] at h2
  rw [← e]
  exact ⟨Nat.le_of_ble_eq_true h2.1, Nat.le_of_ble_eq_true h2.2⟩
theorem rh_one {c : Nat} {v : en_V} (h : ai_rh (.inr (.inr [c + 100])) v) : v = gx_r c := by
  obtain ⟨c', hc, h⟩ := h
  have hc : c' = c + 100 := List.mem_singleton.mp hc
  subst hc
  rcases h with ⟨h, -⟩ | ⟨h, -⟩ | ⟨j, h1, h2, -⟩ | ⟨k, h1, h2⟩ | ⟨s, k, h1, h2, -⟩
  · omega
  · omega
  · omega
  · rw [h2, show k = c by omega]
  · omega
theorem rh_pt {x : Nat} {v : en_V} (hx : x < 2147483648) (h : ai_rh (.inl (2147483648 + x, 2147483648 + x)) v) : v = .inl x := by
  obtain ⟨m, e, h1, h2, h3⟩ := h
  rw [e]
  unfold ai_off at h2 h3
  dsimp only at h2 h3
  have : m = x := by omega
  rw [this]
theorem ai_HO_2 {t : en_H} {p : Nat} {a b : ai_h} {x y : Nat} {v w : en_V} (h1 : ai_hv t p x = some v) (r1 : ai_rh a v) (h2 : ai_hv t p y = some w) (r2 : ai_rh b w) : ai_HO [(p, x, a), (p, y, b)] t := by
  intro q hq
  rcases List.mem_cons.mp hq with rfl | hq
  · exact ⟨v, h1, r1⟩
  · rcases List.mem_cons.mp hq with rfl | hq
    · exact ⟨w, h2, r2⟩
    · exact absurd hq List.not_mem_nil
theorem ai_HO_ap {t : en_H} {a b : ai_O} (h1 : ai_HO a t) (h2 : ai_HO b t) : ai_HO (a ++ b) t := fun q hq => (List.mem_append.mp hq).elim (h1 q) (h2 q)
def c28 (t : en_H) (p : Nat) : Prop := ai_HO [(p, 0, .inl (2147483650, 2147483656)), (p, 1, .inl (2147483650, 2147483656))] t
theorem c28_keep {t t' : en_H} {p : Nat} (h : c28 t p) (e : ∀ i, ai_hv t' p i = ai_hv t p i) : c28 t' p := fun q hq => by
  obtain ⟨v, h1, h2⟩ := h q hq
  refine ⟨v, ?_, h2⟩
  rcases List.mem_cons.mp hq with rfl | hq
  · exact (e _).trans h1
  · rcases List.mem_cons.mp hq with rfl | hq
    · exact (e _).trans h1
    · exact absurd hq List.not_mem_nil
theorem pc_pack191_l (d n : Nat) {tb : en_H} {S : Nat → Nat} {m N K : Nat} {σ0 : Nat → Nat → Nat} {p0 : Nat × Nat} {Q : en_O → Prop} (hQ : ∀ k t1 a1 f1, cS t1 a1 f1 → cT t1 S m N → ai_hv t1 7 1 = some (gx_r 191) → cW 191 tb t1 → (f1 = 0 → ∃ σ, CA t1 191 S m σ ∧ W3 S m N σ) → Pk S m N K σ0 p0 f1 → en_ex none (en_u (d + 40)) (en_code 92) (fun _ => false) (128, [(2, .inl k), (0, gx_r 7), (1, gx_r 191)], [], t1, n, 0) Q) : ∀ j i σ t0 a f, i + j = 1000 → (f = 0 → i ≤ a) → cS t0 a f → cT t0 S m N → a ≤ N → ai_hv t0 7 1 = some (gx_r 191) → cW 191 tb t0 → (f = 0 → CA t0 191 S m σ ∧ W3 S m N σ) → (∀ f1, Pk S m N (j + 1) σ (a, f) f1 → Pk S m N K σ0 p0 f1) → en_ex none (en_u (d + 40)) (en_code 92) (fun _ => false) (94, [(2, .inl i), (0, gx_r 7), (1, gx_r 191)], [], t0, n, 0) Q := by
  intro j
  induction j with
  | zero =>
    intro i σ t0 a f hi hia s0 hT ha hP w0 hO hPk
    have b0 := s0.2.2.2
    have hN := hT.2.2.2.2.2.2.1
    refine ex_go (S := (95, [(2, .inl i), (0, gx_r 7), (1, gx_r 191)], [.inl i], t0, n, 0)) rfl (fun _ => rfl) rfl ?_
    refine ex_go (S := (98, [(2, .inl i), (0, gx_r 7), (1, gx_r 191)], [.inl 1000, .inl i], t0, n, 0)) rfl (fun _ => rfl) rfl ?_
    refine gx_2t (c := .ge) rfl (by omega) (by omega) (show 1000 ≤ i from by omega) rfl ?_
    exact hQ i t0 a f s0 hT hP w0 (fun h0 => ⟨σ, hO h0⟩) (hPk f (by
      by_cases h0 : f = 0
      · exact Or.inr (Or.inl ⟨h0, by have := hia h0; show N ≤ a; omega, h0⟩)
      · exact Or.inl ⟨h0, rfl⟩))
  | succ j ih =>
    intro i σ t0 a f hi hia s0 hT ha hP w0 hO hPk
    have b0 := s0.2.2.2
    have hN := hT.2.2.2.2.2.2.1
    refine ex_go (S := (95, [(2, .inl i), (0, gx_r 7), (1, gx_r 191)], [.inl i], t0, n, 0)) rfl (fun _ => rfl) rfl ?_
    refine ex_go (S := (98, [(2, .inl i), (0, gx_r 7), (1, gx_r 191)], [.inl 1000, .inl i], t0, n, 0)) rfl (fun _ => rfl) rfl ?_
    refine gx_2f (c := .ge) rfl (by omega) (by omega) (show ¬ (1000 ≤ i) from by omega) rfl ?_
    refine ex_go (S := (102, [(2, .inl i), (0, gx_r 7), (1, gx_r 191)], [gx_r 7], t0, n, 0)) rfl (fun _ => rfl) rfl ?_
    refine gxo_ref (a := 7) (c := 1) rfl s0.1 rfl rfl rfl rfl rfl ?_
    obtain ⟨_, r101, v101, rfl, q101⟩ := pc_goesOn (d + 39) n (s0) hT (by omega) 
    refine gx_callo (a := 1) rfl rfl s0.1 rfl rfl rfl r101 rfl ?_
    show en_ex _ _ _ _ (108, [(2, .inl i), (0, gx_r 7), (1, gx_r 191)], [.inl v101], t0, n, 0) _
    by_cases hc2 : v101 = 0
    · refine gx_1t (c := .eq) rfl (by omega) hc2 rfl ?_
      exact hQ i t0 a f s0 hT hP w0 (fun h0 => ⟨σ, hO h0⟩) (hPk f (by
        by_cases h0 : f = 0
        · refine Or.inr (Or.inl ⟨h0, ?_, h0⟩)
          show N ≤ a
          by_cases h1 : a < N
          · exact absurd (q101.2.mpr ⟨h0, h1⟩) (by omega)
          · omega
        · exact Or.inl ⟨h0, rfl⟩))
    · refine gx_1f (c := .eq) rfl (by omega) hc2 rfl ?_
      refine ex_go (S := (112, [(2, .inl i), (0, gx_r 7), (1, gx_r 191)], [gx_r 7], t0, n, 0)) rfl (fun _ => rfl) rfl ?_
      refine ex_go (S := (113, [(2, .inl i), (0, gx_r 7), (1, gx_r 191)], [gx_r 7, gx_r 7], t0, n, 0)) rfl (fun _ => rfl) rfl ?_
      refine gxo_ref (a := 7) (c := 1) rfl s0.1 rfl rfl rfl rfl rfl ?_
      obtain ⟨hf0, haN⟩ := q101.2.mp (by omega)
      subst hf0
      obtain ⟨_, r103, wv103, rfl, q103⟩ := pc_word (d + 39) n s0 hT (by omega)
      rcases q103 with ⟨rfl, nw103⟩ | ⟨w103, bw103, rfl, yw103⟩
      · refine gx_callo (a := 1) rfl rfl s0.1 rfl rfl rfl r103 rfl ?_
        show en_ex _ _ _ _ (119, [(2, .inl i), (0, gx_r 7), (1, gx_r 191)], [.inr (.inr (.inl none)), gx_r 7], t0, n, 0) _
        obtain ⟨hA, h3⟩ := hO rfl
        have hfl0 : σ 9 0 ≤ 1 := by
          obtain ⟨m9, k9, k8, k7⟩ := gx_in (c := 7) (i := 5) (lo := 0) (hi := 1) s0.1 rfl rfl rfl rfl
          have h9 := Sum.inl.inj (Option.some.inj ((hA.1.2.2.2.2.2.2.2.2.2.1).symm.trans k9))
          omega
        have hfl1 : σ 9 1 ≤ 1 := by
          obtain ⟨m9, k9, k8, k7⟩ := gx_in (c := 7) (i := 6) (lo := 0) (hi := 1) s0.1 rfl rfl rfl rfl
          have h9 := Sum.inl.inj (Option.some.inj ((hA.1.2.2.2.2.2.2.2.2.2.2.1).symm.trans k9))
          omega
        have hfl2 : σ 9 2 ≤ 1 := by
          obtain ⟨m9, k9, k8, k7⟩ := gx_in (c := 7) (i := 7) (lo := 0) (hi := 1) s0.1 rfl rfl rfl rfl
          have h9 := Sum.inl.inj (Option.some.inj ((hA.1.2.2.2.2.2.2.2.2.2.2.2).symm.trans k9))
          omega
        obtain ⟨_, r104, t104, a104, f104, rfl, s104, hT104, hP104, e104, ⟨q104, τ, hLn, z104, y104⟩, hN104⟩ := pc_packLine191_0 (d) n s0 hT haN hP hA h3 nw103 ⟨hfl0, hfl1, hfl2⟩
        have b104 := s104.2.2.2
        refine gx_callo (a := 7) rfl rfl s0.1 rfl rfl rfl r104 rfl ?_
        show en_ex _ _ _ _ (122, [(2, .inl i), (0, gx_r 7), (1, gx_r 191)], [], t104, n, 0) _
        refine gx_iinc (i := 2) (k := 1) rfl (fun _ => rfl) (by omega) rfl ?_
        show en_ex _ _ _ _ (125, [(2, .inl (i + 1)), (0, gx_r 7), (1, gx_r 191)], [], t104, n, 0) _
        refine ex_go (S := (94, [(2, .inl (i + 1)), (0, gx_r 7), (1, gx_r 191)], [], t104, n, 0)) rfl (fun _ => rfl) rfl ?_
        exact ih (i + 1) τ t104 a104 f104 (by omega) (fun h0 => by have := (y104 h0).1; have := hia rfl; omega) s104 hT104 hN104 hP104 (fun c i h => (e104 c i h).trans (w0 c i h)) (fun h0 => ⟨(y104 h0).2, W3_Ln h3 hLn (f2_no.2.2.2.2.2.2.2 59 (by rw [← z104]; exact h0))⟩) (fun f1 h1 => hPk f1 (Or.inr (Or.inr ⟨rfl, haN, q104, τ, hLn, by rw [← z104]; exact h1⟩)))
      · refine gx_callo (a := 1) rfl rfl s0.1 rfl rfl rfl r103 rfl ?_
        show en_ex _ _ _ _ (119, [(2, .inl i), (0, gx_r 7), (1, gx_r 191)], [gx_w w103, gx_r 7], t0, n, 0) _
        obtain ⟨hA, h3⟩ := hO rfl
        have hfl0 : σ 9 0 ≤ 1 := by
          obtain ⟨m9, k9, k8, k7⟩ := gx_in (c := 7) (i := 5) (lo := 0) (hi := 1) s0.1 rfl rfl rfl rfl
          have h9 := Sum.inl.inj (Option.some.inj ((hA.1.2.2.2.2.2.2.2.2.2.1).symm.trans k9))
          omega
        have hfl1 : σ 9 1 ≤ 1 := by
          obtain ⟨m9, k9, k8, k7⟩ := gx_in (c := 7) (i := 6) (lo := 0) (hi := 1) s0.1 rfl rfl rfl rfl
          have h9 := Sum.inl.inj (Option.some.inj ((hA.1.2.2.2.2.2.2.2.2.2.2.1).symm.trans k9))
          omega
        have hfl2 : σ 9 2 ≤ 1 := by
          obtain ⟨m9, k9, k8, k7⟩ := gx_in (c := 7) (i := 7) (lo := 0) (hi := 1) s0.1 rfl rfl rfl rfl
          have h9 := Sum.inl.inj (Option.some.inj ((hA.1.2.2.2.2.2.2.2.2.2.2.2).symm.trans k9))
          omega
        obtain ⟨_, r105, t105, a105, f105, rfl, s105, hT105, hP105, e105, ⟨q105, τ, hLn, z105, y105⟩, hN105⟩ := pc_packLine191_1 (d) n s0 hT haN hP hA h3 bw103 yw103 ⟨hfl0, hfl1, hfl2⟩
        have b105 := s105.2.2.2
        refine gx_callo (a := 7) rfl rfl s0.1 rfl rfl rfl r105 rfl ?_
        show en_ex _ _ _ _ (122, [(2, .inl i), (0, gx_r 7), (1, gx_r 191)], [], t105, n, 0) _
        refine gx_iinc (i := 2) (k := 1) rfl (fun _ => rfl) (by omega) rfl ?_
        show en_ex _ _ _ _ (125, [(2, .inl (i + 1)), (0, gx_r 7), (1, gx_r 191)], [], t105, n, 0) _
        refine ex_go (S := (94, [(2, .inl (i + 1)), (0, gx_r 7), (1, gx_r 191)], [], t105, n, 0)) rfl (fun _ => rfl) rfl ?_
        exact ih (i + 1) τ t105 a105 f105 (by omega) (fun h0 => by have := (y105 h0).1; have := hia rfl; omega) s105 hT105 hN105 hP105 (fun c i h => (e105 c i h).trans (w0 c i h)) (fun h0 => ⟨(y105 h0).2, W3_Ln h3 hLn (f2_no.2.2.2.2.2.2.2 59 (by rw [← z105]; exact h0))⟩) (fun f1 h1 => hPk f1 (Or.inr (Or.inr ⟨rfl, haN, q105, τ, hLn, by rw [← z105]; exact h1⟩)))
theorem pc_readPack191_t (d n : Nat) {t0 t1 : en_H} {S : Nat → Nat} {m N a f k : Nat} (hE : ai_E t0) (h28 : c28 t0 257) (s1 : cS t1 a f) (hT : cT t1 S m N) (hP : ai_hv t1 7 1 = some (gx_r 191)) (w1 : cW 191 t0 t1) (hO : f = 0 → ∃ σ, CA t1 191 S m σ ∧ W3 S m N σ) (hPk : Pk S m N 1001 (sg_0 S m) (sl_0 S m N) f) : en_ex none (en_u (d + 40)) (en_code 92) (fun _ => false) (128, [(2, .inl k), (0, gx_r 7), (1, gx_r 191)], [], t1, n, 0) (fun o => ∃ r, o = .inl r ∧ ∃ v t', r = (some (.inl v), t', n, 0) ∧ v < 2147483648 ∧ ai_HG ah_G t' ∧ ai_E t' ∧ (∀ i, ai_hv t' 0 i = ai_hv t0 0 i) ∧ ∃ N, (∀ j, j < N → sp_st S m j < m) ∧ sp_st S m N = m ∧ Pk S m N 1001 (sg_0 S m) (sl_0 S m N) v) := by
  have b0 := s1.2.2.2
  have hE1 : ai_E t1 := ai_E_kept hE (fun c i hz => by have h9 := frz_ge hz; exact w1 c i (by omega))
  refine ex_go (S := (129, [(2, .inl k), (0, gx_r 7), (1, gx_r 191)], [gx_r 7], t1, n, 0)) rfl (fun _ => rfl) rfl ?_
  refine gxo_ref (a := 7) (c := 1) rfl s1.1 rfl rfl rfl rfl rfl ?_
  refine gxo_get (a := 1) rfl s1.1 rfl rfl s1.2.2.1 rfl ?_
  by_cases hc1 : f ≠ 0
  · refine gx_1t (c := .ne) rfl (by omega) hc1 rfl ?_
    refine ex_go (S := (146, [(2, .inl k), (0, gx_r 7), (1, gx_r 191)], [gx_r 7], t1, n, 0)) rfl (fun _ => rfl) rfl ?_
    refine gxo_ref (a := 7) (c := 1) rfl s1.1 rfl rfl rfl rfl rfl ?_
    refine gxo_get (a := 1) rfl s1.1 rfl rfl s1.2.2.1 rfl ?_
    refine ex_ret (r := (some (.inl f), t1, n, 0)) rfl (fun _ => rfl) ?_
    exact ⟨_, rfl, f, t1, rfl, by omega, s1.1, hE1, (fun i => w1 0 i (by omega)), N, (fun j hj => (hT.1 j hj).1), hT.2.1, hPk⟩
  · refine gx_1f (c := .ne) rfl (by omega) hc1 rfl ?_
    refine ex_go (S := (139, [(2, .inl k), (0, gx_r 7), (1, gx_r 191)], [gx_r 7], t1, n, 0)) rfl (fun _ => rfl) rfl ?_
    refine gxo_get (a := 7) rfl s1.1 rfl rfl hP rfl ?_
    obtain ⟨σ, hA, h3⟩ := hO (by omega)
    have hBB := h3.1.1
    have hd : c28 t1 191 := ai_HO_2 hA.1.1 (ai_in_h (by omega) (by omega) (by omega)) hA.1.2.1 (ai_in_h (by omega) (by omega) (by omega))
    have ht : c28 t1 257 := c28_keep h28 (fun i => w1 257 i (by omega))
    obtain ⟨⟨rv102, t102, rn102, rs102⟩, r102, hn102, hs102, g102, fr102, E102b, o102, ho102, ro102, hh102⟩ := (ac_all (d + 40) 14 ce_14_1 (show ce_14_1 ∈ cm_14 from (List.mem_cons_of_mem _ List.mem_cons_self)) (Nat.lt_of_lt_of_le (show ce_14_1.1 < 40 by decide) (by omega))) (fun _ => 0) [gx_r 191] t1 n ⟨gx_vref 191, trivial⟩ s1.1 (ai_HO_ap hd ht) hE1
    have hn102 : n = rn102 := hn102.symm
    have hs102 : rs102 = 0 := hs102
    subst hn102 hs102
    have ho102 := List.mem_singleton.mp ho102
    subst ho102
    have hv102 : rv102 = none := by
      cases rv102 with
      | none => rfl
      | some w => exact ro102.elim
    subst hv102
    have e102 : ∀ c i, ¬ (191 ≤ c ∧ c ≤ 256) → ai_hv t102 c i = ai_hv t1 c i := fun c i h => fr102 c i (fun z => h (inw_rng (by decide) z))
    refine gx_callo (a := 191) rfl rfl s1.1 rfl rfl rfl r102 rfl ?_
    have s102 : cS t102 a f := ⟨g102, (e102 1 8 (by omega)).trans s1.2.1, (e102 1 1 (by omega)).trans s1.2.2.1, s1.2.2.2⟩
    show en_ex _ _ _ _ (145, [(2, .inl k), (0, gx_r 7), (1, gx_r 191)], [], t102, n, 0) _
    refine ex_go (S := (146, [(2, .inl k), (0, gx_r 7), (1, gx_r 191)], [gx_r 7], t102, n, 0)) rfl (fun _ => rfl) rfl ?_
    refine gxo_ref (a := 7) (c := 1) rfl s102.1 rfl rfl rfl rfl rfl ?_
    refine gxo_get (a := 1) rfl s102.1 rfl rfl s102.2.2.1 rfl ?_
    refine ex_ret (r := (some (.inl f), t102, n, 0)) rfl (fun _ => rfl) ?_
    exact ⟨_, rfl, f, t102, rfl, by omega, s102.1, E102b, (fun i => (e102 0 i (by omega)).trans (w1 0 i (by omega))), N, (fun j hj => (hT.1 j hj).1), hT.2.1, hPk⟩
theorem pc_readPack191 (d n : Nat) {t0 : en_H} {S : Nat → Nat} {m : Nat} (g0 : ai_HG ah_G t0) (hE : ai_E t0) (h28 : c28 t0 257) (hm : m ≤ 1000) (km : ai_hv t0 1 0 = some (.inl m)) (hS : ∀ i, i < m → ai_hv t0 2 i = some (.inl (S i)) ∧ S i ≤ 127) : ∃ r, en_u (d + 41) 92 [gx_r 7, gx_r 191] t0 n = some r ∧ ∃ v t', r = (some (.inl v), t', n, 0) ∧ v < 2147483648 ∧ ai_HG ah_G t' ∧ ai_E t' ∧ (∀ i, ai_hv t' 0 i = ai_hv t0 0 i) ∧ ∃ N, (∀ j, j < N → sp_st S m j < m) ∧ sp_st S m N = m ∧ Pk S m N 1001 (sg_0 S m) (sl_0 S m N) v := by
  refine en_u_ex (d := d + 40) rfl ?_
  show en_ex _ _ _ _ (0, [(0, gx_r 7), (1, gx_r 191)], [], t0, n, 0) _
  refine ex_go (S := (1, [(0, gx_r 7), (1, gx_r 191)], [gx_r 7], t0, n, 0)) rfl (fun _ => rfl) rfl ?_
  refine ex_go (S := (2, [(0, gx_r 7), (1, gx_r 191)], [gx_r 191, gx_r 7], t0, n, 0)) rfl (fun _ => rfl) rfl ?_
  refine gxo_putr (a := 7) (h := .inr (.inr [0, 291, 357])) rfl g0 rfl rfl rfl (refin_r (by decide)) rfl (fun t101 g101 k101 e101 => ?_)
  have k2 : ai_hv t101 1 0 = some (.inl m) := (e101 1 0 (by omega)).trans km
  refine ex_go (S := (6, [(0, gx_r 7), (1, gx_r 191)], [gx_r 7], t101, n, 0)) rfl (fun _ => rfl) rfl ?_
  refine gxo_get (a := 7) rfl g101 rfl rfl k101 rfl ?_
  have E103 : ai_E t101 := ai_E_kept hE (fun c i hz => by have h9 := frz_ge hz; exact e101 c i (by omega))
  obtain ⟨⟨rv103, t103, rn103, rs103⟩, r103, hn103, hs103, g103, fr103, E103b, o103, ho103, ro103, hh103⟩ := (ac_all (d + 40) 10 ce_10_1 (show ce_10_1 ∈ cm_10 from (List.mem_cons_of_mem _ List.mem_cons_self)) (Nat.lt_of_lt_of_le (show ce_10_1.1 < 40 by decide) (by omega))) (fun _ => 0) [gx_r 191] t101 n ⟨gx_vref 191, trivial⟩ g101 (c28_keep h28 (fun i => e101 257 i (by omega))) E103
  have hn103 : n = rn103 := hn103.symm
  have hs103 : rs103 = 0 := hs103
  subst hn103 hs103
  have ho103 := List.mem_singleton.mp ho103
  subst ho103
  have hv103 : rv103 = none := by
    cases rv103 with
    | none => rfl
    | some w => exact ro103.elim
  subst hv103
  have e103 : ∀ c i, ¬ (191 ≤ c ∧ c ≤ 238) → ai_hv t103 c i = ai_hv t101 c i := fun c i h => fr103 c i (fun z => h (inw_rng (by decide) z))
  have kz194 : ai_hv t103 194 5 = some (.inl 0) := by
    obtain ⟨v, h1, h2⟩ := hh103 (194, 5, .inl (2147483648, 2147483648)) (List.mem_cons_of_mem _ (List.mem_cons_of_mem _ List.mem_cons_self))
    rw [rh_pt (x := 0) (by decide) h2] at h1; exact h1
  have kz200 : ai_hv t103 200 5 = some (.inl 0) := by
    obtain ⟨v, h1, h2⟩ := hh103 (200, 5, .inl (2147483648, 2147483648)) (List.mem_cons_of_mem _ (List.mem_cons_of_mem _ (List.mem_cons_of_mem _ List.mem_cons_self)))
    rw [rh_pt (x := 0) (by decide) h2] at h1; exact h1
  have kz206 : ai_hv t103 206 5 = some (.inl 0) := by
    obtain ⟨v, h1, h2⟩ := hh103 (206, 5, .inl (2147483648, 2147483648)) (List.mem_cons_of_mem _ (List.mem_cons_of_mem _ (List.mem_cons_of_mem _ (List.mem_cons_of_mem _ List.mem_cons_self))))
    rw [rh_pt (x := 0) (by decide) h2] at h1; exact h1
  have kz212 : ai_hv t103 212 5 = some (.inl 0) := by
    obtain ⟨v, h1, h2⟩ := hh103 (212, 5, .inl (2147483648, 2147483648)) (List.mem_cons_of_mem _ (List.mem_cons_of_mem _ (List.mem_cons_of_mem _ (List.mem_cons_of_mem _ (List.mem_cons_of_mem _ List.mem_cons_self)))))
    rw [rh_pt (x := 0) (by decide) h2] at h1; exact h1
  have kz218 : ai_hv t103 218 5 = some (.inl 0) := by
    obtain ⟨v, h1, h2⟩ := hh103 (218, 5, .inl (2147483648, 2147483648)) (List.mem_cons_of_mem _ (List.mem_cons_of_mem _ (List.mem_cons_of_mem _ (List.mem_cons_of_mem _ (List.mem_cons_of_mem _ (List.mem_cons_of_mem _ List.mem_cons_self))))))
    rw [rh_pt (x := 0) (by decide) h2] at h1; exact h1
  have kz224 : ai_hv t103 224 5 = some (.inl 0) := by
    obtain ⟨v, h1, h2⟩ := hh103 (224, 5, .inl (2147483648, 2147483648)) (List.mem_cons_of_mem _ (List.mem_cons_of_mem _ (List.mem_cons_of_mem _ (List.mem_cons_of_mem _ (List.mem_cons_of_mem _ (List.mem_cons_of_mem _ (List.mem_cons_of_mem _ List.mem_cons_self)))))))
    rw [rh_pt (x := 0) (by decide) h2] at h1; exact h1
  refine gx_callo (a := 191) rfl rfl g101 rfl rfl rfl r103 rfl ?_
  have k4 : ai_hv t103 1 0 = some (.inl m) := (e103 1 0 (by omega)).trans k2
  have k5 : ai_hv t103 7 1 = some (gx_r 191) := (e103 7 1 (by omega)).trans k101
  show en_ex _ _ _ _ (12, [(0, gx_r 7), (1, gx_r 191)], [], t103, n, 0) _
  refine ex_go (S := (13, [(0, gx_r 7), (1, gx_r 191)], [gx_r 7], t103, n, 0)) rfl (fun _ => rfl) rfl ?_
  refine ex_go (S := (14, [(0, gx_r 7), (1, gx_r 191)], [.inl 0, gx_r 7], t103, n, 0)) rfl (fun _ => rfl) rfl ?_
  refine gxo_put (a := 7) rfl g103 rfl rfl rfl (ai_in_h (by omega) (by omega) (by omega)) rfl (fun t106 g106 k106 e106 => ?_)
  have k7 : ai_hv t106 1 0 = some (.inl m) := (e106 1 0 (by omega)).trans k4
  have k8 : ai_hv t106 7 1 = some (gx_r 191) := (e106 7 1 (by omega)).trans k5
  have k9 : ai_hv t106 194 5 = some (.inl 0) := (e106 194 5 (by omega)).trans kz194
  have k10 : ai_hv t106 200 5 = some (.inl 0) := (e106 200 5 (by omega)).trans kz200
  have k11 : ai_hv t106 206 5 = some (.inl 0) := (e106 206 5 (by omega)).trans kz206
  have k12 : ai_hv t106 212 5 = some (.inl 0) := (e106 212 5 (by omega)).trans kz212
  have k13 : ai_hv t106 218 5 = some (.inl 0) := (e106 218 5 (by omega)).trans kz218
  have k14 : ai_hv t106 224 5 = some (.inl 0) := (e106 224 5 (by omega)).trans kz224
  refine ex_go (S := (18, [(0, gx_r 7), (1, gx_r 191)], [gx_r 7], t106, n, 0)) rfl (fun _ => rfl) rfl ?_
  refine ex_go (S := (19, [(0, gx_r 7), (1, gx_r 191)], [.inl 0, gx_r 7], t106, n, 0)) rfl (fun _ => rfl) rfl ?_
  refine gxo_put (a := 7) rfl g106 rfl rfl rfl (ai_in_h (by omega) (by omega) (by omega)) rfl (fun t115 g115 k115 e115 => ?_)
  have k16 : ai_hv t115 1 0 = some (.inl m) := (e115 1 0 (by omega)).trans k7
  have k17 : ai_hv t115 7 1 = some (gx_r 191) := (e115 7 1 (by omega)).trans k8
  have k18 : ai_hv t115 194 5 = some (.inl 0) := (e115 194 5 (by omega)).trans k9
  have k19 : ai_hv t115 200 5 = some (.inl 0) := (e115 200 5 (by omega)).trans k10
  have k20 : ai_hv t115 206 5 = some (.inl 0) := (e115 206 5 (by omega)).trans k11
  have k21 : ai_hv t115 212 5 = some (.inl 0) := (e115 212 5 (by omega)).trans k12
  have k22 : ai_hv t115 218 5 = some (.inl 0) := (e115 218 5 (by omega)).trans k13
  have k23 : ai_hv t115 224 5 = some (.inl 0) := (e115 224 5 (by omega)).trans k14
  have k24 : ai_hv t115 7 4 = some (.inl 0) := (e115 7 4 (by omega)).trans k106
  refine ex_go (S := (23, [(0, gx_r 7), (1, gx_r 191)], [gx_r 7], t115, n, 0)) rfl (fun _ => rfl) rfl ?_
  refine ex_go (S := (24, [(0, gx_r 7), (1, gx_r 191)], [.inl 0, gx_r 7], t115, n, 0)) rfl (fun _ => rfl) rfl ?_
  refine gxo_put (a := 7) rfl g115 rfl rfl rfl (ai_in_h (by omega) (by omega) (by omega)) rfl (fun t125 g125 k125 e125 => ?_)
  have k26 : ai_hv t125 1 0 = some (.inl m) := (e125 1 0 (by omega)).trans k16
  have k27 : ai_hv t125 7 1 = some (gx_r 191) := (e125 7 1 (by omega)).trans k17
  have k28 : ai_hv t125 194 5 = some (.inl 0) := (e125 194 5 (by omega)).trans k18
  have k29 : ai_hv t125 200 5 = some (.inl 0) := (e125 200 5 (by omega)).trans k19
  have k30 : ai_hv t125 206 5 = some (.inl 0) := (e125 206 5 (by omega)).trans k20
  have k31 : ai_hv t125 212 5 = some (.inl 0) := (e125 212 5 (by omega)).trans k21
  have k32 : ai_hv t125 218 5 = some (.inl 0) := (e125 218 5 (by omega)).trans k22
  have k33 : ai_hv t125 224 5 = some (.inl 0) := (e125 224 5 (by omega)).trans k23
  have k34 : ai_hv t125 7 4 = some (.inl 0) := (e125 7 4 (by omega)).trans k24
  have k35 : ai_hv t125 7 5 = some (.inl 0) := (e125 7 5 (by omega)).trans k115
  refine ex_go (S := (28, [(0, gx_r 7), (1, gx_r 191)], [gx_r 7], t125, n, 0)) rfl (fun _ => rfl) rfl ?_
  refine ex_go (S := (29, [(0, gx_r 7), (1, gx_r 191)], [.inl 0, gx_r 7], t125, n, 0)) rfl (fun _ => rfl) rfl ?_
  refine gxo_put (a := 7) rfl g125 rfl rfl rfl (ai_in_h (by omega) (by omega) (by omega)) rfl (fun t136 g136 k136 e136 => ?_)
  have k37 : ai_hv t136 1 0 = some (.inl m) := (e136 1 0 (by omega)).trans k26
  have k38 : ai_hv t136 7 1 = some (gx_r 191) := (e136 7 1 (by omega)).trans k27
  have k39 : ai_hv t136 194 5 = some (.inl 0) := (e136 194 5 (by omega)).trans k28
  have k40 : ai_hv t136 200 5 = some (.inl 0) := (e136 200 5 (by omega)).trans k29
  have k41 : ai_hv t136 206 5 = some (.inl 0) := (e136 206 5 (by omega)).trans k30
  have k42 : ai_hv t136 212 5 = some (.inl 0) := (e136 212 5 (by omega)).trans k31
  have k43 : ai_hv t136 218 5 = some (.inl 0) := (e136 218 5 (by omega)).trans k32
  have k44 : ai_hv t136 224 5 = some (.inl 0) := (e136 224 5 (by omega)).trans k33
  have k45 : ai_hv t136 7 4 = some (.inl 0) := (e136 7 4 (by omega)).trans k34
  have k46 : ai_hv t136 7 5 = some (.inl 0) := (e136 7 5 (by omega)).trans k35
  have k47 : ai_hv t136 7 6 = some (.inl 0) := (e136 7 6 (by omega)).trans k125
  refine ex_go (S := (33, [(0, gx_r 7), (1, gx_r 191)], [gx_r 7], t136, n, 0)) rfl (fun _ => rfl) rfl ?_
  refine gxo_ref (a := 7) (c := 1) rfl g136 rfl rfl rfl rfl rfl ?_
  obtain ⟨_, r148, t148, rfl, g148, k0_148, k1_148, k8_148, e148, N, hNm, hC1, hC2, hC3, hC4, hC5, hC6⟩ := pc_cut (d + 35) n (m := m) g136 hm k37 (fun i hi => ⟨((e136 2 i (by omega)).trans ((e125 2 i (by omega)).trans ((e115 2 i (by omega)).trans ((e106 2 i (by omega)).trans ((e103 2 i (by omega)).trans (e101 2 i (by omega))))))).trans (hS i hi).1, (hS i hi).2⟩)
  have s148 : cS t148 0 0 := ⟨g148, k8_148, k1_148, by omega, by omega⟩
  have hT : cT t148 S m N := ⟨hC1, hC2, hC3, hC4, hC5, hC6, ⟨hNm, hm⟩, fun i hi => (hS i hi).2⟩
  have b148 := s148.2.2.2
  have hN := hT.2.2.2.2.2.2.1
  refine gx_callo (a := 1) rfl rfl g136 rfl rfl rfl r148 rfl ?_
  have k49 : ai_hv t148 7 1 = some (gx_r 191) := (e148 7 1 (by omega)).trans k38
  have k50 : ai_hv t148 194 5 = some (.inl 0) := (e148 194 5 (by omega)).trans k39
  have k51 : ai_hv t148 200 5 = some (.inl 0) := (e148 200 5 (by omega)).trans k40
  have k52 : ai_hv t148 206 5 = some (.inl 0) := (e148 206 5 (by omega)).trans k41
  have k53 : ai_hv t148 212 5 = some (.inl 0) := (e148 212 5 (by omega)).trans k42
  have k54 : ai_hv t148 218 5 = some (.inl 0) := (e148 218 5 (by omega)).trans k43
  have k55 : ai_hv t148 224 5 = some (.inl 0) := (e148 224 5 (by omega)).trans k44
  have k56 : ai_hv t148 7 4 = some (.inl 0) := (e148 7 4 (by omega)).trans k45
  have k57 : ai_hv t148 7 5 = some (.inl 0) := (e148 7 5 (by omega)).trans k46
  have k58 : ai_hv t148 7 6 = some (.inl 0) := (e148 7 6 (by omega)).trans k47
  have k59 : ai_hv t148 7 7 = some (.inl 0) := (e148 7 7 (by omega)).trans k136
  show en_ex _ _ _ _ (39, [(0, gx_r 7), (1, gx_r 191)], [], t148, n, 0) _
  refine ex_go (S := (40, [(0, gx_r 7), (1, gx_r 191)], [gx_r 7], t148, n, 0)) rfl (fun _ => rfl) rfl ?_
  refine gxo_ref (a := 7) (c := 1) rfl s148.1 rfl rfl rfl rfl rfl ?_
  refine ex_go (S := (46, [(0, gx_r 7), (1, gx_r 191)], [gx_w 0, gx_r 1], t148, n, 0)) rfl (fun _ => rfl) rfl ?_
  obtain ⟨_, r160, t160, a160, f160, rfl, s160, e160, z160, q160⟩ := pc_takeWord (d + 38) n (s148) hT (by omega) (w := 0) (by omega)
  have b160 := s160.2.2.2
  have y160 := z160.trans (congrArg (fw S m N 0) (rfl : ((0 : Nat), (0 : Nat)) = (0, 0)))
  refine gx_callo (a := 1) rfl rfl s148.1 rfl rfl rfl r160 rfl ?_
  have k61 : ai_hv t160 7 1 = some (gx_r 191) := (e160 7 1 (by omega)).trans k49
  have k62 : ai_hv t160 194 5 = some (.inl 0) := (e160 194 5 (by omega)).trans k50
  have k63 : ai_hv t160 200 5 = some (.inl 0) := (e160 200 5 (by omega)).trans k51
  have k64 : ai_hv t160 206 5 = some (.inl 0) := (e160 206 5 (by omega)).trans k52
  have k65 : ai_hv t160 212 5 = some (.inl 0) := (e160 212 5 (by omega)).trans k53
  have k66 : ai_hv t160 218 5 = some (.inl 0) := (e160 218 5 (by omega)).trans k54
  have k67 : ai_hv t160 224 5 = some (.inl 0) := (e160 224 5 (by omega)).trans k55
  have k68 : ai_hv t160 7 4 = some (.inl 0) := (e160 7 4 (by omega)).trans k56
  have k69 : ai_hv t160 7 5 = some (.inl 0) := (e160 7 5 (by omega)).trans k57
  have k70 : ai_hv t160 7 6 = some (.inl 0) := (e160 7 6 (by omega)).trans k58
  have k71 : ai_hv t160 7 7 = some (.inl 0) := (e160 7 7 (by omega)).trans k59
  show en_ex _ _ _ _ (49, [(0, gx_r 7), (1, gx_r 191)], [], t160, n, 0) _
  refine ex_go (S := (50, [(0, gx_r 7), (1, gx_r 191)], [gx_r 7], t160, n, 0)) rfl (fun _ => rfl) rfl ?_
  refine gxo_get (a := 7) rfl s160.1 rfl rfl k61 rfl ?_
  refine ex_go (S := (54, [(0, gx_r 7), (1, gx_r 191)], [gx_r 7, gx_r 191], t160, n, 0)) rfl (fun _ => rfl) rfl ?_
  refine gxo_ref (a := 7) (c := 1) rfl s160.1 rfl rfl rfl rfl rfl ?_
  refine ex_go (S := (58, [(0, gx_r 7), (1, gx_r 191)], [.inl 2, gx_r 1, gx_r 191], t160, n, 0)) rfl (fun _ => rfl) rfl ?_
  refine ex_go (S := (60, [(0, gx_r 7), (1, gx_r 191)], [.inl 8, .inl 2, gx_r 1, gx_r 191], t160, n, 0)) rfl (fun _ => rfl) rfl ?_
  have hT73 := cT_keep (t' := t160) hT (fun c i h => e160 c i (by omega))
  obtain ⟨_, r172, v172, t172, a172, f172, rfl, s172, e172, z172, q172⟩ := pc_takeNumber (d + 38) n (s160) hT73 (by omega) (lo := 2) (hi := 8) (by omega) (by omega) (by omega)
  have b172 := s172.2.2.2
  have y172 := z172.trans (congrArg (fn S m N 2 8) y160)
  refine gx_callo (a := 1) rfl rfl s160.1 rfl rfl rfl r172 rfl ?_
  have k74 : ai_hv t172 7 1 = some (gx_r 191) := (e172 7 1 (by omega)).trans k61
  have k75 : ai_hv t172 194 5 = some (.inl 0) := (e172 194 5 (by omega)).trans k62
  have k76 : ai_hv t172 200 5 = some (.inl 0) := (e172 200 5 (by omega)).trans k63
  have k77 : ai_hv t172 206 5 = some (.inl 0) := (e172 206 5 (by omega)).trans k64
  have k78 : ai_hv t172 212 5 = some (.inl 0) := (e172 212 5 (by omega)).trans k65
  have k79 : ai_hv t172 218 5 = some (.inl 0) := (e172 218 5 (by omega)).trans k66
  have k80 : ai_hv t172 224 5 = some (.inl 0) := (e172 224 5 (by omega)).trans k67
  have k81 : ai_hv t172 7 4 = some (.inl 0) := (e172 7 4 (by omega)).trans k68
  have k82 : ai_hv t172 7 5 = some (.inl 0) := (e172 7 5 (by omega)).trans k69
  have k83 : ai_hv t172 7 6 = some (.inl 0) := (e172 7 6 (by omega)).trans k70
  have k84 : ai_hv t172 7 7 = some (.inl 0) := (e172 7 7 (by omega)).trans k71
  show en_ex _ _ _ _ (63, [(0, gx_r 7), (1, gx_r 191)], [.inl v172, gx_r 191], t172, n, 0) _
  refine gxo_put (a := 191) rfl s172.1 rfl rfl rfl (gx_full (by omega)) rfl (fun t185 g185 k185 e185 => ?_)
  have k86 : ai_hv t185 7 1 = some (gx_r 191) := (e185 7 1 (by omega)).trans k74
  have k87 : ai_hv t185 194 5 = some (.inl 0) := (e185 194 5 (by omega)).trans k75
  have k88 : ai_hv t185 200 5 = some (.inl 0) := (e185 200 5 (by omega)).trans k76
  have k89 : ai_hv t185 206 5 = some (.inl 0) := (e185 206 5 (by omega)).trans k77
  have k90 : ai_hv t185 212 5 = some (.inl 0) := (e185 212 5 (by omega)).trans k78
  have k91 : ai_hv t185 218 5 = some (.inl 0) := (e185 218 5 (by omega)).trans k79
  have k92 : ai_hv t185 224 5 = some (.inl 0) := (e185 224 5 (by omega)).trans k80
  have k93 : ai_hv t185 7 4 = some (.inl 0) := (e185 7 4 (by omega)).trans k81
  have k94 : ai_hv t185 7 5 = some (.inl 0) := (e185 7 5 (by omega)).trans k82
  have k95 : ai_hv t185 7 6 = some (.inl 0) := (e185 7 6 (by omega)).trans k83
  have k96 : ai_hv t185 7 7 = some (.inl 0) := (e185 7 7 (by omega)).trans k84
  have s185 : cS t185 a172 f172 := ⟨g185, (e185 1 8 (by omega)).trans s172.2.1, (e185 1 1 (by omega)).trans s172.2.2.1, s172.2.2.2⟩
  refine ex_go (S := (67, [(0, gx_r 7), (1, gx_r 191)], [gx_r 7], t185, n, 0)) rfl (fun _ => rfl) rfl ?_
  refine gxo_get (a := 7) rfl s185.1 rfl rfl k86 rfl ?_
  refine ex_go (S := (71, [(0, gx_r 7), (1, gx_r 191)], [gx_r 7, gx_r 191], t185, n, 0)) rfl (fun _ => rfl) rfl ?_
  refine gxo_ref (a := 7) (c := 1) rfl s185.1 rfl rfl rfl rfl rfl ?_
  refine ex_go (S := (75, [(0, gx_r 7), (1, gx_r 191)], [.inl 2, gx_r 1, gx_r 191], t185, n, 0)) rfl (fun _ => rfl) rfl ?_
  refine ex_go (S := (77, [(0, gx_r 7), (1, gx_r 191)], [.inl 8, .inl 2, gx_r 1, gx_r 191], t185, n, 0)) rfl (fun _ => rfl) rfl ?_
  have hT98 := cT_keep (t' := t185) hT (fun c i h => (e185 c i (by omega)).trans ((e172 c i (by omega)).trans (e160 c i (by omega))))
  obtain ⟨_, r197, v197, t197, a197, f197, rfl, s197, e197, z197, q197⟩ := pc_takeNumber (d + 38) n (s185) hT98 (by omega) (lo := 2) (hi := 8) (by omega) (by omega) (by omega)
  have b197 := s197.2.2.2
  have y197 := z197.trans (congrArg (fn S m N 2 8) y172)
  refine gx_callo (a := 1) rfl rfl s185.1 rfl rfl rfl r197 rfl ?_
  have k99 : ai_hv t197 7 1 = some (gx_r 191) := (e197 7 1 (by omega)).trans k86
  have k100 : ai_hv t197 194 5 = some (.inl 0) := (e197 194 5 (by omega)).trans k87
  have k101 : ai_hv t197 200 5 = some (.inl 0) := (e197 200 5 (by omega)).trans k88
  have k102 : ai_hv t197 206 5 = some (.inl 0) := (e197 206 5 (by omega)).trans k89
  have k103 : ai_hv t197 212 5 = some (.inl 0) := (e197 212 5 (by omega)).trans k90
  have k104 : ai_hv t197 218 5 = some (.inl 0) := (e197 218 5 (by omega)).trans k91
  have k105 : ai_hv t197 224 5 = some (.inl 0) := (e197 224 5 (by omega)).trans k92
  have k106 : ai_hv t197 7 4 = some (.inl 0) := (e197 7 4 (by omega)).trans k93
  have k107 : ai_hv t197 7 5 = some (.inl 0) := (e197 7 5 (by omega)).trans k94
  have k108 : ai_hv t197 7 6 = some (.inl 0) := (e197 7 6 (by omega)).trans k95
  have k109 : ai_hv t197 7 7 = some (.inl 0) := (e197 7 7 (by omega)).trans k96
  have k110 : ai_hv t197 191 0 = some (.inl v172) := (e197 191 0 (by omega)).trans k185
  show en_ex _ _ _ _ (80, [(0, gx_r 7), (1, gx_r 191)], [.inl v197, gx_r 191], t197, n, 0) _
  refine gxo_put (a := 191) rfl s197.1 rfl rfl rfl (gx_full (by omega)) rfl (fun t211 g211 k211 e211 => ?_)
  have k112 : ai_hv t211 7 1 = some (gx_r 191) := (e211 7 1 (by omega)).trans k99
  have k113 : ai_hv t211 194 5 = some (.inl 0) := (e211 194 5 (by omega)).trans k100
  have k114 : ai_hv t211 200 5 = some (.inl 0) := (e211 200 5 (by omega)).trans k101
  have k115 : ai_hv t211 206 5 = some (.inl 0) := (e211 206 5 (by omega)).trans k102
  have k116 : ai_hv t211 212 5 = some (.inl 0) := (e211 212 5 (by omega)).trans k103
  have k117 : ai_hv t211 218 5 = some (.inl 0) := (e211 218 5 (by omega)).trans k104
  have k118 : ai_hv t211 224 5 = some (.inl 0) := (e211 224 5 (by omega)).trans k105
  have k119 : ai_hv t211 7 4 = some (.inl 0) := (e211 7 4 (by omega)).trans k106
  have k120 : ai_hv t211 7 5 = some (.inl 0) := (e211 7 5 (by omega)).trans k107
  have k121 : ai_hv t211 7 6 = some (.inl 0) := (e211 7 6 (by omega)).trans k108
  have k122 : ai_hv t211 7 7 = some (.inl 0) := (e211 7 7 (by omega)).trans k109
  have k123 : ai_hv t211 191 0 = some (.inl v172) := (e211 191 0 (by omega)).trans k110
  have s211 : cS t211 a197 f197 := ⟨g211, (e211 1 8 (by omega)).trans s197.2.1, (e211 1 1 (by omega)).trans s197.2.2.1, s197.2.2.2⟩
  refine ex_go (S := (84, [(0, gx_r 7), (1, gx_r 191)], [gx_r 7], t211, n, 0)) rfl (fun _ => rfl) rfl ?_
  refine gxo_ref (a := 7) (c := 1) rfl s211.1 rfl rfl rfl rfl rfl ?_
  refine ex_go (S := (89, [(0, gx_r 7), (1, gx_r 191)], [.inl 59, gx_r 1], t211, n, 0)) rfl (fun _ => rfl) rfl ?_
  have hT125 := cT_keep (t' := t211) hT (fun c i h => (e211 c i (by omega)).trans ((e197 c i (by omega)).trans ((e185 c i (by omega)).trans ((e172 c i (by omega)).trans (e160 c i (by omega))))))
  obtain ⟨_, r224, t224, a224, f224, rfl, s224, e224, z224, q224⟩ := pc_takeSign (d + 38) n (s211) hT125 (by omega) (w := 59) (by omega)
  have b224 := s224.2.2.2
  have y224 := z224.trans (congrArg (fs S m N 59) y197)
  refine gx_callo (a := 1) rfl rfl s211.1 rfl rfl rfl r224 rfl ?_
  have k126 : ai_hv t224 7 1 = some (gx_r 191) := (e224 7 1 (by omega)).trans k112
  have k127 : ai_hv t224 194 5 = some (.inl 0) := (e224 194 5 (by omega)).trans k113
  have k128 : ai_hv t224 200 5 = some (.inl 0) := (e224 200 5 (by omega)).trans k114
  have k129 : ai_hv t224 206 5 = some (.inl 0) := (e224 206 5 (by omega)).trans k115
  have k130 : ai_hv t224 212 5 = some (.inl 0) := (e224 212 5 (by omega)).trans k116
  have k131 : ai_hv t224 218 5 = some (.inl 0) := (e224 218 5 (by omega)).trans k117
  have k132 : ai_hv t224 224 5 = some (.inl 0) := (e224 224 5 (by omega)).trans k118
  have k133 : ai_hv t224 7 4 = some (.inl 0) := (e224 7 4 (by omega)).trans k119
  have k134 : ai_hv t224 7 5 = some (.inl 0) := (e224 7 5 (by omega)).trans k120
  have k135 : ai_hv t224 7 6 = some (.inl 0) := (e224 7 6 (by omega)).trans k121
  have k136 : ai_hv t224 7 7 = some (.inl 0) := (e224 7 7 (by omega)).trans k122
  have k137 : ai_hv t224 191 0 = some (.inl v172) := (e224 191 0 (by omega)).trans k123
  have k138 : ai_hv t224 191 1 = some (.inl v197) := (e224 191 1 (by omega)).trans k211
  show en_ex _ _ _ _ (92, [(0, gx_r 7), (1, gx_r 191)], [], t224, n, 0) _
  refine ex_go (S := (93, [(0, gx_r 7), (1, gx_r 191)], [.inl 0], t224, n, 0)) rfl (fun _ => rfl) rfl ?_
  refine ex_go (S := (94, [(2, .inl 0), (0, gx_r 7), (1, gx_r 191)], [], t224, n, 0)) rfl (fun _ => rfl) rfl ?_
  have hv1 : f224 = 0 → v172 = sp_nv S m 1 ∧ 2 ≤ v172 ∧ v172 ≤ 8 := fun z => by
    have h9 : a160 = 1 := by omega
    rw [← h9]; omega
  have hv2 : f224 = 0 → v197 = sp_nv S m 2 ∧ 2 ≤ v197 ∧ v197 ≤ 8 := fun z => by
    have h9 : a172 = 2 := by omega
    rw [← h9]; omega
  have hT139 := cT_keep (t' := t224) hT (fun c i h => (e224 c i (by omega)).trans ((e211 c i (by omega)).trans ((e197 c i (by omega)).trans ((e185 c i (by omega)).trans ((e172 c i (by omega)).trans (e160 c i (by omega)))))))
  refine pc_pack191_l d n (tb := t0) (K := 1001) (σ0 := sg_0 S m) (p0 := sl_0 S m N) (fun k1 t1 a1 f1 s1 hT1 hP1 w1 hO1 hPk => ?_) 1000 0 (sg_0 S m) t224 a224 f224 (by omega) (by omega) s224 hT139 (by omega) k126 (fun c i h => (e224 c i (by omega)).trans ((e211 c i (by omega)).trans ((e197 c i (by omega)).trans ((e185 c i (by omega)).trans ((e172 c i (by omega)).trans ((e160 c i (by omega)).trans ((e148 c i (by omega)).trans ((e136 c i (by omega)).trans ((e125 c i (by omega)).trans ((e115 c i (by omega)).trans ((e106 c i (by omega)).trans ((e103 c i (by omega)).trans (e101 c i (by omega)))))))))))))) (fun h0 => ⟨?_, W3_0 (by have := hv1 h0; omega) (by have := hv2 h0; omega)⟩) (fun f1 h1 => by unfold sl_0; rw [← y224]; exact h1)
  · exact pc_readPack191_t d n hE h28 s1 hT1 hP1 w1 hO1 hPk
  · refine ⟨⟨?_, ?_, k127, k128, k129, k130, k131, k132, k133, k134, k135, k136⟩, fun i hi => absurd hi (Nat.not_lt_zero i), fun i hi => absurd hi (Nat.not_lt_zero i), fun i hi => absurd hi (Nat.not_lt_zero i), fun i hi => absurd hi (Nat.not_lt_zero i), fun i hi => absurd hi (Nat.not_lt_zero i), fun i hi => absurd hi (Nat.not_lt_zero i)⟩
    · show _ = some (Sum.inl (sp_nv S m 1))
      rw [← (hv1 h0).1]; exact k137
    · show _ = some (Sum.inl (sp_nv S m 2))
      rw [← (hv2 h0).1]; exact k138
theorem pc_pack191_0 (d n : Nat) {t0 : en_H} {S : Nat → Nat} {m : Nat} (g0 : ai_HG ah_G t0) (hE : ai_E t0) (h28 : c28 t0 257) (k10 : ai_hv t0 0 10 = some (gx_r 257)) (k11 : ai_hv t0 0 11 = some (gx_r 191)) (k12 : ai_hv t0 0 12 = some (gx_r 323)) (hm : m ≤ 1000) (km : ai_hv t0 1 0 = some (.inl m)) (hS : ∀ i, i < m → ai_hv t0 2 i = some (.inl (S i)) ∧ S i ≤ 127) : ∃ r, en_u (d + 42) 32 [gx_r 0] t0 n = some r ∧ ∃ v t', r = (some (.inl v), t', n, 0) ∧ v < 2147483648 ∧ ∃ N, (∀ j, j < N → sp_st S m j < m) ∧ sp_st S m N = m ∧ Pk S m N 1001 (sg_0 S m) (sl_0 S m N) v := by
  refine en_u_ex (d := d + 41) rfl ?_
  show en_ex _ _ _ _ (0, [(0, gx_r 0)], [], t0, n, 0) _
  refine ex_go (S := (1, [(0, gx_r 0)], [gx_r 0], t0, n, 0)) rfl (fun _ => rfl) rfl ?_
  refine gxo_ref (a := 0) (c := 7) rfl g0 rfl rfl rfl rfl rfl ?_
  refine ex_go (S := (5, [(0, gx_r 0)], [gx_r 0, gx_r 7], t0, n, 0)) rfl (fun _ => rfl) rfl ?_
  refine gxo_get (a := 0) rfl g0 rfl rfl k11 rfl ?_
  obtain ⟨_, r101, v101, t101, rfl, hv101, g101, E101, f0_101, N, hN1, hN2, hPk⟩ := pc_readPack191 d n (m := m) g0 hE h28 hm km hS
  refine gx_callo (a := 7) rfl rfl g0 rfl rfl rfl r101 rfl ?_
  have e101 : ∀ c i, ¬ (c ≠ 0) → ai_hv t101 c i = ai_hv t0 c i := fun c i h => by rw [show c = 0 by omega]; exact f0_101 i
  have k2 : ai_hv t101 0 10 = some (gx_r 257) := (e101 0 10 (by omega)).trans k10
  have k3 : ai_hv t101 0 11 = some (gx_r 191) := (e101 0 11 (by omega)).trans k11
  have k4 : ai_hv t101 0 12 = some (gx_r 323) := (e101 0 12 (by omega)).trans k12
  show en_ex _ _ _ _ (11, [(0, gx_r 0)], [.inl v101], t101, n, 0) _
  refine ex_go (S := (12, [(1, .inl v101), (0, gx_r 0)], [], t101, n, 0)) rfl (fun _ => rfl) rfl ?_
  refine ex_go (S := (13, [(1, .inl v101), (0, gx_r 0)], [.inl v101], t101, n, 0)) rfl (fun _ => rfl) rfl ?_
  by_cases hc5 : v101 = 0
  · refine gx_1t (c := .eq) rfl (by omega) hc5 rfl ?_
    refine ex_go (S := (19, [(1, .inl v101), (0, gx_r 0)], [gx_r 0], t101, n, 0)) rfl (fun _ => rfl) rfl ?_
    refine gxo_get (a := 0) rfl g101 rfl rfl k2 rfl ?_
    refine ex_go (S := (23, [(2, gx_r 257), (1, .inl v101), (0, gx_r 0)], [], t101, n, 0)) rfl (fun _ => rfl) rfl ?_
    refine ex_go (S := (24, [(2, gx_r 257), (1, .inl v101), (0, gx_r 0)], [gx_r 0], t101, n, 0)) rfl (fun _ => rfl) rfl ?_
    refine ex_go (S := (25, [(2, gx_r 257), (1, .inl v101), (0, gx_r 0)], [gx_r 0, gx_r 0], t101, n, 0)) rfl (fun _ => rfl) rfl ?_
    refine gxo_get (a := 0) rfl g101 rfl rfl k3 rfl ?_
    refine gxo_putr (a := 0) (h := .inr (.inr [291, 357])) rfl g101 rfl rfl rfl (refin_r (by decide)) rfl (fun t106 g106 k106 e106 => ?_)
    have k7 : ai_hv t106 0 11 = some (gx_r 191) := (e106 0 11 (by omega)).trans k3
    have k8 : ai_hv t106 0 12 = some (gx_r 323) := (e106 0 12 (by omega)).trans k4
    refine ex_go (S := (32, [(2, gx_r 257), (1, .inl v101), (0, gx_r 0)], [gx_r 0], t106, n, 0)) rfl (fun _ => rfl) rfl ?_
    refine ex_go (S := (33, [(2, gx_r 257), (1, .inl v101), (0, gx_r 0)], [gx_r 257, gx_r 0], t106, n, 0)) rfl (fun _ => rfl) rfl ?_
    refine gxo_putr (a := 0) (h := .inr (.inr [291, 357])) rfl g106 rfl rfl rfl (refin_r (by decide)) rfl (fun t109 g109 k109 e109 => ?_)
    have k10 : ai_hv t109 0 12 = some (gx_r 323) := (e109 0 12 (by omega)).trans k8
    have k11 : ai_hv t109 0 10 = some (gx_r 191) := (e109 0 10 (by omega)).trans k106
    refine ex_go (S := (37, [(2, gx_r 257), (1, .inl v101), (0, gx_r 0)], [gx_r 0], t109, n, 0)) rfl (fun _ => rfl) rfl ?_
    have E9 : ai_E t109 := ai_E_kept E101 (fun c i hz => by have h9 := frz_ge hz; exact (e109 c i (by omega)).trans (e106 c i (by omega)))
    obtain ⟨⟨rv112, t112, rn112, rs112⟩, r112, hn112, hs112, g112, fr112, E112b, o112, ho112, ro112, hh112⟩ := (ac_all (d + 41) 21 ce_21_2 (show ce_21_2 ∈ cm_21 from (List.mem_cons_of_mem _ (List.mem_cons_of_mem _ List.mem_cons_self))) (Nat.lt_of_lt_of_le (show ce_21_2.1 < 40 by decide) (by omega))) (fun _ => 0) [gx_r 0] t109 n ⟨gx_vref 0, trivial⟩ g109 (fun q9 hq => by
      rcases List.mem_cons.mp hq with rfl | hq
      · exact ⟨_, k11, refin_r (by decide)⟩
      · rcases List.mem_cons.mp hq with rfl | hq
        · exact ⟨_, k10, refin_r (by decide)⟩
        · exact absurd hq List.not_mem_nil) E9
    have hn112 : n = rn112 := hn112.symm
    have hs112 : rs112 = 0 := hs112
    subst hn112 hs112
    have ho112 := List.mem_singleton.mp ho112
    subst ho112
    have hv112 : rv112 = none := by
      cases rv112 with
      | none => rfl
      | some w => exact ro112.elim
    subst hv112
    refine gx_callo (a := 0) rfl rfl g109 rfl rfl rfl r112 rfl ?_
    show en_ex _ _ _ _ (40, [(2, gx_r 257), (1, .inl v101), (0, gx_r 0)], [], t112, n, 0) _
    refine ex_go (S := (41, [(2, gx_r 257), (1, .inl v101), (0, gx_r 0)], [.inl 0], t112, n, 0)) rfl (fun _ => rfl) rfl ?_
    refine ex_ret (r := (some (.inl 0), t112, n, 0)) rfl (fun _ => rfl) ?_
    exact ⟨_, rfl, 0, t112, rfl, by omega, N, hN1, hN2, by rw [show (0 : Nat) = v101 by omega]; exact hPk⟩
  · refine gx_1f (c := .eq) rfl (by omega) hc5 rfl ?_
    refine ex_go (S := (17, [(1, .inl v101), (0, gx_r 0)], [.inl v101], t101, n, 0)) rfl (fun _ => rfl) rfl ?_
    refine ex_ret (r := (some (.inl v101), t101, n, 0)) rfl (fun _ => rfl) ?_
    exact ⟨_, rfl, v101, t101, rfl, by omega, N, hN1, hN2, hPk⟩
theorem pc_pack191_1 (d n : Nat) {t0 : en_H} {S : Nat → Nat} {m : Nat} (g0 : ai_HG ah_G t0) (hE : ai_E t0) (h28 : c28 t0 257) (k10 : ai_hv t0 0 10 = some (gx_r 257)) (k11 : ai_hv t0 0 11 = some (gx_r 191)) (k12 : ai_hv t0 0 12 = some (gx_r 329)) (hm : m ≤ 1000) (km : ai_hv t0 1 0 = some (.inl m)) (hS : ∀ i, i < m → ai_hv t0 2 i = some (.inl (S i)) ∧ S i ≤ 127) : ∃ r, en_u (d + 42) 32 [gx_r 0] t0 n = some r ∧ ∃ v t', r = (some (.inl v), t', n, 0) ∧ v < 2147483648 ∧ ∃ N, (∀ j, j < N → sp_st S m j < m) ∧ sp_st S m N = m ∧ Pk S m N 1001 (sg_0 S m) (sl_0 S m N) v := by
  refine en_u_ex (d := d + 41) rfl ?_
  show en_ex _ _ _ _ (0, [(0, gx_r 0)], [], t0, n, 0) _
  refine ex_go (S := (1, [(0, gx_r 0)], [gx_r 0], t0, n, 0)) rfl (fun _ => rfl) rfl ?_
  refine gxo_ref (a := 0) (c := 7) rfl g0 rfl rfl rfl rfl rfl ?_
  refine ex_go (S := (5, [(0, gx_r 0)], [gx_r 0, gx_r 7], t0, n, 0)) rfl (fun _ => rfl) rfl ?_
  refine gxo_get (a := 0) rfl g0 rfl rfl k11 rfl ?_
  obtain ⟨_, r101, v101, t101, rfl, hv101, g101, E101, f0_101, N, hN1, hN2, hPk⟩ := pc_readPack191 d n (m := m) g0 hE h28 hm km hS
  refine gx_callo (a := 7) rfl rfl g0 rfl rfl rfl r101 rfl ?_
  have e101 : ∀ c i, ¬ (c ≠ 0) → ai_hv t101 c i = ai_hv t0 c i := fun c i h => by rw [show c = 0 by omega]; exact f0_101 i
  have k2 : ai_hv t101 0 10 = some (gx_r 257) := (e101 0 10 (by omega)).trans k10
  have k3 : ai_hv t101 0 11 = some (gx_r 191) := (e101 0 11 (by omega)).trans k11
  have k4 : ai_hv t101 0 12 = some (gx_r 329) := (e101 0 12 (by omega)).trans k12
  show en_ex _ _ _ _ (11, [(0, gx_r 0)], [.inl v101], t101, n, 0) _
  refine ex_go (S := (12, [(1, .inl v101), (0, gx_r 0)], [], t101, n, 0)) rfl (fun _ => rfl) rfl ?_
  refine ex_go (S := (13, [(1, .inl v101), (0, gx_r 0)], [.inl v101], t101, n, 0)) rfl (fun _ => rfl) rfl ?_
  by_cases hc5 : v101 = 0
  · refine gx_1t (c := .eq) rfl (by omega) hc5 rfl ?_
    refine ex_go (S := (19, [(1, .inl v101), (0, gx_r 0)], [gx_r 0], t101, n, 0)) rfl (fun _ => rfl) rfl ?_
    refine gxo_get (a := 0) rfl g101 rfl rfl k2 rfl ?_
    refine ex_go (S := (23, [(2, gx_r 257), (1, .inl v101), (0, gx_r 0)], [], t101, n, 0)) rfl (fun _ => rfl) rfl ?_
    refine ex_go (S := (24, [(2, gx_r 257), (1, .inl v101), (0, gx_r 0)], [gx_r 0], t101, n, 0)) rfl (fun _ => rfl) rfl ?_
    refine ex_go (S := (25, [(2, gx_r 257), (1, .inl v101), (0, gx_r 0)], [gx_r 0, gx_r 0], t101, n, 0)) rfl (fun _ => rfl) rfl ?_
    refine gxo_get (a := 0) rfl g101 rfl rfl k3 rfl ?_
    refine gxo_putr (a := 0) (h := .inr (.inr [291, 357])) rfl g101 rfl rfl rfl (refin_r (by decide)) rfl (fun t106 g106 k106 e106 => ?_)
    have k7 : ai_hv t106 0 11 = some (gx_r 191) := (e106 0 11 (by omega)).trans k3
    have k8 : ai_hv t106 0 12 = some (gx_r 329) := (e106 0 12 (by omega)).trans k4
    refine ex_go (S := (32, [(2, gx_r 257), (1, .inl v101), (0, gx_r 0)], [gx_r 0], t106, n, 0)) rfl (fun _ => rfl) rfl ?_
    refine ex_go (S := (33, [(2, gx_r 257), (1, .inl v101), (0, gx_r 0)], [gx_r 257, gx_r 0], t106, n, 0)) rfl (fun _ => rfl) rfl ?_
    refine gxo_putr (a := 0) (h := .inr (.inr [291, 357])) rfl g106 rfl rfl rfl (refin_r (by decide)) rfl (fun t109 g109 k109 e109 => ?_)
    have k10 : ai_hv t109 0 12 = some (gx_r 329) := (e109 0 12 (by omega)).trans k8
    have k11 : ai_hv t109 0 10 = some (gx_r 191) := (e109 0 10 (by omega)).trans k106
    refine ex_go (S := (37, [(2, gx_r 257), (1, .inl v101), (0, gx_r 0)], [gx_r 0], t109, n, 0)) rfl (fun _ => rfl) rfl ?_
    have E9 : ai_E t109 := ai_E_kept E101 (fun c i hz => by have h9 := frz_ge hz; exact (e109 c i (by omega)).trans (e106 c i (by omega)))
    obtain ⟨⟨rv112, t112, rn112, rs112⟩, r112, hn112, hs112, g112, fr112, E112b, o112, ho112, ro112, hh112⟩ := (ac_all (d + 41) 21 ce_21_3 (show ce_21_3 ∈ cm_21 from (List.mem_cons_of_mem _ (List.mem_cons_of_mem _ (List.mem_cons_of_mem _ List.mem_cons_self)))) (Nat.lt_of_lt_of_le (show ce_21_3.1 < 40 by decide) (by omega))) (fun _ => 0) [gx_r 0] t109 n ⟨gx_vref 0, trivial⟩ g109 (fun q9 hq => by
      rcases List.mem_cons.mp hq with rfl | hq
      · exact ⟨_, k11, refin_r (by decide)⟩
      · rcases List.mem_cons.mp hq with rfl | hq
        · exact ⟨_, k10, refin_r (by decide)⟩
        · exact absurd hq List.not_mem_nil) E9
    have hn112 : n = rn112 := hn112.symm
    have hs112 : rs112 = 0 := hs112
    subst hn112 hs112
    have ho112 := List.mem_singleton.mp ho112
    subst ho112
    have hv112 : rv112 = none := by
      cases rv112 with
      | none => rfl
      | some w => exact ro112.elim
    subst hv112
    refine gx_callo (a := 0) rfl rfl g109 rfl rfl rfl r112 rfl ?_
    show en_ex _ _ _ _ (40, [(2, gx_r 257), (1, .inl v101), (0, gx_r 0)], [], t112, n, 0) _
    refine ex_go (S := (41, [(2, gx_r 257), (1, .inl v101), (0, gx_r 0)], [.inl 0], t112, n, 0)) rfl (fun _ => rfl) rfl ?_
    refine ex_ret (r := (some (.inl 0), t112, n, 0)) rfl (fun _ => rfl) ?_
    exact ⟨_, rfl, 0, t112, rfl, by omega, N, hN1, hN2, by rw [show (0 : Nat) = v101 by omega]; exact hPk⟩
  · refine gx_1f (c := .eq) rfl (by omega) hc5 rfl ?_
    refine ex_go (S := (17, [(1, .inl v101), (0, gx_r 0)], [.inl v101], t101, n, 0)) rfl (fun _ => rfl) rfl ?_
    refine ex_ret (r := (some (.inl v101), t101, n, 0)) rfl (fun _ => rfl) ?_
    exact ⟨_, rfl, v101, t101, rfl, by omega, N, hN1, hN2, hPk⟩
theorem pc_pack257_l (d n : Nat) {tb : en_H} {S : Nat → Nat} {m N K : Nat} {σ0 : Nat → Nat → Nat} {p0 : Nat × Nat} {Q : en_O → Prop} (hQ : ∀ k t1 a1 f1, cS t1 a1 f1 → cT t1 S m N → ai_hv t1 7 1 = some (gx_r 257) → cW 257 tb t1 → (f1 = 0 → ∃ σ, CA t1 257 S m σ ∧ W3 S m N σ) → Pk S m N K σ0 p0 f1 → en_ex none (en_u (d + 40)) (en_code 92) (fun _ => false) (128, [(2, .inl k), (0, gx_r 7), (1, gx_r 257)], [], t1, n, 0) Q) : ∀ j i σ t0 a f, i + j = 1000 → (f = 0 → i ≤ a) → cS t0 a f → cT t0 S m N → a ≤ N → ai_hv t0 7 1 = some (gx_r 257) → cW 257 tb t0 → (f = 0 → CA t0 257 S m σ ∧ W3 S m N σ) → (∀ f1, Pk S m N (j + 1) σ (a, f) f1 → Pk S m N K σ0 p0 f1) → en_ex none (en_u (d + 40)) (en_code 92) (fun _ => false) (94, [(2, .inl i), (0, gx_r 7), (1, gx_r 257)], [], t0, n, 0) Q := by
  intro j
  induction j with
  | zero =>
    intro i σ t0 a f hi hia s0 hT ha hP w0 hO hPk
    have b0 := s0.2.2.2
    have hN := hT.2.2.2.2.2.2.1
    refine ex_go (S := (95, [(2, .inl i), (0, gx_r 7), (1, gx_r 257)], [.inl i], t0, n, 0)) rfl (fun _ => rfl) rfl ?_
    refine ex_go (S := (98, [(2, .inl i), (0, gx_r 7), (1, gx_r 257)], [.inl 1000, .inl i], t0, n, 0)) rfl (fun _ => rfl) rfl ?_
    refine gx_2t (c := .ge) rfl (by omega) (by omega) (show 1000 ≤ i from by omega) rfl ?_
    exact hQ i t0 a f s0 hT hP w0 (fun h0 => ⟨σ, hO h0⟩) (hPk f (by
      by_cases h0 : f = 0
      · exact Or.inr (Or.inl ⟨h0, by have := hia h0; show N ≤ a; omega, h0⟩)
      · exact Or.inl ⟨h0, rfl⟩))
  | succ j ih =>
    intro i σ t0 a f hi hia s0 hT ha hP w0 hO hPk
    have b0 := s0.2.2.2
    have hN := hT.2.2.2.2.2.2.1
    refine ex_go (S := (95, [(2, .inl i), (0, gx_r 7), (1, gx_r 257)], [.inl i], t0, n, 0)) rfl (fun _ => rfl) rfl ?_
    refine ex_go (S := (98, [(2, .inl i), (0, gx_r 7), (1, gx_r 257)], [.inl 1000, .inl i], t0, n, 0)) rfl (fun _ => rfl) rfl ?_
    refine gx_2f (c := .ge) rfl (by omega) (by omega) (show ¬ (1000 ≤ i) from by omega) rfl ?_
    refine ex_go (S := (102, [(2, .inl i), (0, gx_r 7), (1, gx_r 257)], [gx_r 7], t0, n, 0)) rfl (fun _ => rfl) rfl ?_
    refine gxo_ref (a := 7) (c := 1) rfl s0.1 rfl rfl rfl rfl rfl ?_
    obtain ⟨_, r101, v101, rfl, q101⟩ := pc_goesOn (d + 39) n (s0) hT (by omega) 
    refine gx_callo (a := 1) rfl rfl s0.1 rfl rfl rfl r101 rfl ?_
    show en_ex _ _ _ _ (108, [(2, .inl i), (0, gx_r 7), (1, gx_r 257)], [.inl v101], t0, n, 0) _
    by_cases hc2 : v101 = 0
    · refine gx_1t (c := .eq) rfl (by omega) hc2 rfl ?_
      exact hQ i t0 a f s0 hT hP w0 (fun h0 => ⟨σ, hO h0⟩) (hPk f (by
        by_cases h0 : f = 0
        · refine Or.inr (Or.inl ⟨h0, ?_, h0⟩)
          show N ≤ a
          by_cases h1 : a < N
          · exact absurd (q101.2.mpr ⟨h0, h1⟩) (by omega)
          · omega
        · exact Or.inl ⟨h0, rfl⟩))
    · refine gx_1f (c := .eq) rfl (by omega) hc2 rfl ?_
      refine ex_go (S := (112, [(2, .inl i), (0, gx_r 7), (1, gx_r 257)], [gx_r 7], t0, n, 0)) rfl (fun _ => rfl) rfl ?_
      refine ex_go (S := (113, [(2, .inl i), (0, gx_r 7), (1, gx_r 257)], [gx_r 7, gx_r 7], t0, n, 0)) rfl (fun _ => rfl) rfl ?_
      refine gxo_ref (a := 7) (c := 1) rfl s0.1 rfl rfl rfl rfl rfl ?_
      obtain ⟨hf0, haN⟩ := q101.2.mp (by omega)
      subst hf0
      obtain ⟨_, r103, wv103, rfl, q103⟩ := pc_word (d + 39) n s0 hT (by omega)
      rcases q103 with ⟨rfl, nw103⟩ | ⟨w103, bw103, rfl, yw103⟩
      · refine gx_callo (a := 1) rfl rfl s0.1 rfl rfl rfl r103 rfl ?_
        show en_ex _ _ _ _ (119, [(2, .inl i), (0, gx_r 7), (1, gx_r 257)], [.inr (.inr (.inl none)), gx_r 7], t0, n, 0) _
        obtain ⟨hA, h3⟩ := hO rfl
        have hfl0 : σ 9 0 ≤ 1 := by
          obtain ⟨m9, k9, k8, k7⟩ := gx_in (c := 7) (i := 5) (lo := 0) (hi := 1) s0.1 rfl rfl rfl rfl
          have h9 := Sum.inl.inj (Option.some.inj ((hA.1.2.2.2.2.2.2.2.2.2.1).symm.trans k9))
          omega
        have hfl1 : σ 9 1 ≤ 1 := by
          obtain ⟨m9, k9, k8, k7⟩ := gx_in (c := 7) (i := 6) (lo := 0) (hi := 1) s0.1 rfl rfl rfl rfl
          have h9 := Sum.inl.inj (Option.some.inj ((hA.1.2.2.2.2.2.2.2.2.2.2.1).symm.trans k9))
          omega
        have hfl2 : σ 9 2 ≤ 1 := by
          obtain ⟨m9, k9, k8, k7⟩ := gx_in (c := 7) (i := 7) (lo := 0) (hi := 1) s0.1 rfl rfl rfl rfl
          have h9 := Sum.inl.inj (Option.some.inj ((hA.1.2.2.2.2.2.2.2.2.2.2.2).symm.trans k9))
          omega
        obtain ⟨_, r104, t104, a104, f104, rfl, s104, hT104, hP104, e104, ⟨q104, τ, hLn, z104, y104⟩, hN104⟩ := pc_packLine257_0 (d) n s0 hT haN hP hA h3 nw103 ⟨hfl0, hfl1, hfl2⟩
        have b104 := s104.2.2.2
        refine gx_callo (a := 7) rfl rfl s0.1 rfl rfl rfl r104 rfl ?_
        show en_ex _ _ _ _ (122, [(2, .inl i), (0, gx_r 7), (1, gx_r 257)], [], t104, n, 0) _
        refine gx_iinc (i := 2) (k := 1) rfl (fun _ => rfl) (by omega) rfl ?_
        show en_ex _ _ _ _ (125, [(2, .inl (i + 1)), (0, gx_r 7), (1, gx_r 257)], [], t104, n, 0) _
        refine ex_go (S := (94, [(2, .inl (i + 1)), (0, gx_r 7), (1, gx_r 257)], [], t104, n, 0)) rfl (fun _ => rfl) rfl ?_
        exact ih (i + 1) τ t104 a104 f104 (by omega) (fun h0 => by have := (y104 h0).1; have := hia rfl; omega) s104 hT104 hN104 hP104 (fun c i h => (e104 c i h).trans (w0 c i h)) (fun h0 => ⟨(y104 h0).2, W3_Ln h3 hLn (f2_no.2.2.2.2.2.2.2 59 (by rw [← z104]; exact h0))⟩) (fun f1 h1 => hPk f1 (Or.inr (Or.inr ⟨rfl, haN, q104, τ, hLn, by rw [← z104]; exact h1⟩)))
      · refine gx_callo (a := 1) rfl rfl s0.1 rfl rfl rfl r103 rfl ?_
        show en_ex _ _ _ _ (119, [(2, .inl i), (0, gx_r 7), (1, gx_r 257)], [gx_w w103, gx_r 7], t0, n, 0) _
        obtain ⟨hA, h3⟩ := hO rfl
        have hfl0 : σ 9 0 ≤ 1 := by
          obtain ⟨m9, k9, k8, k7⟩ := gx_in (c := 7) (i := 5) (lo := 0) (hi := 1) s0.1 rfl rfl rfl rfl
          have h9 := Sum.inl.inj (Option.some.inj ((hA.1.2.2.2.2.2.2.2.2.2.1).symm.trans k9))
          omega
        have hfl1 : σ 9 1 ≤ 1 := by
          obtain ⟨m9, k9, k8, k7⟩ := gx_in (c := 7) (i := 6) (lo := 0) (hi := 1) s0.1 rfl rfl rfl rfl
          have h9 := Sum.inl.inj (Option.some.inj ((hA.1.2.2.2.2.2.2.2.2.2.2.1).symm.trans k9))
          omega
        have hfl2 : σ 9 2 ≤ 1 := by
          obtain ⟨m9, k9, k8, k7⟩ := gx_in (c := 7) (i := 7) (lo := 0) (hi := 1) s0.1 rfl rfl rfl rfl
          have h9 := Sum.inl.inj (Option.some.inj ((hA.1.2.2.2.2.2.2.2.2.2.2.2).symm.trans k9))
          omega
        obtain ⟨_, r105, t105, a105, f105, rfl, s105, hT105, hP105, e105, ⟨q105, τ, hLn, z105, y105⟩, hN105⟩ := pc_packLine257_1 (d) n s0 hT haN hP hA h3 bw103 yw103 ⟨hfl0, hfl1, hfl2⟩
        have b105 := s105.2.2.2
        refine gx_callo (a := 7) rfl rfl s0.1 rfl rfl rfl r105 rfl ?_
        show en_ex _ _ _ _ (122, [(2, .inl i), (0, gx_r 7), (1, gx_r 257)], [], t105, n, 0) _
        refine gx_iinc (i := 2) (k := 1) rfl (fun _ => rfl) (by omega) rfl ?_
        show en_ex _ _ _ _ (125, [(2, .inl (i + 1)), (0, gx_r 7), (1, gx_r 257)], [], t105, n, 0) _
        refine ex_go (S := (94, [(2, .inl (i + 1)), (0, gx_r 7), (1, gx_r 257)], [], t105, n, 0)) rfl (fun _ => rfl) rfl ?_
        exact ih (i + 1) τ t105 a105 f105 (by omega) (fun h0 => by have := (y105 h0).1; have := hia rfl; omega) s105 hT105 hN105 hP105 (fun c i h => (e105 c i h).trans (w0 c i h)) (fun h0 => ⟨(y105 h0).2, W3_Ln h3 hLn (f2_no.2.2.2.2.2.2.2 59 (by rw [← z105]; exact h0))⟩) (fun f1 h1 => hPk f1 (Or.inr (Or.inr ⟨rfl, haN, q105, τ, hLn, by rw [← z105]; exact h1⟩)))
theorem pc_readPack257_t (d n : Nat) {t0 t1 : en_H} {S : Nat → Nat} {m N a f k : Nat} (hE : ai_E t0) (h28 : c28 t0 191) (s1 : cS t1 a f) (hT : cT t1 S m N) (hP : ai_hv t1 7 1 = some (gx_r 257)) (w1 : cW 257 t0 t1) (hO : f = 0 → ∃ σ, CA t1 257 S m σ ∧ W3 S m N σ) (hPk : Pk S m N 1001 (sg_0 S m) (sl_0 S m N) f) : en_ex none (en_u (d + 40)) (en_code 92) (fun _ => false) (128, [(2, .inl k), (0, gx_r 7), (1, gx_r 257)], [], t1, n, 0) (fun o => ∃ r, o = .inl r ∧ ∃ v t', r = (some (.inl v), t', n, 0) ∧ v < 2147483648 ∧ ai_HG ah_G t' ∧ ai_E t' ∧ (∀ i, ai_hv t' 0 i = ai_hv t0 0 i) ∧ ∃ N, (∀ j, j < N → sp_st S m j < m) ∧ sp_st S m N = m ∧ Pk S m N 1001 (sg_0 S m) (sl_0 S m N) v) := by
  have b0 := s1.2.2.2
  have hE1 : ai_E t1 := ai_E_kept hE (fun c i hz => by have h9 := frz_ge hz; exact w1 c i (by omega))
  refine ex_go (S := (129, [(2, .inl k), (0, gx_r 7), (1, gx_r 257)], [gx_r 7], t1, n, 0)) rfl (fun _ => rfl) rfl ?_
  refine gxo_ref (a := 7) (c := 1) rfl s1.1 rfl rfl rfl rfl rfl ?_
  refine gxo_get (a := 1) rfl s1.1 rfl rfl s1.2.2.1 rfl ?_
  by_cases hc1 : f ≠ 0
  · refine gx_1t (c := .ne) rfl (by omega) hc1 rfl ?_
    refine ex_go (S := (146, [(2, .inl k), (0, gx_r 7), (1, gx_r 257)], [gx_r 7], t1, n, 0)) rfl (fun _ => rfl) rfl ?_
    refine gxo_ref (a := 7) (c := 1) rfl s1.1 rfl rfl rfl rfl rfl ?_
    refine gxo_get (a := 1) rfl s1.1 rfl rfl s1.2.2.1 rfl ?_
    refine ex_ret (r := (some (.inl f), t1, n, 0)) rfl (fun _ => rfl) ?_
    exact ⟨_, rfl, f, t1, rfl, by omega, s1.1, hE1, (fun i => w1 0 i (by omega)), N, (fun j hj => (hT.1 j hj).1), hT.2.1, hPk⟩
  · refine gx_1f (c := .ne) rfl (by omega) hc1 rfl ?_
    refine ex_go (S := (139, [(2, .inl k), (0, gx_r 7), (1, gx_r 257)], [gx_r 7], t1, n, 0)) rfl (fun _ => rfl) rfl ?_
    refine gxo_get (a := 7) rfl s1.1 rfl rfl hP rfl ?_
    obtain ⟨σ, hA, h3⟩ := hO (by omega)
    have hBB := h3.1.1
    have hd : c28 t1 257 := ai_HO_2 hA.1.1 (ai_in_h (by omega) (by omega) (by omega)) hA.1.2.1 (ai_in_h (by omega) (by omega) (by omega))
    have ht : c28 t1 191 := c28_keep h28 (fun i => w1 191 i (by omega))
    obtain ⟨⟨rv102, t102, rn102, rs102⟩, r102, hn102, hs102, g102, fr102, E102b, o102, ho102, ro102, hh102⟩ := (ac_all (d + 40) 14 ce_14_0 (show ce_14_0 ∈ cm_14 from List.mem_cons_self) (Nat.lt_of_lt_of_le (show ce_14_0.1 < 40 by decide) (by omega))) (fun _ => 0) [gx_r 257] t1 n ⟨gx_vref 257, trivial⟩ s1.1 (ai_HO_ap ht hd) hE1
    have hn102 : n = rn102 := hn102.symm
    have hs102 : rs102 = 0 := hs102
    subst hn102 hs102
    have ho102 := List.mem_singleton.mp ho102
    subst ho102
    have hv102 : rv102 = none := by
      cases rv102 with
      | none => rfl
      | some w => exact ro102.elim
    subst hv102
    have e102 : ∀ c i, ¬ (257 ≤ c ∧ c ≤ 322) → ai_hv t102 c i = ai_hv t1 c i := fun c i h => fr102 c i (fun z => h (inw_rng (by decide) z))
    refine gx_callo (a := 257) rfl rfl s1.1 rfl rfl rfl r102 rfl ?_
    have s102 : cS t102 a f := ⟨g102, (e102 1 8 (by omega)).trans s1.2.1, (e102 1 1 (by omega)).trans s1.2.2.1, s1.2.2.2⟩
    show en_ex _ _ _ _ (145, [(2, .inl k), (0, gx_r 7), (1, gx_r 257)], [], t102, n, 0) _
    refine ex_go (S := (146, [(2, .inl k), (0, gx_r 7), (1, gx_r 257)], [gx_r 7], t102, n, 0)) rfl (fun _ => rfl) rfl ?_
    refine gxo_ref (a := 7) (c := 1) rfl s102.1 rfl rfl rfl rfl rfl ?_
    refine gxo_get (a := 1) rfl s102.1 rfl rfl s102.2.2.1 rfl ?_
    refine ex_ret (r := (some (.inl f), t102, n, 0)) rfl (fun _ => rfl) ?_
    exact ⟨_, rfl, f, t102, rfl, by omega, s102.1, E102b, (fun i => (e102 0 i (by omega)).trans (w1 0 i (by omega))), N, (fun j hj => (hT.1 j hj).1), hT.2.1, hPk⟩
theorem pc_readPack257 (d n : Nat) {t0 : en_H} {S : Nat → Nat} {m : Nat} (g0 : ai_HG ah_G t0) (hE : ai_E t0) (h28 : c28 t0 191) (hm : m ≤ 1000) (km : ai_hv t0 1 0 = some (.inl m)) (hS : ∀ i, i < m → ai_hv t0 2 i = some (.inl (S i)) ∧ S i ≤ 127) : ∃ r, en_u (d + 41) 92 [gx_r 7, gx_r 257] t0 n = some r ∧ ∃ v t', r = (some (.inl v), t', n, 0) ∧ v < 2147483648 ∧ ai_HG ah_G t' ∧ ai_E t' ∧ (∀ i, ai_hv t' 0 i = ai_hv t0 0 i) ∧ ∃ N, (∀ j, j < N → sp_st S m j < m) ∧ sp_st S m N = m ∧ Pk S m N 1001 (sg_0 S m) (sl_0 S m N) v := by
  refine en_u_ex (d := d + 40) rfl ?_
  show en_ex _ _ _ _ (0, [(0, gx_r 7), (1, gx_r 257)], [], t0, n, 0) _
  refine ex_go (S := (1, [(0, gx_r 7), (1, gx_r 257)], [gx_r 7], t0, n, 0)) rfl (fun _ => rfl) rfl ?_
  refine ex_go (S := (2, [(0, gx_r 7), (1, gx_r 257)], [gx_r 257, gx_r 7], t0, n, 0)) rfl (fun _ => rfl) rfl ?_
  refine gxo_putr (a := 7) (h := .inr (.inr [0, 291, 357])) rfl g0 rfl rfl rfl (refin_r (by decide)) rfl (fun t101 g101 k101 e101 => ?_)
  have k2 : ai_hv t101 1 0 = some (.inl m) := (e101 1 0 (by omega)).trans km
  refine ex_go (S := (6, [(0, gx_r 7), (1, gx_r 257)], [gx_r 7], t101, n, 0)) rfl (fun _ => rfl) rfl ?_
  refine gxo_get (a := 7) rfl g101 rfl rfl k101 rfl ?_
  have E103 : ai_E t101 := ai_E_kept hE (fun c i hz => by have h9 := frz_ge hz; exact e101 c i (by omega))
  obtain ⟨⟨rv103, t103, rn103, rs103⟩, r103, hn103, hs103, g103, fr103, E103b, o103, ho103, ro103, hh103⟩ := (ac_all (d + 40) 10 ce_10_0 (show ce_10_0 ∈ cm_10 from List.mem_cons_self) (Nat.lt_of_lt_of_le (show ce_10_0.1 < 40 by decide) (by omega))) (fun _ => 0) [gx_r 257] t101 n ⟨gx_vref 257, trivial⟩ g101 (c28_keep h28 (fun i => e101 191 i (by omega))) E103
  have hn103 : n = rn103 := hn103.symm
  have hs103 : rs103 = 0 := hs103
  subst hn103 hs103
  have ho103 := List.mem_singleton.mp ho103
  subst ho103
  have hv103 : rv103 = none := by
    cases rv103 with
    | none => rfl
    | some w => exact ro103.elim
  subst hv103
  have e103 : ∀ c i, ¬ (257 ≤ c ∧ c ≤ 304) → ai_hv t103 c i = ai_hv t101 c i := fun c i h => fr103 c i (fun z => h (inw_rng (by decide) z))
  have kz260 : ai_hv t103 260 5 = some (.inl 0) := by
    obtain ⟨v, h1, h2⟩ := hh103 (260, 5, .inl (2147483648, 2147483648)) (List.mem_cons_of_mem _ (List.mem_cons_of_mem _ (List.mem_cons_of_mem _ (List.mem_cons_of_mem _ List.mem_cons_self))))
    rw [rh_pt (x := 0) (by decide) h2] at h1; exact h1
  have kz266 : ai_hv t103 266 5 = some (.inl 0) := by
    obtain ⟨v, h1, h2⟩ := hh103 (266, 5, .inl (2147483648, 2147483648)) (List.mem_cons_of_mem _ (List.mem_cons_of_mem _ (List.mem_cons_of_mem _ (List.mem_cons_of_mem _ (List.mem_cons_of_mem _ List.mem_cons_self)))))
    rw [rh_pt (x := 0) (by decide) h2] at h1; exact h1
  have kz272 : ai_hv t103 272 5 = some (.inl 0) := by
    obtain ⟨v, h1, h2⟩ := hh103 (272, 5, .inl (2147483648, 2147483648)) (List.mem_cons_of_mem _ (List.mem_cons_of_mem _ (List.mem_cons_of_mem _ (List.mem_cons_of_mem _ (List.mem_cons_of_mem _ (List.mem_cons_of_mem _ List.mem_cons_self))))))
    rw [rh_pt (x := 0) (by decide) h2] at h1; exact h1
  have kz278 : ai_hv t103 278 5 = some (.inl 0) := by
    obtain ⟨v, h1, h2⟩ := hh103 (278, 5, .inl (2147483648, 2147483648)) (List.mem_cons_of_mem _ (List.mem_cons_of_mem _ (List.mem_cons_of_mem _ (List.mem_cons_of_mem _ (List.mem_cons_of_mem _ (List.mem_cons_of_mem _ (List.mem_cons_of_mem _ List.mem_cons_self)))))))
    rw [rh_pt (x := 0) (by decide) h2] at h1; exact h1
  have kz284 : ai_hv t103 284 5 = some (.inl 0) := by
    obtain ⟨v, h1, h2⟩ := hh103 (284, 5, .inl (2147483648, 2147483648)) (List.mem_cons_of_mem _ (List.mem_cons_of_mem _ (List.mem_cons_of_mem _ (List.mem_cons_of_mem _ (List.mem_cons_of_mem _ (List.mem_cons_of_mem _ (List.mem_cons_of_mem _ (List.mem_cons_of_mem _ List.mem_cons_self))))))))
    rw [rh_pt (x := 0) (by decide) h2] at h1; exact h1
  have kz290 : ai_hv t103 290 5 = some (.inl 0) := by
    obtain ⟨v, h1, h2⟩ := hh103 (290, 5, .inl (2147483648, 2147483648)) (List.mem_cons_of_mem _ (List.mem_cons_of_mem _ (List.mem_cons_of_mem _ (List.mem_cons_of_mem _ (List.mem_cons_of_mem _ (List.mem_cons_of_mem _ (List.mem_cons_of_mem _ (List.mem_cons_of_mem _ (List.mem_cons_of_mem _ List.mem_cons_self)))))))))
    rw [rh_pt (x := 0) (by decide) h2] at h1; exact h1
  refine gx_callo (a := 257) rfl rfl g101 rfl rfl rfl r103 rfl ?_
  have k4 : ai_hv t103 1 0 = some (.inl m) := (e103 1 0 (by omega)).trans k2
  have k5 : ai_hv t103 7 1 = some (gx_r 257) := (e103 7 1 (by omega)).trans k101
  show en_ex _ _ _ _ (12, [(0, gx_r 7), (1, gx_r 257)], [], t103, n, 0) _
  refine ex_go (S := (13, [(0, gx_r 7), (1, gx_r 257)], [gx_r 7], t103, n, 0)) rfl (fun _ => rfl) rfl ?_
  refine ex_go (S := (14, [(0, gx_r 7), (1, gx_r 257)], [.inl 0, gx_r 7], t103, n, 0)) rfl (fun _ => rfl) rfl ?_
  refine gxo_put (a := 7) rfl g103 rfl rfl rfl (ai_in_h (by omega) (by omega) (by omega)) rfl (fun t106 g106 k106 e106 => ?_)
  have k7 : ai_hv t106 1 0 = some (.inl m) := (e106 1 0 (by omega)).trans k4
  have k8 : ai_hv t106 7 1 = some (gx_r 257) := (e106 7 1 (by omega)).trans k5
  have k9 : ai_hv t106 260 5 = some (.inl 0) := (e106 260 5 (by omega)).trans kz260
  have k10 : ai_hv t106 266 5 = some (.inl 0) := (e106 266 5 (by omega)).trans kz266
  have k11 : ai_hv t106 272 5 = some (.inl 0) := (e106 272 5 (by omega)).trans kz272
  have k12 : ai_hv t106 278 5 = some (.inl 0) := (e106 278 5 (by omega)).trans kz278
  have k13 : ai_hv t106 284 5 = some (.inl 0) := (e106 284 5 (by omega)).trans kz284
  have k14 : ai_hv t106 290 5 = some (.inl 0) := (e106 290 5 (by omega)).trans kz290
  refine ex_go (S := (18, [(0, gx_r 7), (1, gx_r 257)], [gx_r 7], t106, n, 0)) rfl (fun _ => rfl) rfl ?_
  refine ex_go (S := (19, [(0, gx_r 7), (1, gx_r 257)], [.inl 0, gx_r 7], t106, n, 0)) rfl (fun _ => rfl) rfl ?_
  refine gxo_put (a := 7) rfl g106 rfl rfl rfl (ai_in_h (by omega) (by omega) (by omega)) rfl (fun t115 g115 k115 e115 => ?_)
  have k16 : ai_hv t115 1 0 = some (.inl m) := (e115 1 0 (by omega)).trans k7
  have k17 : ai_hv t115 7 1 = some (gx_r 257) := (e115 7 1 (by omega)).trans k8
  have k18 : ai_hv t115 260 5 = some (.inl 0) := (e115 260 5 (by omega)).trans k9
  have k19 : ai_hv t115 266 5 = some (.inl 0) := (e115 266 5 (by omega)).trans k10
  have k20 : ai_hv t115 272 5 = some (.inl 0) := (e115 272 5 (by omega)).trans k11
  have k21 : ai_hv t115 278 5 = some (.inl 0) := (e115 278 5 (by omega)).trans k12
  have k22 : ai_hv t115 284 5 = some (.inl 0) := (e115 284 5 (by omega)).trans k13
  have k23 : ai_hv t115 290 5 = some (.inl 0) := (e115 290 5 (by omega)).trans k14
  have k24 : ai_hv t115 7 4 = some (.inl 0) := (e115 7 4 (by omega)).trans k106
  refine ex_go (S := (23, [(0, gx_r 7), (1, gx_r 257)], [gx_r 7], t115, n, 0)) rfl (fun _ => rfl) rfl ?_
  refine ex_go (S := (24, [(0, gx_r 7), (1, gx_r 257)], [.inl 0, gx_r 7], t115, n, 0)) rfl (fun _ => rfl) rfl ?_
  refine gxo_put (a := 7) rfl g115 rfl rfl rfl (ai_in_h (by omega) (by omega) (by omega)) rfl (fun t125 g125 k125 e125 => ?_)
  have k26 : ai_hv t125 1 0 = some (.inl m) := (e125 1 0 (by omega)).trans k16
  have k27 : ai_hv t125 7 1 = some (gx_r 257) := (e125 7 1 (by omega)).trans k17
  have k28 : ai_hv t125 260 5 = some (.inl 0) := (e125 260 5 (by omega)).trans k18
  have k29 : ai_hv t125 266 5 = some (.inl 0) := (e125 266 5 (by omega)).trans k19
  have k30 : ai_hv t125 272 5 = some (.inl 0) := (e125 272 5 (by omega)).trans k20
  have k31 : ai_hv t125 278 5 = some (.inl 0) := (e125 278 5 (by omega)).trans k21
  have k32 : ai_hv t125 284 5 = some (.inl 0) := (e125 284 5 (by omega)).trans k22
  have k33 : ai_hv t125 290 5 = some (.inl 0) := (e125 290 5 (by omega)).trans k23
  have k34 : ai_hv t125 7 4 = some (.inl 0) := (e125 7 4 (by omega)).trans k24
  have k35 : ai_hv t125 7 5 = some (.inl 0) := (e125 7 5 (by omega)).trans k115
  refine ex_go (S := (28, [(0, gx_r 7), (1, gx_r 257)], [gx_r 7], t125, n, 0)) rfl (fun _ => rfl) rfl ?_
  refine ex_go (S := (29, [(0, gx_r 7), (1, gx_r 257)], [.inl 0, gx_r 7], t125, n, 0)) rfl (fun _ => rfl) rfl ?_
  refine gxo_put (a := 7) rfl g125 rfl rfl rfl (ai_in_h (by omega) (by omega) (by omega)) rfl (fun t136 g136 k136 e136 => ?_)
  have k37 : ai_hv t136 1 0 = some (.inl m) := (e136 1 0 (by omega)).trans k26
  have k38 : ai_hv t136 7 1 = some (gx_r 257) := (e136 7 1 (by omega)).trans k27
  have k39 : ai_hv t136 260 5 = some (.inl 0) := (e136 260 5 (by omega)).trans k28
  have k40 : ai_hv t136 266 5 = some (.inl 0) := (e136 266 5 (by omega)).trans k29
  have k41 : ai_hv t136 272 5 = some (.inl 0) := (e136 272 5 (by omega)).trans k30
  have k42 : ai_hv t136 278 5 = some (.inl 0) := (e136 278 5 (by omega)).trans k31
  have k43 : ai_hv t136 284 5 = some (.inl 0) := (e136 284 5 (by omega)).trans k32
  have k44 : ai_hv t136 290 5 = some (.inl 0) := (e136 290 5 (by omega)).trans k33
  have k45 : ai_hv t136 7 4 = some (.inl 0) := (e136 7 4 (by omega)).trans k34
  have k46 : ai_hv t136 7 5 = some (.inl 0) := (e136 7 5 (by omega)).trans k35
  have k47 : ai_hv t136 7 6 = some (.inl 0) := (e136 7 6 (by omega)).trans k125
  refine ex_go (S := (33, [(0, gx_r 7), (1, gx_r 257)], [gx_r 7], t136, n, 0)) rfl (fun _ => rfl) rfl ?_
  refine gxo_ref (a := 7) (c := 1) rfl g136 rfl rfl rfl rfl rfl ?_
  obtain ⟨_, r148, t148, rfl, g148, k0_148, k1_148, k8_148, e148, N, hNm, hC1, hC2, hC3, hC4, hC5, hC6⟩ := pc_cut (d + 35) n (m := m) g136 hm k37 (fun i hi => ⟨((e136 2 i (by omega)).trans ((e125 2 i (by omega)).trans ((e115 2 i (by omega)).trans ((e106 2 i (by omega)).trans ((e103 2 i (by omega)).trans (e101 2 i (by omega))))))).trans (hS i hi).1, (hS i hi).2⟩)
  have s148 : cS t148 0 0 := ⟨g148, k8_148, k1_148, by omega, by omega⟩
  have hT : cT t148 S m N := ⟨hC1, hC2, hC3, hC4, hC5, hC6, ⟨hNm, hm⟩, fun i hi => (hS i hi).2⟩
  have b148 := s148.2.2.2
  have hN := hT.2.2.2.2.2.2.1
  refine gx_callo (a := 1) rfl rfl g136 rfl rfl rfl r148 rfl ?_
  have k49 : ai_hv t148 7 1 = some (gx_r 257) := (e148 7 1 (by omega)).trans k38
  have k50 : ai_hv t148 260 5 = some (.inl 0) := (e148 260 5 (by omega)).trans k39
  have k51 : ai_hv t148 266 5 = some (.inl 0) := (e148 266 5 (by omega)).trans k40
  have k52 : ai_hv t148 272 5 = some (.inl 0) := (e148 272 5 (by omega)).trans k41
  have k53 : ai_hv t148 278 5 = some (.inl 0) := (e148 278 5 (by omega)).trans k42
  have k54 : ai_hv t148 284 5 = some (.inl 0) := (e148 284 5 (by omega)).trans k43
  have k55 : ai_hv t148 290 5 = some (.inl 0) := (e148 290 5 (by omega)).trans k44
  have k56 : ai_hv t148 7 4 = some (.inl 0) := (e148 7 4 (by omega)).trans k45
  have k57 : ai_hv t148 7 5 = some (.inl 0) := (e148 7 5 (by omega)).trans k46
  have k58 : ai_hv t148 7 6 = some (.inl 0) := (e148 7 6 (by omega)).trans k47
  have k59 : ai_hv t148 7 7 = some (.inl 0) := (e148 7 7 (by omega)).trans k136
  show en_ex _ _ _ _ (39, [(0, gx_r 7), (1, gx_r 257)], [], t148, n, 0) _
  refine ex_go (S := (40, [(0, gx_r 7), (1, gx_r 257)], [gx_r 7], t148, n, 0)) rfl (fun _ => rfl) rfl ?_
  refine gxo_ref (a := 7) (c := 1) rfl s148.1 rfl rfl rfl rfl rfl ?_
  refine ex_go (S := (46, [(0, gx_r 7), (1, gx_r 257)], [gx_w 0, gx_r 1], t148, n, 0)) rfl (fun _ => rfl) rfl ?_
  obtain ⟨_, r160, t160, a160, f160, rfl, s160, e160, z160, q160⟩ := pc_takeWord (d + 38) n (s148) hT (by omega) (w := 0) (by omega)
  have b160 := s160.2.2.2
  have y160 := z160.trans (congrArg (fw S m N 0) (rfl : ((0 : Nat), (0 : Nat)) = (0, 0)))
  refine gx_callo (a := 1) rfl rfl s148.1 rfl rfl rfl r160 rfl ?_
  have k61 : ai_hv t160 7 1 = some (gx_r 257) := (e160 7 1 (by omega)).trans k49
  have k62 : ai_hv t160 260 5 = some (.inl 0) := (e160 260 5 (by omega)).trans k50
  have k63 : ai_hv t160 266 5 = some (.inl 0) := (e160 266 5 (by omega)).trans k51
  have k64 : ai_hv t160 272 5 = some (.inl 0) := (e160 272 5 (by omega)).trans k52
  have k65 : ai_hv t160 278 5 = some (.inl 0) := (e160 278 5 (by omega)).trans k53
  have k66 : ai_hv t160 284 5 = some (.inl 0) := (e160 284 5 (by omega)).trans k54
  have k67 : ai_hv t160 290 5 = some (.inl 0) := (e160 290 5 (by omega)).trans k55
  have k68 : ai_hv t160 7 4 = some (.inl 0) := (e160 7 4 (by omega)).trans k56
  have k69 : ai_hv t160 7 5 = some (.inl 0) := (e160 7 5 (by omega)).trans k57
  have k70 : ai_hv t160 7 6 = some (.inl 0) := (e160 7 6 (by omega)).trans k58
  have k71 : ai_hv t160 7 7 = some (.inl 0) := (e160 7 7 (by omega)).trans k59
  show en_ex _ _ _ _ (49, [(0, gx_r 7), (1, gx_r 257)], [], t160, n, 0) _
  refine ex_go (S := (50, [(0, gx_r 7), (1, gx_r 257)], [gx_r 7], t160, n, 0)) rfl (fun _ => rfl) rfl ?_
  refine gxo_get (a := 7) rfl s160.1 rfl rfl k61 rfl ?_
  refine ex_go (S := (54, [(0, gx_r 7), (1, gx_r 257)], [gx_r 7, gx_r 257], t160, n, 0)) rfl (fun _ => rfl) rfl ?_
  refine gxo_ref (a := 7) (c := 1) rfl s160.1 rfl rfl rfl rfl rfl ?_
  refine ex_go (S := (58, [(0, gx_r 7), (1, gx_r 257)], [.inl 2, gx_r 1, gx_r 257], t160, n, 0)) rfl (fun _ => rfl) rfl ?_
  refine ex_go (S := (60, [(0, gx_r 7), (1, gx_r 257)], [.inl 8, .inl 2, gx_r 1, gx_r 257], t160, n, 0)) rfl (fun _ => rfl) rfl ?_
  have hT73 := cT_keep (t' := t160) hT (fun c i h => e160 c i (by omega))
  obtain ⟨_, r172, v172, t172, a172, f172, rfl, s172, e172, z172, q172⟩ := pc_takeNumber (d + 38) n (s160) hT73 (by omega) (lo := 2) (hi := 8) (by omega) (by omega) (by omega)
  have b172 := s172.2.2.2
  have y172 := z172.trans (congrArg (fn S m N 2 8) y160)
  refine gx_callo (a := 1) rfl rfl s160.1 rfl rfl rfl r172 rfl ?_
  have k74 : ai_hv t172 7 1 = some (gx_r 257) := (e172 7 1 (by omega)).trans k61
  have k75 : ai_hv t172 260 5 = some (.inl 0) := (e172 260 5 (by omega)).trans k62
  have k76 : ai_hv t172 266 5 = some (.inl 0) := (e172 266 5 (by omega)).trans k63
  have k77 : ai_hv t172 272 5 = some (.inl 0) := (e172 272 5 (by omega)).trans k64
  have k78 : ai_hv t172 278 5 = some (.inl 0) := (e172 278 5 (by omega)).trans k65
  have k79 : ai_hv t172 284 5 = some (.inl 0) := (e172 284 5 (by omega)).trans k66
  have k80 : ai_hv t172 290 5 = some (.inl 0) := (e172 290 5 (by omega)).trans k67
  have k81 : ai_hv t172 7 4 = some (.inl 0) := (e172 7 4 (by omega)).trans k68
  have k82 : ai_hv t172 7 5 = some (.inl 0) := (e172 7 5 (by omega)).trans k69
  have k83 : ai_hv t172 7 6 = some (.inl 0) := (e172 7 6 (by omega)).trans k70
  have k84 : ai_hv t172 7 7 = some (.inl 0) := (e172 7 7 (by omega)).trans k71
  show en_ex _ _ _ _ (63, [(0, gx_r 7), (1, gx_r 257)], [.inl v172, gx_r 257], t172, n, 0) _
  refine gxo_put (a := 257) rfl s172.1 rfl rfl rfl (gx_full (by omega)) rfl (fun t185 g185 k185 e185 => ?_)
  have k86 : ai_hv t185 7 1 = some (gx_r 257) := (e185 7 1 (by omega)).trans k74
  have k87 : ai_hv t185 260 5 = some (.inl 0) := (e185 260 5 (by omega)).trans k75
  have k88 : ai_hv t185 266 5 = some (.inl 0) := (e185 266 5 (by omega)).trans k76
  have k89 : ai_hv t185 272 5 = some (.inl 0) := (e185 272 5 (by omega)).trans k77
  have k90 : ai_hv t185 278 5 = some (.inl 0) := (e185 278 5 (by omega)).trans k78
  have k91 : ai_hv t185 284 5 = some (.inl 0) := (e185 284 5 (by omega)).trans k79
  have k92 : ai_hv t185 290 5 = some (.inl 0) := (e185 290 5 (by omega)).trans k80
  have k93 : ai_hv t185 7 4 = some (.inl 0) := (e185 7 4 (by omega)).trans k81
  have k94 : ai_hv t185 7 5 = some (.inl 0) := (e185 7 5 (by omega)).trans k82
  have k95 : ai_hv t185 7 6 = some (.inl 0) := (e185 7 6 (by omega)).trans k83
  have k96 : ai_hv t185 7 7 = some (.inl 0) := (e185 7 7 (by omega)).trans k84
  have s185 : cS t185 a172 f172 := ⟨g185, (e185 1 8 (by omega)).trans s172.2.1, (e185 1 1 (by omega)).trans s172.2.2.1, s172.2.2.2⟩
  refine ex_go (S := (67, [(0, gx_r 7), (1, gx_r 257)], [gx_r 7], t185, n, 0)) rfl (fun _ => rfl) rfl ?_
  refine gxo_get (a := 7) rfl s185.1 rfl rfl k86 rfl ?_
  refine ex_go (S := (71, [(0, gx_r 7), (1, gx_r 257)], [gx_r 7, gx_r 257], t185, n, 0)) rfl (fun _ => rfl) rfl ?_
  refine gxo_ref (a := 7) (c := 1) rfl s185.1 rfl rfl rfl rfl rfl ?_
  refine ex_go (S := (75, [(0, gx_r 7), (1, gx_r 257)], [.inl 2, gx_r 1, gx_r 257], t185, n, 0)) rfl (fun _ => rfl) rfl ?_
  refine ex_go (S := (77, [(0, gx_r 7), (1, gx_r 257)], [.inl 8, .inl 2, gx_r 1, gx_r 257], t185, n, 0)) rfl (fun _ => rfl) rfl ?_
  have hT98 := cT_keep (t' := t185) hT (fun c i h => (e185 c i (by omega)).trans ((e172 c i (by omega)).trans (e160 c i (by omega))))
  obtain ⟨_, r197, v197, t197, a197, f197, rfl, s197, e197, z197, q197⟩ := pc_takeNumber (d + 38) n (s185) hT98 (by omega) (lo := 2) (hi := 8) (by omega) (by omega) (by omega)
  have b197 := s197.2.2.2
  have y197 := z197.trans (congrArg (fn S m N 2 8) y172)
  refine gx_callo (a := 1) rfl rfl s185.1 rfl rfl rfl r197 rfl ?_
  have k99 : ai_hv t197 7 1 = some (gx_r 257) := (e197 7 1 (by omega)).trans k86
  have k100 : ai_hv t197 260 5 = some (.inl 0) := (e197 260 5 (by omega)).trans k87
  have k101 : ai_hv t197 266 5 = some (.inl 0) := (e197 266 5 (by omega)).trans k88
  have k102 : ai_hv t197 272 5 = some (.inl 0) := (e197 272 5 (by omega)).trans k89
  have k103 : ai_hv t197 278 5 = some (.inl 0) := (e197 278 5 (by omega)).trans k90
  have k104 : ai_hv t197 284 5 = some (.inl 0) := (e197 284 5 (by omega)).trans k91
  have k105 : ai_hv t197 290 5 = some (.inl 0) := (e197 290 5 (by omega)).trans k92
  have k106 : ai_hv t197 7 4 = some (.inl 0) := (e197 7 4 (by omega)).trans k93
  have k107 : ai_hv t197 7 5 = some (.inl 0) := (e197 7 5 (by omega)).trans k94
  have k108 : ai_hv t197 7 6 = some (.inl 0) := (e197 7 6 (by omega)).trans k95
  have k109 : ai_hv t197 7 7 = some (.inl 0) := (e197 7 7 (by omega)).trans k96
  have k110 : ai_hv t197 257 0 = some (.inl v172) := (e197 257 0 (by omega)).trans k185
  show en_ex _ _ _ _ (80, [(0, gx_r 7), (1, gx_r 257)], [.inl v197, gx_r 257], t197, n, 0) _
  refine gxo_put (a := 257) rfl s197.1 rfl rfl rfl (gx_full (by omega)) rfl (fun t211 g211 k211 e211 => ?_)
  have k112 : ai_hv t211 7 1 = some (gx_r 257) := (e211 7 1 (by omega)).trans k99
  have k113 : ai_hv t211 260 5 = some (.inl 0) := (e211 260 5 (by omega)).trans k100
  have k114 : ai_hv t211 266 5 = some (.inl 0) := (e211 266 5 (by omega)).trans k101
  have k115 : ai_hv t211 272 5 = some (.inl 0) := (e211 272 5 (by omega)).trans k102
  have k116 : ai_hv t211 278 5 = some (.inl 0) := (e211 278 5 (by omega)).trans k103
  have k117 : ai_hv t211 284 5 = some (.inl 0) := (e211 284 5 (by omega)).trans k104
  have k118 : ai_hv t211 290 5 = some (.inl 0) := (e211 290 5 (by omega)).trans k105
  have k119 : ai_hv t211 7 4 = some (.inl 0) := (e211 7 4 (by omega)).trans k106
  have k120 : ai_hv t211 7 5 = some (.inl 0) := (e211 7 5 (by omega)).trans k107
  have k121 : ai_hv t211 7 6 = some (.inl 0) := (e211 7 6 (by omega)).trans k108
  have k122 : ai_hv t211 7 7 = some (.inl 0) := (e211 7 7 (by omega)).trans k109
  have k123 : ai_hv t211 257 0 = some (.inl v172) := (e211 257 0 (by omega)).trans k110
  have s211 : cS t211 a197 f197 := ⟨g211, (e211 1 8 (by omega)).trans s197.2.1, (e211 1 1 (by omega)).trans s197.2.2.1, s197.2.2.2⟩
  refine ex_go (S := (84, [(0, gx_r 7), (1, gx_r 257)], [gx_r 7], t211, n, 0)) rfl (fun _ => rfl) rfl ?_
  refine gxo_ref (a := 7) (c := 1) rfl s211.1 rfl rfl rfl rfl rfl ?_
  refine ex_go (S := (89, [(0, gx_r 7), (1, gx_r 257)], [.inl 59, gx_r 1], t211, n, 0)) rfl (fun _ => rfl) rfl ?_
  have hT125 := cT_keep (t' := t211) hT (fun c i h => (e211 c i (by omega)).trans ((e197 c i (by omega)).trans ((e185 c i (by omega)).trans ((e172 c i (by omega)).trans (e160 c i (by omega))))))
  obtain ⟨_, r224, t224, a224, f224, rfl, s224, e224, z224, q224⟩ := pc_takeSign (d + 38) n (s211) hT125 (by omega) (w := 59) (by omega)
  have b224 := s224.2.2.2
  have y224 := z224.trans (congrArg (fs S m N 59) y197)
  refine gx_callo (a := 1) rfl rfl s211.1 rfl rfl rfl r224 rfl ?_
  have k126 : ai_hv t224 7 1 = some (gx_r 257) := (e224 7 1 (by omega)).trans k112
  have k127 : ai_hv t224 260 5 = some (.inl 0) := (e224 260 5 (by omega)).trans k113
  have k128 : ai_hv t224 266 5 = some (.inl 0) := (e224 266 5 (by omega)).trans k114
  have k129 : ai_hv t224 272 5 = some (.inl 0) := (e224 272 5 (by omega)).trans k115
  have k130 : ai_hv t224 278 5 = some (.inl 0) := (e224 278 5 (by omega)).trans k116
  have k131 : ai_hv t224 284 5 = some (.inl 0) := (e224 284 5 (by omega)).trans k117
  have k132 : ai_hv t224 290 5 = some (.inl 0) := (e224 290 5 (by omega)).trans k118
  have k133 : ai_hv t224 7 4 = some (.inl 0) := (e224 7 4 (by omega)).trans k119
  have k134 : ai_hv t224 7 5 = some (.inl 0) := (e224 7 5 (by omega)).trans k120
  have k135 : ai_hv t224 7 6 = some (.inl 0) := (e224 7 6 (by omega)).trans k121
  have k136 : ai_hv t224 7 7 = some (.inl 0) := (e224 7 7 (by omega)).trans k122
  have k137 : ai_hv t224 257 0 = some (.inl v172) := (e224 257 0 (by omega)).trans k123
  have k138 : ai_hv t224 257 1 = some (.inl v197) := (e224 257 1 (by omega)).trans k211
  show en_ex _ _ _ _ (92, [(0, gx_r 7), (1, gx_r 257)], [], t224, n, 0) _
  refine ex_go (S := (93, [(0, gx_r 7), (1, gx_r 257)], [.inl 0], t224, n, 0)) rfl (fun _ => rfl) rfl ?_
  refine ex_go (S := (94, [(2, .inl 0), (0, gx_r 7), (1, gx_r 257)], [], t224, n, 0)) rfl (fun _ => rfl) rfl ?_
  have hv1 : f224 = 0 → v172 = sp_nv S m 1 ∧ 2 ≤ v172 ∧ v172 ≤ 8 := fun z => by
    have h9 : a160 = 1 := by omega
    rw [← h9]; omega
  have hv2 : f224 = 0 → v197 = sp_nv S m 2 ∧ 2 ≤ v197 ∧ v197 ≤ 8 := fun z => by
    have h9 : a172 = 2 := by omega
    rw [← h9]; omega
  have hT139 := cT_keep (t' := t224) hT (fun c i h => (e224 c i (by omega)).trans ((e211 c i (by omega)).trans ((e197 c i (by omega)).trans ((e185 c i (by omega)).trans ((e172 c i (by omega)).trans (e160 c i (by omega)))))))
  refine pc_pack257_l d n (tb := t0) (K := 1001) (σ0 := sg_0 S m) (p0 := sl_0 S m N) (fun k1 t1 a1 f1 s1 hT1 hP1 w1 hO1 hPk => ?_) 1000 0 (sg_0 S m) t224 a224 f224 (by omega) (by omega) s224 hT139 (by omega) k126 (fun c i h => (e224 c i (by omega)).trans ((e211 c i (by omega)).trans ((e197 c i (by omega)).trans ((e185 c i (by omega)).trans ((e172 c i (by omega)).trans ((e160 c i (by omega)).trans ((e148 c i (by omega)).trans ((e136 c i (by omega)).trans ((e125 c i (by omega)).trans ((e115 c i (by omega)).trans ((e106 c i (by omega)).trans ((e103 c i (by omega)).trans (e101 c i (by omega)))))))))))))) (fun h0 => ⟨?_, W3_0 (by have := hv1 h0; omega) (by have := hv2 h0; omega)⟩) (fun f1 h1 => by unfold sl_0; rw [← y224]; exact h1)
  · exact pc_readPack257_t d n hE h28 s1 hT1 hP1 w1 hO1 hPk
  · refine ⟨⟨?_, ?_, k127, k128, k129, k130, k131, k132, k133, k134, k135, k136⟩, fun i hi => absurd hi (Nat.not_lt_zero i), fun i hi => absurd hi (Nat.not_lt_zero i), fun i hi => absurd hi (Nat.not_lt_zero i), fun i hi => absurd hi (Nat.not_lt_zero i), fun i hi => absurd hi (Nat.not_lt_zero i), fun i hi => absurd hi (Nat.not_lt_zero i)⟩
    · show _ = some (Sum.inl (sp_nv S m 1))
      rw [← (hv1 h0).1]; exact k137
    · show _ = some (Sum.inl (sp_nv S m 2))
      rw [← (hv2 h0).1]; exact k138
theorem pc_pack257_0 (d n : Nat) {t0 : en_H} {S : Nat → Nat} {m : Nat} (g0 : ai_HG ah_G t0) (hE : ai_E t0) (h28 : c28 t0 191) (k10 : ai_hv t0 0 10 = some (gx_r 191)) (k11 : ai_hv t0 0 11 = some (gx_r 257)) (k12 : ai_hv t0 0 12 = some (gx_r 323)) (hm : m ≤ 1000) (km : ai_hv t0 1 0 = some (.inl m)) (hS : ∀ i, i < m → ai_hv t0 2 i = some (.inl (S i)) ∧ S i ≤ 127) : ∃ r, en_u (d + 42) 32 [gx_r 0] t0 n = some r ∧ ∃ v t', r = (some (.inl v), t', n, 0) ∧ v < 2147483648 ∧ ∃ N, (∀ j, j < N → sp_st S m j < m) ∧ sp_st S m N = m ∧ Pk S m N 1001 (sg_0 S m) (sl_0 S m N) v := by
  refine en_u_ex (d := d + 41) rfl ?_
  show en_ex _ _ _ _ (0, [(0, gx_r 0)], [], t0, n, 0) _
  refine ex_go (S := (1, [(0, gx_r 0)], [gx_r 0], t0, n, 0)) rfl (fun _ => rfl) rfl ?_
  refine gxo_ref (a := 0) (c := 7) rfl g0 rfl rfl rfl rfl rfl ?_
  refine ex_go (S := (5, [(0, gx_r 0)], [gx_r 0, gx_r 7], t0, n, 0)) rfl (fun _ => rfl) rfl ?_
  refine gxo_get (a := 0) rfl g0 rfl rfl k11 rfl ?_
  obtain ⟨_, r101, v101, t101, rfl, hv101, g101, E101, f0_101, N, hN1, hN2, hPk⟩ := pc_readPack257 d n (m := m) g0 hE h28 hm km hS
  refine gx_callo (a := 7) rfl rfl g0 rfl rfl rfl r101 rfl ?_
  have e101 : ∀ c i, ¬ (c ≠ 0) → ai_hv t101 c i = ai_hv t0 c i := fun c i h => by rw [show c = 0 by omega]; exact f0_101 i
  have k2 : ai_hv t101 0 10 = some (gx_r 191) := (e101 0 10 (by omega)).trans k10
  have k3 : ai_hv t101 0 11 = some (gx_r 257) := (e101 0 11 (by omega)).trans k11
  have k4 : ai_hv t101 0 12 = some (gx_r 323) := (e101 0 12 (by omega)).trans k12
  show en_ex _ _ _ _ (11, [(0, gx_r 0)], [.inl v101], t101, n, 0) _
  refine ex_go (S := (12, [(1, .inl v101), (0, gx_r 0)], [], t101, n, 0)) rfl (fun _ => rfl) rfl ?_
  refine ex_go (S := (13, [(1, .inl v101), (0, gx_r 0)], [.inl v101], t101, n, 0)) rfl (fun _ => rfl) rfl ?_
  by_cases hc5 : v101 = 0
  · refine gx_1t (c := .eq) rfl (by omega) hc5 rfl ?_
    refine ex_go (S := (19, [(1, .inl v101), (0, gx_r 0)], [gx_r 0], t101, n, 0)) rfl (fun _ => rfl) rfl ?_
    refine gxo_get (a := 0) rfl g101 rfl rfl k2 rfl ?_
    refine ex_go (S := (23, [(2, gx_r 191), (1, .inl v101), (0, gx_r 0)], [], t101, n, 0)) rfl (fun _ => rfl) rfl ?_
    refine ex_go (S := (24, [(2, gx_r 191), (1, .inl v101), (0, gx_r 0)], [gx_r 0], t101, n, 0)) rfl (fun _ => rfl) rfl ?_
    refine ex_go (S := (25, [(2, gx_r 191), (1, .inl v101), (0, gx_r 0)], [gx_r 0, gx_r 0], t101, n, 0)) rfl (fun _ => rfl) rfl ?_
    refine gxo_get (a := 0) rfl g101 rfl rfl k3 rfl ?_
    refine gxo_putr (a := 0) (h := .inr (.inr [291, 357])) rfl g101 rfl rfl rfl (refin_r (by decide)) rfl (fun t106 g106 k106 e106 => ?_)
    have k7 : ai_hv t106 0 11 = some (gx_r 257) := (e106 0 11 (by omega)).trans k3
    have k8 : ai_hv t106 0 12 = some (gx_r 323) := (e106 0 12 (by omega)).trans k4
    refine ex_go (S := (32, [(2, gx_r 191), (1, .inl v101), (0, gx_r 0)], [gx_r 0], t106, n, 0)) rfl (fun _ => rfl) rfl ?_
    refine ex_go (S := (33, [(2, gx_r 191), (1, .inl v101), (0, gx_r 0)], [gx_r 191, gx_r 0], t106, n, 0)) rfl (fun _ => rfl) rfl ?_
    refine gxo_putr (a := 0) (h := .inr (.inr [291, 357])) rfl g106 rfl rfl rfl (refin_r (by decide)) rfl (fun t109 g109 k109 e109 => ?_)
    have k10 : ai_hv t109 0 12 = some (gx_r 323) := (e109 0 12 (by omega)).trans k8
    have k11 : ai_hv t109 0 10 = some (gx_r 257) := (e109 0 10 (by omega)).trans k106
    refine ex_go (S := (37, [(2, gx_r 191), (1, .inl v101), (0, gx_r 0)], [gx_r 0], t109, n, 0)) rfl (fun _ => rfl) rfl ?_
    have E9 : ai_E t109 := ai_E_kept E101 (fun c i hz => by have h9 := frz_ge hz; exact (e109 c i (by omega)).trans (e106 c i (by omega)))
    obtain ⟨⟨rv112, t112, rn112, rs112⟩, r112, hn112, hs112, g112, fr112, E112b, o112, ho112, ro112, hh112⟩ := (ac_all (d + 41) 21 ce_21_0 (show ce_21_0 ∈ cm_21 from List.mem_cons_self) (Nat.lt_of_lt_of_le (show ce_21_0.1 < 40 by decide) (by omega))) (fun _ => 0) [gx_r 0] t109 n ⟨gx_vref 0, trivial⟩ g109 (fun q9 hq => by
      rcases List.mem_cons.mp hq with rfl | hq
      · exact ⟨_, k11, refin_r (by decide)⟩
      · rcases List.mem_cons.mp hq with rfl | hq
        · exact ⟨_, k10, refin_r (by decide)⟩
        · exact absurd hq List.not_mem_nil) E9
    have hn112 : n = rn112 := hn112.symm
    have hs112 : rs112 = 0 := hs112
    subst hn112 hs112
    have ho112 := List.mem_singleton.mp ho112
    subst ho112
    have hv112 : rv112 = none := by
      cases rv112 with
      | none => rfl
      | some w => exact ro112.elim
    subst hv112
    refine gx_callo (a := 0) rfl rfl g109 rfl rfl rfl r112 rfl ?_
    show en_ex _ _ _ _ (40, [(2, gx_r 191), (1, .inl v101), (0, gx_r 0)], [], t112, n, 0) _
    refine ex_go (S := (41, [(2, gx_r 191), (1, .inl v101), (0, gx_r 0)], [.inl 0], t112, n, 0)) rfl (fun _ => rfl) rfl ?_
    refine ex_ret (r := (some (.inl 0), t112, n, 0)) rfl (fun _ => rfl) ?_
    exact ⟨_, rfl, 0, t112, rfl, by omega, N, hN1, hN2, by rw [show (0 : Nat) = v101 by omega]; exact hPk⟩
  · refine gx_1f (c := .eq) rfl (by omega) hc5 rfl ?_
    refine ex_go (S := (17, [(1, .inl v101), (0, gx_r 0)], [.inl v101], t101, n, 0)) rfl (fun _ => rfl) rfl ?_
    refine ex_ret (r := (some (.inl v101), t101, n, 0)) rfl (fun _ => rfl) ?_
    exact ⟨_, rfl, v101, t101, rfl, by omega, N, hN1, hN2, hPk⟩
theorem pc_pack257_1 (d n : Nat) {t0 : en_H} {S : Nat → Nat} {m : Nat} (g0 : ai_HG ah_G t0) (hE : ai_E t0) (h28 : c28 t0 191) (k10 : ai_hv t0 0 10 = some (gx_r 191)) (k11 : ai_hv t0 0 11 = some (gx_r 257)) (k12 : ai_hv t0 0 12 = some (gx_r 329)) (hm : m ≤ 1000) (km : ai_hv t0 1 0 = some (.inl m)) (hS : ∀ i, i < m → ai_hv t0 2 i = some (.inl (S i)) ∧ S i ≤ 127) : ∃ r, en_u (d + 42) 32 [gx_r 0] t0 n = some r ∧ ∃ v t', r = (some (.inl v), t', n, 0) ∧ v < 2147483648 ∧ ∃ N, (∀ j, j < N → sp_st S m j < m) ∧ sp_st S m N = m ∧ Pk S m N 1001 (sg_0 S m) (sl_0 S m N) v := by
  refine en_u_ex (d := d + 41) rfl ?_
  show en_ex _ _ _ _ (0, [(0, gx_r 0)], [], t0, n, 0) _
  refine ex_go (S := (1, [(0, gx_r 0)], [gx_r 0], t0, n, 0)) rfl (fun _ => rfl) rfl ?_
  refine gxo_ref (a := 0) (c := 7) rfl g0 rfl rfl rfl rfl rfl ?_
  refine ex_go (S := (5, [(0, gx_r 0)], [gx_r 0, gx_r 7], t0, n, 0)) rfl (fun _ => rfl) rfl ?_
  refine gxo_get (a := 0) rfl g0 rfl rfl k11 rfl ?_
  obtain ⟨_, r101, v101, t101, rfl, hv101, g101, E101, f0_101, N, hN1, hN2, hPk⟩ := pc_readPack257 d n (m := m) g0 hE h28 hm km hS
  refine gx_callo (a := 7) rfl rfl g0 rfl rfl rfl r101 rfl ?_
  have e101 : ∀ c i, ¬ (c ≠ 0) → ai_hv t101 c i = ai_hv t0 c i := fun c i h => by rw [show c = 0 by omega]; exact f0_101 i
  have k2 : ai_hv t101 0 10 = some (gx_r 191) := (e101 0 10 (by omega)).trans k10
  have k3 : ai_hv t101 0 11 = some (gx_r 257) := (e101 0 11 (by omega)).trans k11
  have k4 : ai_hv t101 0 12 = some (gx_r 329) := (e101 0 12 (by omega)).trans k12
  show en_ex _ _ _ _ (11, [(0, gx_r 0)], [.inl v101], t101, n, 0) _
  refine ex_go (S := (12, [(1, .inl v101), (0, gx_r 0)], [], t101, n, 0)) rfl (fun _ => rfl) rfl ?_
  refine ex_go (S := (13, [(1, .inl v101), (0, gx_r 0)], [.inl v101], t101, n, 0)) rfl (fun _ => rfl) rfl ?_
  by_cases hc5 : v101 = 0
  · refine gx_1t (c := .eq) rfl (by omega) hc5 rfl ?_
    refine ex_go (S := (19, [(1, .inl v101), (0, gx_r 0)], [gx_r 0], t101, n, 0)) rfl (fun _ => rfl) rfl ?_
    refine gxo_get (a := 0) rfl g101 rfl rfl k2 rfl ?_
    refine ex_go (S := (23, [(2, gx_r 191), (1, .inl v101), (0, gx_r 0)], [], t101, n, 0)) rfl (fun _ => rfl) rfl ?_
    refine ex_go (S := (24, [(2, gx_r 191), (1, .inl v101), (0, gx_r 0)], [gx_r 0], t101, n, 0)) rfl (fun _ => rfl) rfl ?_
    refine ex_go (S := (25, [(2, gx_r 191), (1, .inl v101), (0, gx_r 0)], [gx_r 0, gx_r 0], t101, n, 0)) rfl (fun _ => rfl) rfl ?_
    refine gxo_get (a := 0) rfl g101 rfl rfl k3 rfl ?_
    refine gxo_putr (a := 0) (h := .inr (.inr [291, 357])) rfl g101 rfl rfl rfl (refin_r (by decide)) rfl (fun t106 g106 k106 e106 => ?_)
    have k7 : ai_hv t106 0 11 = some (gx_r 257) := (e106 0 11 (by omega)).trans k3
    have k8 : ai_hv t106 0 12 = some (gx_r 329) := (e106 0 12 (by omega)).trans k4
    refine ex_go (S := (32, [(2, gx_r 191), (1, .inl v101), (0, gx_r 0)], [gx_r 0], t106, n, 0)) rfl (fun _ => rfl) rfl ?_
    refine ex_go (S := (33, [(2, gx_r 191), (1, .inl v101), (0, gx_r 0)], [gx_r 191, gx_r 0], t106, n, 0)) rfl (fun _ => rfl) rfl ?_
    refine gxo_putr (a := 0) (h := .inr (.inr [291, 357])) rfl g106 rfl rfl rfl (refin_r (by decide)) rfl (fun t109 g109 k109 e109 => ?_)
    have k10 : ai_hv t109 0 12 = some (gx_r 329) := (e109 0 12 (by omega)).trans k8
    have k11 : ai_hv t109 0 10 = some (gx_r 257) := (e109 0 10 (by omega)).trans k106
    refine ex_go (S := (37, [(2, gx_r 191), (1, .inl v101), (0, gx_r 0)], [gx_r 0], t109, n, 0)) rfl (fun _ => rfl) rfl ?_
    have E9 : ai_E t109 := ai_E_kept E101 (fun c i hz => by have h9 := frz_ge hz; exact (e109 c i (by omega)).trans (e106 c i (by omega)))
    obtain ⟨⟨rv112, t112, rn112, rs112⟩, r112, hn112, hs112, g112, fr112, E112b, o112, ho112, ro112, hh112⟩ := (ac_all (d + 41) 21 ce_21_1 (show ce_21_1 ∈ cm_21 from (List.mem_cons_of_mem _ List.mem_cons_self)) (Nat.lt_of_lt_of_le (show ce_21_1.1 < 40 by decide) (by omega))) (fun _ => 0) [gx_r 0] t109 n ⟨gx_vref 0, trivial⟩ g109 (fun q9 hq => by
      rcases List.mem_cons.mp hq with rfl | hq
      · exact ⟨_, k11, refin_r (by decide)⟩
      · rcases List.mem_cons.mp hq with rfl | hq
        · exact ⟨_, k10, refin_r (by decide)⟩
        · exact absurd hq List.not_mem_nil) E9
    have hn112 : n = rn112 := hn112.symm
    have hs112 : rs112 = 0 := hs112
    subst hn112 hs112
    have ho112 := List.mem_singleton.mp ho112
    subst ho112
    have hv112 : rv112 = none := by
      cases rv112 with
      | none => rfl
      | some w => exact ro112.elim
    subst hv112
    refine gx_callo (a := 0) rfl rfl g109 rfl rfl rfl r112 rfl ?_
    show en_ex _ _ _ _ (40, [(2, gx_r 191), (1, .inl v101), (0, gx_r 0)], [], t112, n, 0) _
    refine ex_go (S := (41, [(2, gx_r 191), (1, .inl v101), (0, gx_r 0)], [.inl 0], t112, n, 0)) rfl (fun _ => rfl) rfl ?_
    refine ex_ret (r := (some (.inl 0), t112, n, 0)) rfl (fun _ => rfl) ?_
    exact ⟨_, rfl, 0, t112, rfl, by omega, N, hN1, hN2, by rw [show (0 : Nat) = v101 by omega]; exact hPk⟩
  · refine gx_1f (c := .eq) rfl (by omega) hc5 rfl ?_
    refine ex_go (S := (17, [(1, .inl v101), (0, gx_r 0)], [.inl v101], t101, n, 0)) rfl (fun _ => rfl) rfl ?_
    refine ex_ret (r := (some (.inl v101), t101, n, 0)) rfl (fun _ => rfl) ?_
    exact ⟨_, rfl, v101, t101, rfl, by omega, N, hN1, hN2, hPk⟩
end SPY
