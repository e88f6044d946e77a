section SWU
theorem pc_weeks191_323_l (d n : Nat) {tb : en_H} {S S0 : Nat → Nat} {m N m0 N0 : Nat} {υ : Nat → Nat → Nat} {K : Nat} {p0 : Nat × Nat} {Q : en_O → Prop} (h3 : W3 S0 m0 N0 υ) (hc : WC S0 m0 N0 υ) {ρ0 : Nat → Nat} (hQ : ∀ k t1 a1 f1 c ρ, cS t1 a1 f1 → (∀ i, ai_hv t1 0 i = ai_hv tb 0 i) → (f1 = 0 → ai_hv t1 323 5 = some (.inl c) ∧ c ≤ 24 ∧ ∀ k, k < c → LCr S0 m0 υ S m N t1 323 k (ρ k)) → Wx S m N (υ 0 0) (υ 1 0) (tcr S0 m0 υ S m) K 0 ρ0 p0 (wr f1 c ρ) → en_ex none (en_u (d + 5)) (en_code 98) (fun _ => false) (53, [(3, .inl k), (0, gx_r 7), (1, gx_r 191), (2, gx_r 323)], [], t1, n, 0) Q) : ∀ j i c ρ t0 a f, i + j = 1000 → (f = 0 → i ≤ a) → cS t0 a f → cT t0 S m N → a ≤ N → (∀ i, ai_hv t0 0 i = ai_hv tb 0 i) → ai_hv t0 7 1 = some (gx_r 191) → ai_hv t0 206 5 = some (.inl (υ 4 0)) → (∀ i, i < υ 4 0 → ai_hv t0 207 i = some (.inr (.inl (sp_wv S0 m0 (υ 21 i + 1))))) → ai_hv t0 191 0 = some (.inl (υ 0 0)) → ai_hv t0 191 1 = some (.inl (υ 1 0)) → (f = 0 → ai_hv t0 323 5 = some (.inl c) ∧ c ≤ 24 ∧ ∀ k, k < c → LCr S0 m0 υ S m N t0 323 k (ρ k)) → (∀ f1, Wx S m N (υ 0 0) (υ 1 0) (tcr S0 m0 υ S m) (j + 1) c ρ (a, f) f1 → Wx S m N (υ 0 0) (υ 1 0) (tcr S0 m0 υ S m) K 0 ρ0 p0 f1) → en_ex none (en_u (d + 5)) (en_code 98) (fun _ => false) (18, [(3, .inl i), (0, gx_r 7), (1, gx_r 191), (2, gx_r 323)], [], t0, n, 0) Q := by
  intro j
  induction j with
  | zero =>
    intro i c ρ t0 a f hi hia s0 hT ha hz0 hP kq5 hn ko kd hO hPk
    have b0 := s0.2.2.2
    have hN := hT.2.2.2.2.2.2.1
    refine ex_go (S := (19, [(3, .inl i), (0, gx_r 7), (1, gx_r 191), (2, gx_r 323)], [.inl i], t0, n, 0)) rfl (fun _ => rfl) rfl ?_
    refine ex_go (S := (22, [(3, .inl i), (0, gx_r 7), (1, gx_r 191), (2, gx_r 323)], [.inl 1000, .inl i], t0, n, 0)) rfl (fun _ => rfl) rfl ?_
    refine gx_2t (c := .ge) rfl (by first | decide | omega) (by first | decide | omega) (show 1000 ≤ i from by omega) rfl ?_
    exact hQ i t0 a f c ρ s0 hz0 hO (hPk _ (by
      by_cases h0 : f = 0
      · exact Or.inr (Or.inl ⟨h0, by have := hia h0; show N ≤ a; omega, by rw [h0]⟩)
      · exact Or.inl ⟨h0, rfl⟩))
  | succ j ih =>
    intro i c ρ t0 a f hi hia s0 hT ha hz0 hP kq5 hn ko kd hO hPk
    have b0 := s0.2.2.2
    have hN := hT.2.2.2.2.2.2.1
    refine ex_go (S := (19, [(3, .inl i), (0, gx_r 7), (1, gx_r 191), (2, gx_r 323)], [.inl i], t0, n, 0)) rfl (fun _ => rfl) rfl ?_
    refine ex_go (S := (22, [(3, .inl i), (0, gx_r 7), (1, gx_r 191), (2, gx_r 323)], [.inl 1000, .inl i], t0, n, 0)) rfl (fun _ => rfl) rfl ?_
    refine gx_2f (c := .ge) rfl (by first | decide | omega) (by first | decide | omega) (show ¬ (1000 ≤ i) from by omega) rfl ?_
    refine ex_go (S := (26, [(3, .inl i), (0, gx_r 7), (1, gx_r 191), (2, gx_r 323)], [gx_r 7], t0, n, 0)) rfl (fun _ => rfl) rfl ?_
    refine gxo_ref (a := 7) (c := 1) rfl s0.1 rfl rfl rfl rfl rfl ?_
    obtain ⟨_, r101, v101, rfl, q101⟩ := pc_goesOn (d + 4) n (s0) hT (by first | decide | omega) 
    refine gx_callo (a := 1) rfl rfl s0.1 rfl rfl rfl r101 rfl ?_
    show en_ex _ _ _ _ (32, [(3, .inl i), (0, gx_r 7), (1, gx_r 191), (2, gx_r 323)], [.inl v101], t0, n, 0) _
    by_cases hc2 : v101 = 0
    · refine gx_1t (c := .eq) rfl (by first | decide | omega) hc2 rfl ?_
      exact hQ i t0 a f c ρ s0 hz0 hO (hPk _ (by
        by_cases h0 : f = 0
        · refine Or.inr (Or.inl ⟨h0, ?_, by rw [h0]⟩)
          show N ≤ a
          by_cases h1 : a < N
          · exact absurd (q101.2.mpr ⟨h0, h1⟩) (by first | decide | omega)
          · omega
        · exact Or.inl ⟨h0, rfl⟩))
    · refine gx_1f (c := .eq) rfl (by first | decide | omega) hc2 rfl ?_
      refine ex_go (S := (36, [(3, .inl i), (0, gx_r 7), (1, gx_r 191), (2, gx_r 323)], [gx_r 7], t0, n, 0)) rfl (fun _ => rfl) rfl ?_
      refine ex_go (S := (37, [(3, .inl i), (0, gx_r 7), (1, gx_r 191), (2, gx_r 323)], [gx_r 7, gx_r 7], t0, n, 0)) rfl (fun _ => rfl) rfl ?_
      refine gxo_ref (a := 7) (c := 1) rfl s0.1 rfl rfl rfl rfl rfl ?_
      obtain ⟨hf0, haN⟩ := q101.2.mp (by first | decide | omega)
      subst hf0
      obtain ⟨_, r103, wv103, rfl, q103⟩ := pc_word (d + 4) n s0 hT (by first | decide | omega)
      rcases q103 with ⟨rfl, nw103⟩ | ⟨w103, bw103, rfl, yw103⟩
      · refine gx_callo (a := 1) rfl rfl s0.1 rfl rfl rfl r103 rfl ?_
        show en_ex _ _ _ _ (43, [(3, .inl i), (0, gx_r 7), (1, gx_r 191), (2, gx_r 323)], [.inr (.inr (.inl none)), gx_r 7], t0, n, 0) _
        refine ex_go (S := (44, [(3, .inl i), (0, gx_r 7), (1, gx_r 191), (2, gx_r 323)], [gx_r 323, .inr (.inr (.inl none)), gx_r 7], t0, n, 0)) rfl (fun _ => rfl) rfl ?_
        obtain ⟨kc, hcc, hrw⟩ := hO rfl
        obtain ⟨_, r104, t104, a104, f104, rfl, s104, hT104, e104, ⟨q104, hl104, z104⟩, y104, u104⟩ := pc_weekLine191_323_0 (d + 1) n s0 hT haN hP kq5 hn h3 hc ko kd kc hcc nw103
        have b104 := s104.2.2.2
        refine gx_callo (a := 7) rfl rfl s0.1 rfl rfl rfl r104 rfl ?_
        have k5 : ai_hv t104 7 1 = some (gx_r 191) := (e104 7 1 (by first | decide | omega)).trans hP
        have k6 : ai_hv t104 191 0 = some (.inl (υ 0 0)) := (e104 191 0 (by first | decide | omega)).trans ko
        have k7 : ai_hv t104 191 1 = some (.inl (υ 1 0)) := (e104 191 1 (by first | decide | omega)).trans kd
        have k8 : ai_hv t104 206 5 = some (.inl (υ 4 0)) := (e104 206 5 (by first | decide | omega)).trans kq5
        show en_ex _ _ _ _ (47, [(3, .inl i), (0, gx_r 7), (1, gx_r 191), (2, gx_r 323)], [], t104, n, 0) _
        refine gx_iinc (i := 3) (k := 1) rfl (fun _ => rfl) (by first | decide | omega) rfl ?_
        show en_ex _ _ _ _ (50, [(3, .inl (i + 1)), (0, gx_r 7), (1, gx_r 191), (2, gx_r 323)], [], t104, n, 0) _
        refine ex_go (S := (18, [(3, .inl (i + 1)), (0, gx_r 7), (1, gx_r 191), (2, gx_r 323)], [], t104, n, 0)) rfl (fun _ => rfl) rfl ?_
        exact ih (i + 1) (c + 1) (nx ρ c a) t104 a104 f104 (by first | decide | omega) (fun h0 => by have := (y104.2 h0).1; have := hia rfl; omega) s104 hT104 y104.1 (fun i => (e104 0 i (by first | decide | omega)).trans (hz0 i)) k5 k8 (fun i hi => (e104 207 i (by first | decide | omega)).trans (hn i hi)) k6 k7 (fun h0 => ⟨(u104 h0).1, by have := (y104.2 h0).2; omega, fun k hk => by
          by_cases e8 : k = c
          · rw [e8, nx_t]; exact (u104 h0).2
          · rw [nx_f e8]; exact LCr_mv (hrw k (by first | decide | omega)) (fun c9 h7 h8 => e104 c9 k (by first | decide | omega))⟩) (fun f1 h1 => hPk f1 (Or.inr (Or.inr ⟨rfl, haN, q104, hl104, by rw [← z104]; exact h1⟩)))
      · refine gx_callo (a := 1) rfl rfl s0.1 rfl rfl rfl r103 rfl ?_
        show en_ex _ _ _ _ (43, [(3, .inl i), (0, gx_r 7), (1, gx_r 191), (2, gx_r 323)], [gx_w w103, gx_r 7], t0, n, 0) _
        refine ex_go (S := (44, [(3, .inl i), (0, gx_r 7), (1, gx_r 191), (2, gx_r 323)], [gx_r 323, gx_w w103, gx_r 7], t0, n, 0)) rfl (fun _ => rfl) rfl ?_
        obtain ⟨kc, hcc, hrw⟩ := hO rfl
        obtain ⟨_, r109, t109, a109, f109, rfl, s109, hT109, e109, ⟨q109, hl109, z109⟩, y109, u109⟩ := pc_weekLine191_323_1 (d + 1) n s0 hT haN hP kq5 hn h3 hc ko kd kc hcc bw103 yw103
        have b109 := s109.2.2.2
        refine gx_callo (a := 7) rfl rfl s0.1 rfl rfl rfl r109 rfl ?_
        have k10 : ai_hv t109 7 1 = some (gx_r 191) := (e109 7 1 (by first | decide | omega)).trans hP
        have k11 : ai_hv t109 191 0 = some (.inl (υ 0 0)) := (e109 191 0 (by first | decide | omega)).trans ko
        have k12 : ai_hv t109 191 1 = some (.inl (υ 1 0)) := (e109 191 1 (by first | decide | omega)).trans kd
        have k13 : ai_hv t109 206 5 = some (.inl (υ 4 0)) := (e109 206 5 (by first | decide | omega)).trans kq5
        show en_ex _ _ _ _ (47, [(3, .inl i), (0, gx_r 7), (1, gx_r 191), (2, gx_r 323)], [], t109, n, 0) _
        refine gx_iinc (i := 3) (k := 1) rfl (fun _ => rfl) (by first | decide | omega) rfl ?_
        show en_ex _ _ _ _ (50, [(3, .inl (i + 1)), (0, gx_r 7), (1, gx_r 191), (2, gx_r 323)], [], t109, n, 0) _
        refine ex_go (S := (18, [(3, .inl (i + 1)), (0, gx_r 7), (1, gx_r 191), (2, gx_r 323)], [], t109, n, 0)) rfl (fun _ => rfl) rfl ?_
        exact ih (i + 1) (c + 1) (nx ρ c a) t109 a109 f109 (by first | decide | omega) (fun h0 => by have := (y109.2 h0).1; have := hia rfl; omega) s109 hT109 y109.1 (fun i => (e109 0 i (by first | decide | omega)).trans (hz0 i)) k10 k13 (fun i hi => (e109 207 i (by first | decide | omega)).trans (hn i hi)) k11 k12 (fun h0 => ⟨(u109 h0).1, by have := (y109.2 h0).2; omega, fun k hk => by
          by_cases e8 : k = c
          · rw [e8, nx_t]; exact (u109 h0).2
          · rw [nx_f e8]; exact LCr_mv (hrw k (by first | decide | omega)) (fun c9 h7 h8 => e109 c9 k (by first | decide | omega))⟩) (fun f1 h1 => hPk f1 (Or.inr (Or.inr ⟨rfl, haN, q109, hl109, by rw [← z109]; exact h1⟩)))
theorem pc_readWeeks191_323_t (d n : Nat) {t1 : en_H} {a f k : Nat} (s1 : cS t1 a f) : en_ex none (en_u (d + 5)) (en_code 98) (fun _ => false) (53, [(3, .inl k), (0, gx_r 7), (1, gx_r 191), (2, gx_r 323)], [], t1, n, 0) (fun o => o = .inl (some (.inl f), t1, n, 0)) := by
  have b0 := s1.2.2.2
  refine ex_go (S := (54, [(3, .inl k), (0, gx_r 7), (1, gx_r 191), (2, gx_r 323)], [gx_r 7], t1, n, 0)) rfl (fun _ => rfl) rfl ?_
  refine gxo_ref (a := 7) (c := 1) rfl s1.1 rfl rfl rfl rfl rfl ?_
  refine gxo_get (a := 1) rfl s1.1 rfl rfl s1.2.2.1 rfl ?_
  refine ex_ret (r := (some (.inl f), t1, n, 0)) rfl (fun _ => rfl) ?_
  exact rfl
theorem pc_readWeeks191_323 (d n : Nat) {t0 : en_H} {S S0 : Nat → Nat} {m m0 N0 : Nat} {υ : Nat → Nat → Nat} (g0 : ai_HG ah_G t0) (kq5 : ai_hv t0 206 5 = some (.inl (υ 4 0))) (hn : ∀ i, i < υ 4 0 → ai_hv t0 207 i = some (.inr (.inl (sp_wv S0 m0 (υ 21 i + 1))))) (ko : ai_hv t0 191 0 = some (.inl (υ 0 0))) (kd : ai_hv t0 191 1 = some (.inl (υ 1 0))) (h3 : W3 S0 m0 N0 υ) (hc : WC S0 m0 N0 υ) (hm : m ≤ 1000) (km : ai_hv t0 1 0 = some (.inl m)) (hS : ∀ i, i < m → ai_hv t0 2 i = some (.inl (S i)) ∧ S i ≤ 127) : ∃ r, en_u (d + 6) 98 [gx_r 7, gx_r 191, gx_r 323] t0 n = some r ∧ ∃ v t', r = (some (.inl v), t', n, 0) ∧ v < 2147483648 ∧ ai_HG ah_G t' ∧ (∀ i, ai_hv t' 0 i = ai_hv t0 0 i) ∧ ∃ N, (∀ j, j < N → sp_st S m j < m) ∧ sp_st S m N = m ∧ ∃ nl ρ, Wx S m N (υ 0 0) (υ 1 0) (tcr S0 m0 υ S m) 1001 0 (fun _ => 0) (0, 0) (wr v nl ρ) ∧ (v = 0 → ai_hv t' 323 5 = some (.inl nl) ∧ nl ≤ 24 ∧ ∀ k, k < nl → LCr S0 m0 υ S m N t' 323 k (ρ k)) := by
  refine en_u_ex (d := d + 5) rfl ?_
  show en_ex _ _ _ _ (0, [(0, gx_r 7), (1, gx_r 191), (2, gx_r 323)], [], t0, n, 0) _
  refine ex_go (S := (1, [(0, gx_r 7), (1, gx_r 191), (2, gx_r 323)], [gx_r 7], t0, n, 0)) rfl (fun _ => rfl) rfl ?_
  refine ex_go (S := (2, [(0, gx_r 7), (1, gx_r 191), (2, gx_r 323)], [gx_r 191, gx_r 7], t0, n, 0)) rfl (fun _ => rfl) rfl ?_
  refine gxo_putr (a := 7) (h := .inr (.inr [0, 291, 357])) rfl g0 rfl rfl rfl (refin_r (by decide)) rfl (fun t101 g101 k101 e101 => ?_)
  have k2 : ai_hv t101 1 0 = some (.inl m) := (e101 1 0 (by first | decide | omega)).trans km
  have k3 : ai_hv t101 191 0 = some (.inl (υ 0 0)) := (e101 191 0 (by first | decide | omega)).trans ko
  have k4 : ai_hv t101 191 1 = some (.inl (υ 1 0)) := (e101 191 1 (by first | decide | omega)).trans kd
  have k5 : ai_hv t101 206 5 = some (.inl (υ 4 0)) := (e101 206 5 (by first | decide | omega)).trans kq5
  refine ex_go (S := (6, [(0, gx_r 7), (1, gx_r 191), (2, gx_r 323)], [gx_r 323], t101, n, 0)) rfl (fun _ => rfl) rfl ?_
  obtain ⟨_, r106, t106, rfl, g106, e106, k106⟩ := pc_rclear323 (d + 4) n g101
  refine gx_callo (a := 323) rfl rfl g101 rfl rfl rfl r106 rfl ?_
  have k7 : ai_hv t106 1 0 = some (.inl m) := (e106 1 0 (by first | decide | omega)).trans k2
  have k8 : ai_hv t106 191 0 = some (.inl (υ 0 0)) := (e106 191 0 (by first | decide | omega)).trans k3
  have k9 : ai_hv t106 191 1 = some (.inl (υ 1 0)) := (e106 191 1 (by first | decide | omega)).trans k4
  have k10 : ai_hv t106 206 5 = some (.inl (υ 4 0)) := (e106 206 5 (by first | decide | omega)).trans k5
  have k11 : ai_hv t106 7 1 = some (gx_r 191) := (e106 7 1 (by first | decide | omega)).trans k101
  show en_ex _ _ _ _ (9, [(0, gx_r 7), (1, gx_r 191), (2, gx_r 323)], [], t106, n, 0) _
  refine ex_go (S := (10, [(0, gx_r 7), (1, gx_r 191), (2, gx_r 323)], [gx_r 7], t106, n, 0)) rfl (fun _ => rfl) rfl ?_
  refine gxo_ref (a := 7) (c := 1) rfl g106 rfl rfl rfl rfl rfl ?_
  obtain ⟨_, r112, t112, rfl, g112, k0_112, k1_112, k8_112, e112, N, hNm, hC1, hC2, hC3, hC4, hC5, hC6⟩ := pc_cut d n (m := m) g106 hm k7 (fun i hi => ⟨((e106 2 i (by first | decide | omega)).trans (e101 2 i (by first | decide | omega))).trans (hS i hi).1, (hS i hi).2⟩)
  have s112 : cS t112 0 0 := ⟨g112, k8_112, k1_112, by omega, by omega⟩
  have hT : cT t112 S m N := ⟨hC1, hC2, hC3, hC4, hC5, hC6, ⟨hNm, hm⟩, fun i hi => (hS i hi).2⟩
  have b112 := s112.2.2.2
  have hN := hT.2.2.2.2.2.2.1
  refine gx_callo (a := 1) rfl rfl g106 rfl rfl rfl r112 rfl ?_
  have k13 : ai_hv t112 191 0 = some (.inl (υ 0 0)) := (e112 191 0 (by first | decide | omega)).trans k8
  have k14 : ai_hv t112 191 1 = some (.inl (υ 1 0)) := (e112 191 1 (by first | decide | omega)).trans k9
  have k15 : ai_hv t112 206 5 = some (.inl (υ 4 0)) := (e112 206 5 (by first | decide | omega)).trans k10
  have k16 : ai_hv t112 7 1 = some (gx_r 191) := (e112 7 1 (by first | decide | omega)).trans k11
  have k17 : ai_hv t112 323 5 = some (.inl 0) := (e112 323 5 (by first | decide | omega)).trans k106
  show en_ex _ _ _ _ (16, [(0, gx_r 7), (1, gx_r 191), (2, gx_r 323)], [], t112, n, 0) _
  refine ex_go (S := (17, [(0, gx_r 7), (1, gx_r 191), (2, gx_r 323)], [.inl 0], t112, n, 0)) rfl (fun _ => rfl) rfl ?_
  refine ex_go (S := (18, [(3, .inl 0), (0, gx_r 7), (1, gx_r 191), (2, gx_r 323)], [], t112, n, 0)) rfl (fun _ => rfl) rfl ?_
  refine pc_weeks191_323_l d n (tb := t0) (K := 1001) (p0 := (0, 0)) h3 hc (ρ0 := fun _ => 0) (fun k1 t1 a1 f1 c1 ρ1 s1 hz1 hr1 hk => ex_imp (fun o9 h9 => ?_) (pc_readWeeks191_323_t d n s1)) 1000 0 0 (fun _ => 0) t112 0 0 (by first | decide | omega) (by first | decide | omega) s112 hT (by first | decide | omega) (fun i => (e112 0 i (by first | decide | omega)).trans ((e106 0 i (by first | decide | omega)).trans (e101 0 i (by first | decide | omega)))) k16 k15 (fun i hi => ((e112 207 i (by first | decide | omega)).trans ((e106 207 i (by first | decide | omega)).trans (e101 207 i (by first | decide | omega)))).trans (hn i hi)) k13 k14 (fun _ => ⟨k17, by omega, fun k hk => absurd hk (Nat.not_lt_zero k)⟩) (fun f1 h => h)
  have b9 := s1.2.2.2
  exact ⟨_, h9, f1, t1, rfl, by omega, s1.1, hz1, N, (fun j hj => (hT.1 j hj).1), hT.2.1, c1, ρ1, hk, hr1⟩
theorem pc_weeks191_323 (d n : Nat) {t0 : en_H} {S S0 : Nat → Nat} {m m0 N0 : Nat} {υ : Nat → Nat → Nat} (g0 : ai_HG ah_G t0) (k10 : ai_hv t0 0 10 = some (gx_r 191)) (k12 : ai_hv t0 0 12 = some (gx_r 329)) (k13 : ai_hv t0 0 13 = some (gx_r 323)) (kq5 : ai_hv t0 206 5 = some (.inl (υ 4 0))) (hn : ∀ i, i < υ 4 0 → ai_hv t0 207 i = some (.inr (.inl (sp_wv S0 m0 (υ 21 i + 1))))) (ko : ai_hv t0 191 0 = some (.inl (υ 0 0))) (kd : ai_hv t0 191 1 = some (.inl (υ 1 0))) (h3 : W3 S0 m0 N0 υ) (hc : WC S0 m0 N0 υ) (hm : m ≤ 1000) (km : ai_hv t0 1 0 = some (.inl m)) (hS : ∀ i, i < m → ai_hv t0 2 i = some (.inl (S i)) ∧ S i ≤ 127) : ∃ r, en_u (d + 7) 34 [gx_r 0] t0 n = some r ∧ ∃ v t', r = (some (.inl v), t', n, 0) ∧ v < 2147483648 ∧ ((v = 0 → ai_hv t' 0 12 = some (gx_r 323)) ∧ (v ≠ 0 → ai_hv t' 0 12 = some (gx_r 329))) ∧ ∃ N, (∀ j, j < N → sp_st S m j < m) ∧ sp_st S m N = m ∧ ∃ nl ρ, Wx S m N (υ 0 0) (υ 1 0) (tcr S0 m0 υ S m) 1001 0 (fun _ => 0) (0, 0) (wr v nl ρ) ∧ (v = 0 → ai_hv t' 323 5 = some (.inl nl) ∧ nl ≤ 24 ∧ ∀ k, k < nl → LCr S0 m0 υ S m N t' 323 k (ρ k)) := by
  refine en_u_ex (d := d + 6) rfl ?_
  show en_ex _ _ _ _ (0, [(0, gx_r 0)], [], t0, n, 0) _
  refine ex_go (S := (1, [(0, gx_r 0)], [gx_r 0], t0, n, 0)) rfl (fun _ => rfl) rfl ?_
  refine gxo_ref (a := 0) (c := 7) rfl g0 rfl rfl rfl rfl rfl ?_
  refine ex_go (S := (5, [(0, gx_r 0)], [gx_r 0, gx_r 7], t0, n, 0)) rfl (fun _ => rfl) rfl ?_
  refine gxo_get (a := 0) rfl g0 rfl rfl k10 rfl ?_
  refine ex_go (S := (9, [(0, gx_r 0)], [gx_r 0, gx_r 191, gx_r 7], t0, n, 0)) rfl (fun _ => rfl) rfl ?_
  refine gxo_get (a := 0) rfl g0 rfl rfl k13 rfl ?_
  obtain ⟨_, r101, v101, t101, rfl, hv101, g101, f0_101, N, hN1, hN2, nl, ρ, hWk, hrw⟩ := pc_readWeeks191_323 d n (m := m) g0 kq5 hn ko kd h3 hc hm km hS
  refine gx_callo (a := 7) rfl rfl g0 rfl rfl rfl r101 rfl ?_
  have e101 : ∀ c i, ¬ (c ≠ 0) → ai_hv t101 c i = ai_hv t0 c i := fun c i h => by rw [show c = 0 by omega]; exact f0_101 i
  have k2 : ai_hv t101 0 10 = some (gx_r 191) := (e101 0 10 (by first | decide | omega)).trans k10
  have k3 : ai_hv t101 0 12 = some (gx_r 329) := (e101 0 12 (by first | decide | omega)).trans k12
  have k4 : ai_hv t101 0 13 = some (gx_r 323) := (e101 0 13 (by first | decide | omega)).trans k13
  show en_ex _ _ _ _ (15, [(0, gx_r 0)], [.inl v101], t101, n, 0) _
  refine ex_go (S := (16, [(1, .inl v101), (0, gx_r 0)], [], t101, n, 0)) rfl (fun _ => rfl) rfl ?_
  refine ex_go (S := (17, [(1, .inl v101), (0, gx_r 0)], [.inl v101], t101, n, 0)) rfl (fun _ => rfl) rfl ?_
  by_cases hc5 : v101 = 0
  · refine gx_1t (c := .eq) rfl (by first | decide | omega) hc5 rfl ?_
    refine ex_go (S := (23, [(1, .inl v101), (0, gx_r 0)], [gx_r 0], t101, n, 0)) rfl (fun _ => rfl) rfl ?_
    refine gxo_get (a := 0) rfl g101 rfl rfl k3 rfl ?_
    refine ex_go (S := (27, [(2, gx_r 329), (1, .inl v101), (0, gx_r 0)], [], t101, n, 0)) rfl (fun _ => rfl) rfl ?_
    refine ex_go (S := (28, [(2, gx_r 329), (1, .inl v101), (0, gx_r 0)], [gx_r 0], t101, n, 0)) rfl (fun _ => rfl) rfl ?_
    refine ex_go (S := (29, [(2, gx_r 329), (1, .inl v101), (0, gx_r 0)], [gx_r 0, gx_r 0], t101, n, 0)) rfl (fun _ => rfl) rfl ?_
    refine gxo_get (a := 0) rfl g101 rfl rfl k4 rfl ?_
    refine gxo_putr (a := 0) (h := .inr (.inr [423, 429])) rfl g101 rfl rfl rfl (refin_r (by decide)) rfl (fun t106 g106 k106 e106 => ?_)
    have k7 : ai_hv t106 0 10 = some (gx_r 191) := (e106 0 10 (by first | decide | omega)).trans k2
    have k8 : ai_hv t106 0 13 = some (gx_r 323) := (e106 0 13 (by first | decide | omega)).trans k4
    refine ex_go (S := (36, [(2, gx_r 329), (1, .inl v101), (0, gx_r 0)], [gx_r 0], t106, n, 0)) rfl (fun _ => rfl) rfl ?_
    refine ex_go (S := (37, [(2, gx_r 329), (1, .inl v101), (0, gx_r 0)], [gx_r 329, gx_r 0], t106, n, 0)) rfl (fun _ => rfl) rfl ?_
    refine gxo_putr (a := 0) (h := .inr (.inr [423, 429])) rfl g106 rfl rfl rfl (refin_r (by decide)) rfl (fun t109 g109 k109 e109 => ?_)
    have k10 : ai_hv t109 0 10 = some (gx_r 191) := (e109 0 10 (by first | decide | omega)).trans k7
    have k11 : ai_hv t109 0 12 = some (gx_r 323) := (e109 0 12 (by first | decide | omega)).trans k106
    refine ex_go (S := (41, [(2, gx_r 329), (1, .inl v101), (0, gx_r 0)], [.inl 0], t109, n, 0)) rfl (fun _ => rfl) rfl ?_
    refine ex_ret (r := (some (.inl 0), t109, n, 0)) rfl (fun _ => rfl) ?_
    have h9 : v101 = 0 := by omega
    rw [h9] at hWk
    obtain ⟨x1, x2, x3⟩ := hrw h9
    exact ⟨_, rfl, 0, t109, rfl, by omega, ⟨fun _ => k11, fun h9 => absurd rfl h9⟩, N, hN1, hN2, nl, ρ, hWk, fun _ => ⟨(e109 323 5 (by first | decide | omega)).trans ((e106 323 5 (by first | decide | omega)).trans (x1)), x2, fun k hk => LCr_mv (x3 k hk) (fun c9 h7 h8 => (e109 c9 k (by first | decide | omega)).trans (e106 c9 k (by first | decide | omega)))⟩⟩
  · refine gx_1f (c := .eq) rfl (by first | decide | omega) hc5 rfl ?_
    refine ex_go (S := (21, [(1, .inl v101), (0, gx_r 0)], [.inl v101], t101, n, 0)) rfl (fun _ => rfl) rfl ?_
    refine ex_ret (r := (some (.inl v101), t101, n, 0)) rfl (fun _ => rfl) ?_
    exact ⟨_, rfl, v101, t101, rfl, by omega, ⟨fun h9 => absurd h9 (by first | decide | omega), fun _ => k3⟩, N, hN1, hN2, nl, ρ, hWk, fun h9 => absurd h9 (by first | decide | omega)⟩
theorem pc_weeks191_329_l (d n : Nat) {tb : en_H} {S S0 : Nat → Nat} {m N m0 N0 : Nat} {υ : Nat → Nat → Nat} {K : Nat} {p0 : Nat × Nat} {Q : en_O → Prop} (h3 : W3 S0 m0 N0 υ) (hc : WC S0 m0 N0 υ) {ρ0 : Nat → Nat} (hQ : ∀ k t1 a1 f1 c ρ, cS t1 a1 f1 → (∀ i, ai_hv t1 0 i = ai_hv tb 0 i) → (f1 = 0 → ai_hv t1 329 5 = some (.inl c) ∧ c ≤ 24 ∧ ∀ k, k < c → LCr S0 m0 υ S m N t1 329 k (ρ k)) → Wx S m N (υ 0 0) (υ 1 0) (tcr S0 m0 υ S m) K 0 ρ0 p0 (wr f1 c ρ) → en_ex none (en_u (d + 5)) (en_code 98) (fun _ => false) (53, [(3, .inl k), (0, gx_r 7), (1, gx_r 191), (2, gx_r 329)], [], t1, n, 0) Q) : ∀ j i c ρ t0 a f, i + j = 1000 → (f = 0 → i ≤ a) → cS t0 a f → cT t0 S m N → a ≤ N → (∀ i, ai_hv t0 0 i = ai_hv tb 0 i) → ai_hv t0 7 1 = some (gx_r 191) → ai_hv t0 206 5 = some (.inl (υ 4 0)) → (∀ i, i < υ 4 0 → ai_hv t0 207 i = some (.inr (.inl (sp_wv S0 m0 (υ 21 i + 1))))) → ai_hv t0 191 0 = some (.inl (υ 0 0)) → ai_hv t0 191 1 = some (.inl (υ 1 0)) → (f = 0 → ai_hv t0 329 5 = some (.inl c) ∧ c ≤ 24 ∧ ∀ k, k < c → LCr S0 m0 υ S m N t0 329 k (ρ k)) → (∀ f1, Wx S m N (υ 0 0) (υ 1 0) (tcr S0 m0 υ S m) (j + 1) c ρ (a, f) f1 → Wx S m N (υ 0 0) (υ 1 0) (tcr S0 m0 υ S m) K 0 ρ0 p0 f1) → en_ex none (en_u (d + 5)) (en_code 98) (fun _ => false) (18, [(3, .inl i), (0, gx_r 7), (1, gx_r 191), (2, gx_r 329)], [], t0, n, 0) Q := by
  intro j
  induction j with
  | zero =>
    intro i c ρ t0 a f hi hia s0 hT ha hz0 hP kq5 hn ko kd hO hPk
    have b0 := s0.2.2.2
    have hN := hT.2.2.2.2.2.2.1
    refine ex_go (S := (19, [(3, .inl i), (0, gx_r 7), (1, gx_r 191), (2, gx_r 329)], [.inl i], t0, n, 0)) rfl (fun _ => rfl) rfl ?_
    refine ex_go (S := (22, [(3, .inl i), (0, gx_r 7), (1, gx_r 191), (2, gx_r 329)], [.inl 1000, .inl i], t0, n, 0)) rfl (fun _ => rfl) rfl ?_
    refine gx_2t (c := .ge) rfl (by first | decide | omega) (by first | decide | omega) (show 1000 ≤ i from by omega) rfl ?_
    exact hQ i t0 a f c ρ s0 hz0 hO (hPk _ (by
      by_cases h0 : f = 0
      · exact Or.inr (Or.inl ⟨h0, by have := hia h0; show N ≤ a; omega, by rw [h0]⟩)
      · exact Or.inl ⟨h0, rfl⟩))
  | succ j ih =>
    intro i c ρ t0 a f hi hia s0 hT ha hz0 hP kq5 hn ko kd hO hPk
    have b0 := s0.2.2.2
    have hN := hT.2.2.2.2.2.2.1
    refine ex_go (S := (19, [(3, .inl i), (0, gx_r 7), (1, gx_r 191), (2, gx_r 329)], [.inl i], t0, n, 0)) rfl (fun _ => rfl) rfl ?_
    refine ex_go (S := (22, [(3, .inl i), (0, gx_r 7), (1, gx_r 191), (2, gx_r 329)], [.inl 1000, .inl i], t0, n, 0)) rfl (fun _ => rfl) rfl ?_
    refine gx_2f (c := .ge) rfl (by first | decide | omega) (by first | decide | omega) (show ¬ (1000 ≤ i) from by omega) rfl ?_
    refine ex_go (S := (26, [(3, .inl i), (0, gx_r 7), (1, gx_r 191), (2, gx_r 329)], [gx_r 7], t0, n, 0)) rfl (fun _ => rfl) rfl ?_
    refine gxo_ref (a := 7) (c := 1) rfl s0.1 rfl rfl rfl rfl rfl ?_
    obtain ⟨_, r101, v101, rfl, q101⟩ := pc_goesOn (d + 4) n (s0) hT (by first | decide | omega) 
    refine gx_callo (a := 1) rfl rfl s0.1 rfl rfl rfl r101 rfl ?_
    show en_ex _ _ _ _ (32, [(3, .inl i), (0, gx_r 7), (1, gx_r 191), (2, gx_r 329)], [.inl v101], t0, n, 0) _
    by_cases hc2 : v101 = 0
    · refine gx_1t (c := .eq) rfl (by first | decide | omega) hc2 rfl ?_
      exact hQ i t0 a f c ρ s0 hz0 hO (hPk _ (by
        by_cases h0 : f = 0
        · refine Or.inr (Or.inl ⟨h0, ?_, by rw [h0]⟩)
          show N ≤ a
          by_cases h1 : a < N
          · exact absurd (q101.2.mpr ⟨h0, h1⟩) (by first | decide | omega)
          · omega
        · exact Or.inl ⟨h0, rfl⟩))
    · refine gx_1f (c := .eq) rfl (by first | decide | omega) hc2 rfl ?_
      refine ex_go (S := (36, [(3, .inl i), (0, gx_r 7), (1, gx_r 191), (2, gx_r 329)], [gx_r 7], t0, n, 0)) rfl (fun _ => rfl) rfl ?_
      refine ex_go (S := (37, [(3, .inl i), (0, gx_r 7), (1, gx_r 191), (2, gx_r 329)], [gx_r 7, gx_r 7], t0, n, 0)) rfl (fun _ => rfl) rfl ?_
      refine gxo_ref (a := 7) (c := 1) rfl s0.1 rfl rfl rfl rfl rfl ?_
      obtain ⟨hf0, haN⟩ := q101.2.mp (by first | decide | omega)
      subst hf0
      obtain ⟨_, r103, wv103, rfl, q103⟩ := pc_word (d + 4) n s0 hT (by first | decide | omega)
      rcases q103 with ⟨rfl, nw103⟩ | ⟨w103, bw103, rfl, yw103⟩
      · refine gx_callo (a := 1) rfl rfl s0.1 rfl rfl rfl r103 rfl ?_
        show en_ex _ _ _ _ (43, [(3, .inl i), (0, gx_r 7), (1, gx_r 191), (2, gx_r 329)], [.inr (.inr (.inl none)), gx_r 7], t0, n, 0) _
        refine ex_go (S := (44, [(3, .inl i), (0, gx_r 7), (1, gx_r 191), (2, gx_r 329)], [gx_r 329, .inr (.inr (.inl none)), gx_r 7], t0, n, 0)) rfl (fun _ => rfl) rfl ?_
        obtain ⟨kc, hcc, hrw⟩ := hO rfl
        obtain ⟨_, r104, t104, a104, f104, rfl, s104, hT104, e104, ⟨q104, hl104, z104⟩, y104, u104⟩ := pc_weekLine191_329_0 (d + 1) n s0 hT haN hP kq5 hn h3 hc ko kd kc hcc nw103
        have b104 := s104.2.2.2
        refine gx_callo (a := 7) rfl rfl s0.1 rfl rfl rfl r104 rfl ?_
        have k5 : ai_hv t104 7 1 = some (gx_r 191) := (e104 7 1 (by first | decide | omega)).trans hP
        have k6 : ai_hv t104 191 0 = some (.inl (υ 0 0)) := (e104 191 0 (by first | decide | omega)).trans ko
        have k7 : ai_hv t104 191 1 = some (.inl (υ 1 0)) := (e104 191 1 (by first | decide | omega)).trans kd
        have k8 : ai_hv t104 206 5 = some (.inl (υ 4 0)) := (e104 206 5 (by first | decide | omega)).trans kq5
        show en_ex _ _ _ _ (47, [(3, .inl i), (0, gx_r 7), (1, gx_r 191), (2, gx_r 329)], [], t104, n, 0) _
        refine gx_iinc (i := 3) (k := 1) rfl (fun _ => rfl) (by first | decide | omega) rfl ?_
        show en_ex _ _ _ _ (50, [(3, .inl (i + 1)), (0, gx_r 7), (1, gx_r 191), (2, gx_r 329)], [], t104, n, 0) _
        refine ex_go (S := (18, [(3, .inl (i + 1)), (0, gx_r 7), (1, gx_r 191), (2, gx_r 329)], [], t104, n, 0)) rfl (fun _ => rfl) rfl ?_
        exact ih (i + 1) (c + 1) (nx ρ c a) t104 a104 f104 (by first | decide | omega) (fun h0 => by have := (y104.2 h0).1; have := hia rfl; omega) s104 hT104 y104.1 (fun i => (e104 0 i (by first | decide | omega)).trans (hz0 i)) k5 k8 (fun i hi => (e104 207 i (by first | decide | omega)).trans (hn i hi)) k6 k7 (fun h0 => ⟨(u104 h0).1, by have := (y104.2 h0).2; omega, fun k hk => by
          by_cases e8 : k = c
          · rw [e8, nx_t]; exact (u104 h0).2
          · rw [nx_f e8]; exact LCr_mv (hrw k (by first | decide | omega)) (fun c9 h7 h8 => e104 c9 k (by first | decide | omega))⟩) (fun f1 h1 => hPk f1 (Or.inr (Or.inr ⟨rfl, haN, q104, hl104, by rw [← z104]; exact h1⟩)))
      · refine gx_callo (a := 1) rfl rfl s0.1 rfl rfl rfl r103 rfl ?_
        show en_ex _ _ _ _ (43, [(3, .inl i), (0, gx_r 7), (1, gx_r 191), (2, gx_r 329)], [gx_w w103, gx_r 7], t0, n, 0) _
        refine ex_go (S := (44, [(3, .inl i), (0, gx_r 7), (1, gx_r 191), (2, gx_r 329)], [gx_r 329, gx_w w103, gx_r 7], t0, n, 0)) rfl (fun _ => rfl) rfl ?_
        obtain ⟨kc, hcc, hrw⟩ := hO rfl
        obtain ⟨_, r109, t109, a109, f109, rfl, s109, hT109, e109, ⟨q109, hl109, z109⟩, y109, u109⟩ := pc_weekLine191_329_1 (d + 1) n s0 hT haN hP kq5 hn h3 hc ko kd kc hcc bw103 yw103
        have b109 := s109.2.2.2
        refine gx_callo (a := 7) rfl rfl s0.1 rfl rfl rfl r109 rfl ?_
        have k10 : ai_hv t109 7 1 = some (gx_r 191) := (e109 7 1 (by first | decide | omega)).trans hP
        have k11 : ai_hv t109 191 0 = some (.inl (υ 0 0)) := (e109 191 0 (by first | decide | omega)).trans ko
        have k12 : ai_hv t109 191 1 = some (.inl (υ 1 0)) := (e109 191 1 (by first | decide | omega)).trans kd
        have k13 : ai_hv t109 206 5 = some (.inl (υ 4 0)) := (e109 206 5 (by first | decide | omega)).trans kq5
        show en_ex _ _ _ _ (47, [(3, .inl i), (0, gx_r 7), (1, gx_r 191), (2, gx_r 329)], [], t109, n, 0) _
        refine gx_iinc (i := 3) (k := 1) rfl (fun _ => rfl) (by first | decide | omega) rfl ?_
        show en_ex _ _ _ _ (50, [(3, .inl (i + 1)), (0, gx_r 7), (1, gx_r 191), (2, gx_r 329)], [], t109, n, 0) _
        refine ex_go (S := (18, [(3, .inl (i + 1)), (0, gx_r 7), (1, gx_r 191), (2, gx_r 329)], [], t109, n, 0)) rfl (fun _ => rfl) rfl ?_
        exact ih (i + 1) (c + 1) (nx ρ c a) t109 a109 f109 (by first | decide | omega) (fun h0 => by have := (y109.2 h0).1; have := hia rfl; omega) s109 hT109 y109.1 (fun i => (e109 0 i (by first | decide | omega)).trans (hz0 i)) k10 k13 (fun i hi => (e109 207 i (by first | decide | omega)).trans (hn i hi)) k11 k12 (fun h0 => ⟨(u109 h0).1, by have := (y109.2 h0).2; omega, fun k hk => by
          by_cases e8 : k = c
          · rw [e8, nx_t]; exact (u109 h0).2
          · rw [nx_f e8]; exact LCr_mv (hrw k (by first | decide | omega)) (fun c9 h7 h8 => e109 c9 k (by first | decide | omega))⟩) (fun f1 h1 => hPk f1 (Or.inr (Or.inr ⟨rfl, haN, q109, hl109, by rw [← z109]; exact h1⟩)))
theorem pc_readWeeks191_329_t (d n : Nat) {t1 : en_H} {a f k : Nat} (s1 : cS t1 a f) : en_ex none (en_u (d + 5)) (en_code 98) (fun _ => false) (53, [(3, .inl k), (0, gx_r 7), (1, gx_r 191), (2, gx_r 329)], [], t1, n, 0) (fun o => o = .inl (some (.inl f), t1, n, 0)) := by
  have b0 := s1.2.2.2
  refine ex_go (S := (54, [(3, .inl k), (0, gx_r 7), (1, gx_r 191), (2, gx_r 329)], [gx_r 7], t1, n, 0)) rfl (fun _ => rfl) rfl ?_
  refine gxo_ref (a := 7) (c := 1) rfl s1.1 rfl rfl rfl rfl rfl ?_
  refine gxo_get (a := 1) rfl s1.1 rfl rfl s1.2.2.1 rfl ?_
  refine ex_ret (r := (some (.inl f), t1, n, 0)) rfl (fun _ => rfl) ?_
  exact rfl
theorem pc_readWeeks191_329 (d n : Nat) {t0 : en_H} {S S0 : Nat → Nat} {m m0 N0 : Nat} {υ : Nat → Nat → Nat} (g0 : ai_HG ah_G t0) (kq5 : ai_hv t0 206 5 = some (.inl (υ 4 0))) (hn : ∀ i, i < υ 4 0 → ai_hv t0 207 i = some (.inr (.inl (sp_wv S0 m0 (υ 21 i + 1))))) (ko : ai_hv t0 191 0 = some (.inl (υ 0 0))) (kd : ai_hv t0 191 1 = some (.inl (υ 1 0))) (h3 : W3 S0 m0 N0 υ) (hc : WC S0 m0 N0 υ) (hm : m ≤ 1000) (km : ai_hv t0 1 0 = some (.inl m)) (hS : ∀ i, i < m → ai_hv t0 2 i = some (.inl (S i)) ∧ S i ≤ 127) : ∃ r, en_u (d + 6) 98 [gx_r 7, gx_r 191, gx_r 329] t0 n = some r ∧ ∃ v t', r = (some (.inl v), t', n, 0) ∧ v < 2147483648 ∧ ai_HG ah_G t' ∧ (∀ i, ai_hv t' 0 i = ai_hv t0 0 i) ∧ ∃ N, (∀ j, j < N → sp_st S m j < m) ∧ sp_st S m N = m ∧ ∃ nl ρ, Wx S m N (υ 0 0) (υ 1 0) (tcr S0 m0 υ S m) 1001 0 (fun _ => 0) (0, 0) (wr v nl ρ) ∧ (v = 0 → ai_hv t' 329 5 = some (.inl nl) ∧ nl ≤ 24 ∧ ∀ k, k < nl → LCr S0 m0 υ S m N t' 329 k (ρ k)) := by
  refine en_u_ex (d := d + 5) rfl ?_
  show en_ex _ _ _ _ (0, [(0, gx_r 7), (1, gx_r 191), (2, gx_r 329)], [], t0, n, 0) _
  refine ex_go (S := (1, [(0, gx_r 7), (1, gx_r 191), (2, gx_r 329)], [gx_r 7], t0, n, 0)) rfl (fun _ => rfl) rfl ?_
  refine ex_go (S := (2, [(0, gx_r 7), (1, gx_r 191), (2, gx_r 329)], [gx_r 191, gx_r 7], t0, n, 0)) rfl (fun _ => rfl) rfl ?_
  refine gxo_putr (a := 7) (h := .inr (.inr [0, 291, 357])) rfl g0 rfl rfl rfl (refin_r (by decide)) rfl (fun t101 g101 k101 e101 => ?_)
  have k2 : ai_hv t101 1 0 = some (.inl m) := (e101 1 0 (by first | decide | omega)).trans km
  have k3 : ai_hv t101 191 0 = some (.inl (υ 0 0)) := (e101 191 0 (by first | decide | omega)).trans ko
  have k4 : ai_hv t101 191 1 = some (.inl (υ 1 0)) := (e101 191 1 (by first | decide | omega)).trans kd
  have k5 : ai_hv t101 206 5 = some (.inl (υ 4 0)) := (e101 206 5 (by first | decide | omega)).trans kq5
  refine ex_go (S := (6, [(0, gx_r 7), (1, gx_r 191), (2, gx_r 329)], [gx_r 329], t101, n, 0)) rfl (fun _ => rfl) rfl ?_
  obtain ⟨_, r106, t106, rfl, g106, e106, k106⟩ := pc_rclear329 (d + 4) n g101
  refine gx_callo (a := 329) rfl rfl g101 rfl rfl rfl r106 rfl ?_
  have k7 : ai_hv t106 1 0 = some (.inl m) := (e106 1 0 (by first | decide | omega)).trans k2
  have k8 : ai_hv t106 191 0 = some (.inl (υ 0 0)) := (e106 191 0 (by first | decide | omega)).trans k3
  have k9 : ai_hv t106 191 1 = some (.inl (υ 1 0)) := (e106 191 1 (by first | decide | omega)).trans k4
  have k10 : ai_hv t106 206 5 = some (.inl (υ 4 0)) := (e106 206 5 (by first | decide | omega)).trans k5
  have k11 : ai_hv t106 7 1 = some (gx_r 191) := (e106 7 1 (by first | decide | omega)).trans k101
  show en_ex _ _ _ _ (9, [(0, gx_r 7), (1, gx_r 191), (2, gx_r 329)], [], t106, n, 0) _
  refine ex_go (S := (10, [(0, gx_r 7), (1, gx_r 191), (2, gx_r 329)], [gx_r 7], t106, n, 0)) rfl (fun _ => rfl) rfl ?_
  refine gxo_ref (a := 7) (c := 1) rfl g106 rfl rfl rfl rfl rfl ?_
  obtain ⟨_, r112, t112, rfl, g112, k0_112, k1_112, k8_112, e112, N, hNm, hC1, hC2, hC3, hC4, hC5, hC6⟩ := pc_cut d n (m := m) g106 hm k7 (fun i hi => ⟨((e106 2 i (by first | decide | omega)).trans (e101 2 i (by first | decide | omega))).trans (hS i hi).1, (hS i hi).2⟩)
  have s112 : cS t112 0 0 := ⟨g112, k8_112, k1_112, by omega, by omega⟩
  have hT : cT t112 S m N := ⟨hC1, hC2, hC3, hC4, hC5, hC6, ⟨hNm, hm⟩, fun i hi => (hS i hi).2⟩
  have b112 := s112.2.2.2
  have hN := hT.2.2.2.2.2.2.1
  refine gx_callo (a := 1) rfl rfl g106 rfl rfl rfl r112 rfl ?_
  have k13 : ai_hv t112 191 0 = some (.inl (υ 0 0)) := (e112 191 0 (by first | decide | omega)).trans k8
  have k14 : ai_hv t112 191 1 = some (.inl (υ 1 0)) := (e112 191 1 (by first | decide | omega)).trans k9
  have k15 : ai_hv t112 206 5 = some (.inl (υ 4 0)) := (e112 206 5 (by first | decide | omega)).trans k10
  have k16 : ai_hv t112 7 1 = some (gx_r 191) := (e112 7 1 (by first | decide | omega)).trans k11
  have k17 : ai_hv t112 329 5 = some (.inl 0) := (e112 329 5 (by first | decide | omega)).trans k106
  show en_ex _ _ _ _ (16, [(0, gx_r 7), (1, gx_r 191), (2, gx_r 329)], [], t112, n, 0) _
  refine ex_go (S := (17, [(0, gx_r 7), (1, gx_r 191), (2, gx_r 329)], [.inl 0], t112, n, 0)) rfl (fun _ => rfl) rfl ?_
  refine ex_go (S := (18, [(3, .inl 0), (0, gx_r 7), (1, gx_r 191), (2, gx_r 329)], [], t112, n, 0)) rfl (fun _ => rfl) rfl ?_
  refine pc_weeks191_329_l d n (tb := t0) (K := 1001) (p0 := (0, 0)) h3 hc (ρ0 := fun _ => 0) (fun k1 t1 a1 f1 c1 ρ1 s1 hz1 hr1 hk => ex_imp (fun o9 h9 => ?_) (pc_readWeeks191_329_t d n s1)) 1000 0 0 (fun _ => 0) t112 0 0 (by first | decide | omega) (by first | decide | omega) s112 hT (by first | decide | omega) (fun i => (e112 0 i (by first | decide | omega)).trans ((e106 0 i (by first | decide | omega)).trans (e101 0 i (by first | decide | omega)))) k16 k15 (fun i hi => ((e112 207 i (by first | decide | omega)).trans ((e106 207 i (by first | decide | omega)).trans (e101 207 i (by first | decide | omega)))).trans (hn i hi)) k13 k14 (fun _ => ⟨k17, by omega, fun k hk => absurd hk (Nat.not_lt_zero k)⟩) (fun f1 h => h)
  have b9 := s1.2.2.2
  exact ⟨_, h9, f1, t1, rfl, by omega, s1.1, hz1, N, (fun j hj => (hT.1 j hj).1), hT.2.1, c1, ρ1, hk, hr1⟩
theorem pc_weeks191_329 (d n : Nat) {t0 : en_H} {S S0 : Nat → Nat} {m m0 N0 : Nat} {υ : Nat → Nat → Nat} (g0 : ai_HG ah_G t0) (k10 : ai_hv t0 0 10 = some (gx_r 191)) (k12 : ai_hv t0 0 12 = some (gx_r 323)) (k13 : ai_hv t0 0 13 = some (gx_r 329)) (kq5 : ai_hv t0 206 5 = some (.inl (υ 4 0))) (hn : ∀ i, i < υ 4 0 → ai_hv t0 207 i = some (.inr (.inl (sp_wv S0 m0 (υ 21 i + 1))))) (ko : ai_hv t0 191 0 = some (.inl (υ 0 0))) (kd : ai_hv t0 191 1 = some (.inl (υ 1 0))) (h3 : W3 S0 m0 N0 υ) (hc : WC S0 m0 N0 υ) (hm : m ≤ 1000) (km : ai_hv t0 1 0 = some (.inl m)) (hS : ∀ i, i < m → ai_hv t0 2 i = some (.inl (S i)) ∧ S i ≤ 127) : ∃ r, en_u (d + 7) 34 [gx_r 0] t0 n = some r ∧ ∃ v t', r = (some (.inl v), t', n, 0) ∧ v < 2147483648 ∧ ((v = 0 → ai_hv t' 0 12 = some (gx_r 329)) ∧ (v ≠ 0 → ai_hv t' 0 12 = some (gx_r 323))) ∧ ∃ N, (∀ j, j < N → sp_st S m j < m) ∧ sp_st S m N = m ∧ ∃ nl ρ, Wx S m N (υ 0 0) (υ 1 0) (tcr S0 m0 υ S m) 1001 0 (fun _ => 0) (0, 0) (wr v nl ρ) ∧ (v = 0 → ai_hv t' 329 5 = some (.inl nl) ∧ nl ≤ 24 ∧ ∀ k, k < nl → LCr S0 m0 υ S m N t' 329 k (ρ k)) := by
  refine en_u_ex (d := d + 6) rfl ?_
  show en_ex _ _ _ _ (0, [(0, gx_r 0)], [], t0, n, 0) _
  refine ex_go (S := (1, [(0, gx_r 0)], [gx_r 0], t0, n, 0)) rfl (fun _ => rfl) rfl ?_
  refine gxo_ref (a := 0) (c := 7) rfl g0 rfl rfl rfl rfl rfl ?_
  refine ex_go (S := (5, [(0, gx_r 0)], [gx_r 0, gx_r 7], t0, n, 0)) rfl (fun _ => rfl) rfl ?_
  refine gxo_get (a := 0) rfl g0 rfl rfl k10 rfl ?_
  refine ex_go (S := (9, [(0, gx_r 0)], [gx_r 0, gx_r 191, gx_r 7], t0, n, 0)) rfl (fun _ => rfl) rfl ?_
  refine gxo_get (a := 0) rfl g0 rfl rfl k13 rfl ?_
  obtain ⟨_, r101, v101, t101, rfl, hv101, g101, f0_101, N, hN1, hN2, nl, ρ, hWk, hrw⟩ := pc_readWeeks191_329 d n (m := m) g0 kq5 hn ko kd h3 hc hm km hS
  refine gx_callo (a := 7) rfl rfl g0 rfl rfl rfl r101 rfl ?_
  have e101 : ∀ c i, ¬ (c ≠ 0) → ai_hv t101 c i = ai_hv t0 c i := fun c i h => by rw [show c = 0 by omega]; exact f0_101 i
  have k2 : ai_hv t101 0 10 = some (gx_r 191) := (e101 0 10 (by first | decide | omega)).trans k10
  have k3 : ai_hv t101 0 12 = some (gx_r 323) := (e101 0 12 (by first | decide | omega)).trans k12
  have k4 : ai_hv t101 0 13 = some (gx_r 329) := (e101 0 13 (by first | decide | omega)).trans k13
  show en_ex _ _ _ _ (15, [(0, gx_r 0)], [.inl v101], t101, n, 0) _
  refine ex_go (S := (16, [(1, .inl v101), (0, gx_r 0)], [], t101, n, 0)) rfl (fun _ => rfl) rfl ?_
  refine ex_go (S := (17, [(1, .inl v101), (0, gx_r 0)], [.inl v101], t101, n, 0)) rfl (fun _ => rfl) rfl ?_
  by_cases hc5 : v101 = 0
  · refine gx_1t (c := .eq) rfl (by first | decide | omega) hc5 rfl ?_
    refine ex_go (S := (23, [(1, .inl v101), (0, gx_r 0)], [gx_r 0], t101, n, 0)) rfl (fun _ => rfl) rfl ?_
    refine gxo_get (a := 0) rfl g101 rfl rfl k3 rfl ?_
    refine ex_go (S := (27, [(2, gx_r 323), (1, .inl v101), (0, gx_r 0)], [], t101, n, 0)) rfl (fun _ => rfl) rfl ?_
    refine ex_go (S := (28, [(2, gx_r 323), (1, .inl v101), (0, gx_r 0)], [gx_r 0], t101, n, 0)) rfl (fun _ => rfl) rfl ?_
    refine ex_go (S := (29, [(2, gx_r 323), (1, .inl v101), (0, gx_r 0)], [gx_r 0, gx_r 0], t101, n, 0)) rfl (fun _ => rfl) rfl ?_
    refine gxo_get (a := 0) rfl g101 rfl rfl k4 rfl ?_
    refine gxo_putr (a := 0) (h := .inr (.inr [423, 429])) rfl g101 rfl rfl rfl (refin_r (by decide)) rfl (fun t106 g106 k106 e106 => ?_)
    have k7 : ai_hv t106 0 10 = some (gx_r 191) := (e106 0 10 (by first | decide | omega)).trans k2
    have k8 : ai_hv t106 0 13 = some (gx_r 329) := (e106 0 13 (by first | decide | omega)).trans k4
    refine ex_go (S := (36, [(2, gx_r 323), (1, .inl v101), (0, gx_r 0)], [gx_r 0], t106, n, 0)) rfl (fun _ => rfl) rfl ?_
    refine ex_go (S := (37, [(2, gx_r 323), (1, .inl v101), (0, gx_r 0)], [gx_r 323, gx_r 0], t106, n, 0)) rfl (fun _ => rfl) rfl ?_
    refine gxo_putr (a := 0) (h := .inr (.inr [423, 429])) rfl g106 rfl rfl rfl (refin_r (by decide)) rfl (fun t109 g109 k109 e109 => ?_)
    have k10 : ai_hv t109 0 10 = some (gx_r 191) := (e109 0 10 (by first | decide | omega)).trans k7
    have k11 : ai_hv t109 0 12 = some (gx_r 329) := (e109 0 12 (by first | decide | omega)).trans k106
    refine ex_go (S := (41, [(2, gx_r 323), (1, .inl v101), (0, gx_r 0)], [.inl 0], t109, n, 0)) rfl (fun _ => rfl) rfl ?_
    refine ex_ret (r := (some (.inl 0), t109, n, 0)) rfl (fun _ => rfl) ?_
    have h9 : v101 = 0 := by omega
    rw [h9] at hWk
    obtain ⟨x1, x2, x3⟩ := hrw h9
    exact ⟨_, rfl, 0, t109, rfl, by omega, ⟨fun _ => k11, fun h9 => absurd rfl h9⟩, N, hN1, hN2, nl, ρ, hWk, fun _ => ⟨(e109 329 5 (by first | decide | omega)).trans ((e106 329 5 (by first | decide | omega)).trans (x1)), x2, fun k hk => LCr_mv (x3 k hk) (fun c9 h7 h8 => (e109 c9 k (by first | decide | omega)).trans (e106 c9 k (by first | decide | omega)))⟩⟩
  · refine gx_1f (c := .eq) rfl (by first | decide | omega) hc5 rfl ?_
    refine ex_go (S := (21, [(1, .inl v101), (0, gx_r 0)], [.inl v101], t101, n, 0)) rfl (fun _ => rfl) rfl ?_
    refine ex_ret (r := (some (.inl v101), t101, n, 0)) rfl (fun _ => rfl) ?_
    exact ⟨_, rfl, v101, t101, rfl, by omega, ⟨fun h9 => absurd h9 (by first | decide | omega), fun _ => k3⟩, N, hN1, hN2, nl, ρ, hWk, fun h9 => absurd h9 (by first | decide | omega)⟩
theorem pc_weeks257_323_l (d n : Nat) {tb : en_H} {S S0 : Nat → Nat} {m N m0 N0 : Nat} {υ : Nat → Nat → Nat} {K : Nat} {p0 : Nat × Nat} {Q : en_O → Prop} (h3 : W3 S0 m0 N0 υ) (hc : WC S0 m0 N0 υ) {ρ0 : Nat → Nat} (hQ : ∀ k t1 a1 f1 c ρ, cS t1 a1 f1 → (∀ i, ai_hv t1 0 i = ai_hv tb 0 i) → (f1 = 0 → ai_hv t1 323 5 = some (.inl c) ∧ c ≤ 24 ∧ ∀ k, k < c → LCr S0 m0 υ S m N t1 323 k (ρ k)) → Wx S m N (υ 0 0) (υ 1 0) (tcr S0 m0 υ S m) K 0 ρ0 p0 (wr f1 c ρ) → en_ex none (en_u (d + 5)) (en_code 98) (fun _ => false) (53, [(3, .inl k), (0, gx_r 7), (1, gx_r 257), (2, gx_r 323)], [], t1, n, 0) Q) : ∀ j i c ρ t0 a f, i + j = 1000 → (f = 0 → i ≤ a) → cS t0 a f → cT t0 S m N → a ≤ N → (∀ i, ai_hv t0 0 i = ai_hv tb 0 i) → ai_hv t0 7 1 = some (gx_r 257) → ai_hv t0 272 5 = some (.inl (υ 4 0)) → (∀ i, i < υ 4 0 → ai_hv t0 273 i = some (.inr (.inl (sp_wv S0 m0 (υ 21 i + 1))))) → ai_hv t0 257 0 = some (.inl (υ 0 0)) → ai_hv t0 257 1 = some (.inl (υ 1 0)) → (f = 0 → ai_hv t0 323 5 = some (.inl c) ∧ c ≤ 24 ∧ ∀ k, k < c → LCr S0 m0 υ S m N t0 323 k (ρ k)) → (∀ f1, Wx S m N (υ 0 0) (υ 1 0) (tcr S0 m0 υ S m) (j + 1) c ρ (a, f) f1 → Wx S m N (υ 0 0) (υ 1 0) (tcr S0 m0 υ S m) K 0 ρ0 p0 f1) → en_ex none (en_u (d + 5)) (en_code 98) (fun _ => false) (18, [(3, .inl i), (0, gx_r 7), (1, gx_r 257), (2, gx_r 323)], [], t0, n, 0) Q := by
  intro j
  induction j with
  | zero =>
    intro i c ρ t0 a f hi hia s0 hT ha hz0 hP kq5 hn ko kd hO hPk
    have b0 := s0.2.2.2
    have hN := hT.2.2.2.2.2.2.1
    refine ex_go (S := (19, [(3, .inl i), (0, gx_r 7), (1, gx_r 257), (2, gx_r 323)], [.inl i], t0, n, 0)) rfl (fun _ => rfl) rfl ?_
    refine ex_go (S := (22, [(3, .inl i), (0, gx_r 7), (1, gx_r 257), (2, gx_r 323)], [.inl 1000, .inl i], t0, n, 0)) rfl (fun _ => rfl) rfl ?_
    refine gx_2t (c := .ge) rfl (by first | decide | omega) (by first | decide | omega) (show 1000 ≤ i from by omega) rfl ?_
    exact hQ i t0 a f c ρ s0 hz0 hO (hPk _ (by
      by_cases h0 : f = 0
      · exact Or.inr (Or.inl ⟨h0, by have := hia h0; show N ≤ a; omega, by rw [h0]⟩)
      · exact Or.inl ⟨h0, rfl⟩))
  | succ j ih =>
    intro i c ρ t0 a f hi hia s0 hT ha hz0 hP kq5 hn ko kd hO hPk
    have b0 := s0.2.2.2
    have hN := hT.2.2.2.2.2.2.1
    refine ex_go (S := (19, [(3, .inl i), (0, gx_r 7), (1, gx_r 257), (2, gx_r 323)], [.inl i], t0, n, 0)) rfl (fun _ => rfl) rfl ?_
    refine ex_go (S := (22, [(3, .inl i), (0, gx_r 7), (1, gx_r 257), (2, gx_r 323)], [.inl 1000, .inl i], t0, n, 0)) rfl (fun _ => rfl) rfl ?_
    refine gx_2f (c := .ge) rfl (by first | decide | omega) (by first | decide | omega) (show ¬ (1000 ≤ i) from by omega) rfl ?_
    refine ex_go (S := (26, [(3, .inl i), (0, gx_r 7), (1, gx_r 257), (2, gx_r 323)], [gx_r 7], t0, n, 0)) rfl (fun _ => rfl) rfl ?_
    refine gxo_ref (a := 7) (c := 1) rfl s0.1 rfl rfl rfl rfl rfl ?_
    obtain ⟨_, r101, v101, rfl, q101⟩ := pc_goesOn (d + 4) n (s0) hT (by first | decide | omega) 
    refine gx_callo (a := 1) rfl rfl s0.1 rfl rfl rfl r101 rfl ?_
    show en_ex _ _ _ _ (32, [(3, .inl i), (0, gx_r 7), (1, gx_r 257), (2, gx_r 323)], [.inl v101], t0, n, 0) _
    by_cases hc2 : v101 = 0
    · refine gx_1t (c := .eq) rfl (by first | decide | omega) hc2 rfl ?_
      exact hQ i t0 a f c ρ s0 hz0 hO (hPk _ (by
        by_cases h0 : f = 0
        · refine Or.inr (Or.inl ⟨h0, ?_, by rw [h0]⟩)
          show N ≤ a
          by_cases h1 : a < N
          · exact absurd (q101.2.mpr ⟨h0, h1⟩) (by first | decide | omega)
          · omega
        · exact Or.inl ⟨h0, rfl⟩))
    · refine gx_1f (c := .eq) rfl (by first | decide | omega) hc2 rfl ?_
      refine ex_go (S := (36, [(3, .inl i), (0, gx_r 7), (1, gx_r 257), (2, gx_r 323)], [gx_r 7], t0, n, 0)) rfl (fun _ => rfl) rfl ?_
      refine ex_go (S := (37, [(3, .inl i), (0, gx_r 7), (1, gx_r 257), (2, gx_r 323)], [gx_r 7, gx_r 7], t0, n, 0)) rfl (fun _ => rfl) rfl ?_
      refine gxo_ref (a := 7) (c := 1) rfl s0.1 rfl rfl rfl rfl rfl ?_
      obtain ⟨hf0, haN⟩ := q101.2.mp (by first | decide | omega)
      subst hf0
      obtain ⟨_, r103, wv103, rfl, q103⟩ := pc_word (d + 4) n s0 hT (by first | decide | omega)
      rcases q103 with ⟨rfl, nw103⟩ | ⟨w103, bw103, rfl, yw103⟩
      · refine gx_callo (a := 1) rfl rfl s0.1 rfl rfl rfl r103 rfl ?_
        show en_ex _ _ _ _ (43, [(3, .inl i), (0, gx_r 7), (1, gx_r 257), (2, gx_r 323)], [.inr (.inr (.inl none)), gx_r 7], t0, n, 0) _
        refine ex_go (S := (44, [(3, .inl i), (0, gx_r 7), (1, gx_r 257), (2, gx_r 323)], [gx_r 323, .inr (.inr (.inl none)), gx_r 7], t0, n, 0)) rfl (fun _ => rfl) rfl ?_
        obtain ⟨kc, hcc, hrw⟩ := hO rfl
        obtain ⟨_, r104, t104, a104, f104, rfl, s104, hT104, e104, ⟨q104, hl104, z104⟩, y104, u104⟩ := pc_weekLine257_323_0 (d + 1) n s0 hT haN hP kq5 hn h3 hc ko kd kc hcc nw103
        have b104 := s104.2.2.2
        refine gx_callo (a := 7) rfl rfl s0.1 rfl rfl rfl r104 rfl ?_
        have k5 : ai_hv t104 7 1 = some (gx_r 257) := (e104 7 1 (by first | decide | omega)).trans hP
        have k6 : ai_hv t104 257 0 = some (.inl (υ 0 0)) := (e104 257 0 (by first | decide | omega)).trans ko
        have k7 : ai_hv t104 257 1 = some (.inl (υ 1 0)) := (e104 257 1 (by first | decide | omega)).trans kd
        have k8 : ai_hv t104 272 5 = some (.inl (υ 4 0)) := (e104 272 5 (by first | decide | omega)).trans kq5
        show en_ex _ _ _ _ (47, [(3, .inl i), (0, gx_r 7), (1, gx_r 257), (2, gx_r 323)], [], t104, n, 0) _
        refine gx_iinc (i := 3) (k := 1) rfl (fun _ => rfl) (by first | decide | omega) rfl ?_
        show en_ex _ _ _ _ (50, [(3, .inl (i + 1)), (0, gx_r 7), (1, gx_r 257), (2, gx_r 323)], [], t104, n, 0) _
        refine ex_go (S := (18, [(3, .inl (i + 1)), (0, gx_r 7), (1, gx_r 257), (2, gx_r 323)], [], t104, n, 0)) rfl (fun _ => rfl) rfl ?_
        exact ih (i + 1) (c + 1) (nx ρ c a) t104 a104 f104 (by first | decide | omega) (fun h0 => by have := (y104.2 h0).1; have := hia rfl; omega) s104 hT104 y104.1 (fun i => (e104 0 i (by first | decide | omega)).trans (hz0 i)) k5 k8 (fun i hi => (e104 273 i (by first | decide | omega)).trans (hn i hi)) k6 k7 (fun h0 => ⟨(u104 h0).1, by have := (y104.2 h0).2; omega, fun k hk => by
          by_cases e8 : k = c
          · rw [e8, nx_t]; exact (u104 h0).2
          · rw [nx_f e8]; exact LCr_mv (hrw k (by first | decide | omega)) (fun c9 h7 h8 => e104 c9 k (by first | decide | omega))⟩) (fun f1 h1 => hPk f1 (Or.inr (Or.inr ⟨rfl, haN, q104, hl104, by rw [← z104]; exact h1⟩)))
      · refine gx_callo (a := 1) rfl rfl s0.1 rfl rfl rfl r103 rfl ?_
        show en_ex _ _ _ _ (43, [(3, .inl i), (0, gx_r 7), (1, gx_r 257), (2, gx_r 323)], [gx_w w103, gx_r 7], t0, n, 0) _
        refine ex_go (S := (44, [(3, .inl i), (0, gx_r 7), (1, gx_r 257), (2, gx_r 323)], [gx_r 323, gx_w w103, gx_r 7], t0, n, 0)) rfl (fun _ => rfl) rfl ?_
        obtain ⟨kc, hcc, hrw⟩ := hO rfl
        obtain ⟨_, r109, t109, a109, f109, rfl, s109, hT109, e109, ⟨q109, hl109, z109⟩, y109, u109⟩ := pc_weekLine257_323_1 (d + 1) n s0 hT haN hP kq5 hn h3 hc ko kd kc hcc bw103 yw103
        have b109 := s109.2.2.2
        refine gx_callo (a := 7) rfl rfl s0.1 rfl rfl rfl r109 rfl ?_
        have k10 : ai_hv t109 7 1 = some (gx_r 257) := (e109 7 1 (by first | decide | omega)).trans hP
        have k11 : ai_hv t109 257 0 = some (.inl (υ 0 0)) := (e109 257 0 (by first | decide | omega)).trans ko
        have k12 : ai_hv t109 257 1 = some (.inl (υ 1 0)) := (e109 257 1 (by first | decide | omega)).trans kd
        have k13 : ai_hv t109 272 5 = some (.inl (υ 4 0)) := (e109 272 5 (by first | decide | omega)).trans kq5
        show en_ex _ _ _ _ (47, [(3, .inl i), (0, gx_r 7), (1, gx_r 257), (2, gx_r 323)], [], t109, n, 0) _
        refine gx_iinc (i := 3) (k := 1) rfl (fun _ => rfl) (by first | decide | omega) rfl ?_
        show en_ex _ _ _ _ (50, [(3, .inl (i + 1)), (0, gx_r 7), (1, gx_r 257), (2, gx_r 323)], [], t109, n, 0) _
        refine ex_go (S := (18, [(3, .inl (i + 1)), (0, gx_r 7), (1, gx_r 257), (2, gx_r 323)], [], t109, n, 0)) rfl (fun _ => rfl) rfl ?_
        exact ih (i + 1) (c + 1) (nx ρ c a) t109 a109 f109 (by first | decide | omega) (fun h0 => by have := (y109.2 h0).1; have := hia rfl; omega) s109 hT109 y109.1 (fun i => (e109 0 i (by first | decide | omega)).trans (hz0 i)) k10 k13 (fun i hi => (e109 273 i (by first | decide | omega)).trans (hn i hi)) k11 k12 (fun h0 => ⟨(u109 h0).1, by have := (y109.2 h0).2; omega, fun k hk => by
          by_cases e8 : k = c
          · rw [e8, nx_t]; exact (u109 h0).2
          · rw [nx_f e8]; exact LCr_mv (hrw k (by first | decide | omega)) (fun c9 h7 h8 => e109 c9 k (by first | decide | omega))⟩) (fun f1 h1 => hPk f1 (Or.inr (Or.inr ⟨rfl, haN, q109, hl109, by rw [← z109]; exact h1⟩)))
theorem pc_readWeeks257_323_t (d n : Nat) {t1 : en_H} {a f k : Nat} (s1 : cS t1 a f) : en_ex none (en_u (d + 5)) (en_code 98) (fun _ => false) (53, [(3, .inl k), (0, gx_r 7), (1, gx_r 257), (2, gx_r 323)], [], t1, n, 0) (fun o => o = .inl (some (.inl f), t1, n, 0)) := by
  have b0 := s1.2.2.2
  refine ex_go (S := (54, [(3, .inl k), (0, gx_r 7), (1, gx_r 257), (2, gx_r 323)], [gx_r 7], t1, n, 0)) rfl (fun _ => rfl) rfl ?_
  refine gxo_ref (a := 7) (c := 1) rfl s1.1 rfl rfl rfl rfl rfl ?_
  refine gxo_get (a := 1) rfl s1.1 rfl rfl s1.2.2.1 rfl ?_
  refine ex_ret (r := (some (.inl f), t1, n, 0)) rfl (fun _ => rfl) ?_
  exact rfl
theorem pc_readWeeks257_323 (d n : Nat) {t0 : en_H} {S S0 : Nat → Nat} {m m0 N0 : Nat} {υ : Nat → Nat → Nat} (g0 : ai_HG ah_G t0) (kq5 : ai_hv t0 272 5 = some (.inl (υ 4 0))) (hn : ∀ i, i < υ 4 0 → ai_hv t0 273 i = some (.inr (.inl (sp_wv S0 m0 (υ 21 i + 1))))) (ko : ai_hv t0 257 0 = some (.inl (υ 0 0))) (kd : ai_hv t0 257 1 = some (.inl (υ 1 0))) (h3 : W3 S0 m0 N0 υ) (hc : WC S0 m0 N0 υ) (hm : m ≤ 1000) (km : ai_hv t0 1 0 = some (.inl m)) (hS : ∀ i, i < m → ai_hv t0 2 i = some (.inl (S i)) ∧ S i ≤ 127) : ∃ r, en_u (d + 6) 98 [gx_r 7, gx_r 257, gx_r 323] t0 n = some r ∧ ∃ v t', r = (some (.inl v), t', n, 0) ∧ v < 2147483648 ∧ ai_HG ah_G t' ∧ (∀ i, ai_hv t' 0 i = ai_hv t0 0 i) ∧ ∃ N, (∀ j, j < N → sp_st S m j < m) ∧ sp_st S m N = m ∧ ∃ nl ρ, Wx S m N (υ 0 0) (υ 1 0) (tcr S0 m0 υ S m) 1001 0 (fun _ => 0) (0, 0) (wr v nl ρ) ∧ (v = 0 → ai_hv t' 323 5 = some (.inl nl) ∧ nl ≤ 24 ∧ ∀ k, k < nl → LCr S0 m0 υ S m N t' 323 k (ρ k)) := by
  refine en_u_ex (d := d + 5) rfl ?_
  show en_ex _ _ _ _ (0, [(0, gx_r 7), (1, gx_r 257), (2, gx_r 323)], [], t0, n, 0) _
  refine ex_go (S := (1, [(0, gx_r 7), (1, gx_r 257), (2, gx_r 323)], [gx_r 7], t0, n, 0)) rfl (fun _ => rfl) rfl ?_
  refine ex_go (S := (2, [(0, gx_r 7), (1, gx_r 257), (2, gx_r 323)], [gx_r 257, gx_r 7], t0, n, 0)) rfl (fun _ => rfl) rfl ?_
  refine gxo_putr (a := 7) (h := .inr (.inr [0, 291, 357])) rfl g0 rfl rfl rfl (refin_r (by decide)) rfl (fun t101 g101 k101 e101 => ?_)
  have k2 : ai_hv t101 1 0 = some (.inl m) := (e101 1 0 (by first | decide | omega)).trans km
  have k3 : ai_hv t101 257 0 = some (.inl (υ 0 0)) := (e101 257 0 (by first | decide | omega)).trans ko
  have k4 : ai_hv t101 257 1 = some (.inl (υ 1 0)) := (e101 257 1 (by first | decide | omega)).trans kd
  have k5 : ai_hv t101 272 5 = some (.inl (υ 4 0)) := (e101 272 5 (by first | decide | omega)).trans kq5
  refine ex_go (S := (6, [(0, gx_r 7), (1, gx_r 257), (2, gx_r 323)], [gx_r 323], t101, n, 0)) rfl (fun _ => rfl) rfl ?_
  obtain ⟨_, r106, t106, rfl, g106, e106, k106⟩ := pc_rclear323 (d + 4) n g101
  refine gx_callo (a := 323) rfl rfl g101 rfl rfl rfl r106 rfl ?_
  have k7 : ai_hv t106 1 0 = some (.inl m) := (e106 1 0 (by first | decide | omega)).trans k2
  have k8 : ai_hv t106 257 0 = some (.inl (υ 0 0)) := (e106 257 0 (by first | decide | omega)).trans k3
  have k9 : ai_hv t106 257 1 = some (.inl (υ 1 0)) := (e106 257 1 (by first | decide | omega)).trans k4
  have k10 : ai_hv t106 272 5 = some (.inl (υ 4 0)) := (e106 272 5 (by first | decide | omega)).trans k5
  have k11 : ai_hv t106 7 1 = some (gx_r 257) := (e106 7 1 (by first | decide | omega)).trans k101
  show en_ex _ _ _ _ (9, [(0, gx_r 7), (1, gx_r 257), (2, gx_r 323)], [], t106, n, 0) _
  refine ex_go (S := (10, [(0, gx_r 7), (1, gx_r 257), (2, gx_r 323)], [gx_r 7], t106, n, 0)) rfl (fun _ => rfl) rfl ?_
  refine gxo_ref (a := 7) (c := 1) rfl g106 rfl rfl rfl rfl rfl ?_
  obtain ⟨_, r112, t112, rfl, g112, k0_112, k1_112, k8_112, e112, N, hNm, hC1, hC2, hC3, hC4, hC5, hC6⟩ := pc_cut d n (m := m) g106 hm k7 (fun i hi => ⟨((e106 2 i (by first | decide | omega)).trans (e101 2 i (by first | decide | omega))).trans (hS i hi).1, (hS i hi).2⟩)
  have s112 : cS t112 0 0 := ⟨g112, k8_112, k1_112, by omega, by omega⟩
  have hT : cT t112 S m N := ⟨hC1, hC2, hC3, hC4, hC5, hC6, ⟨hNm, hm⟩, fun i hi => (hS i hi).2⟩
  have b112 := s112.2.2.2
  have hN := hT.2.2.2.2.2.2.1
  refine gx_callo (a := 1) rfl rfl g106 rfl rfl rfl r112 rfl ?_
  have k13 : ai_hv t112 257 0 = some (.inl (υ 0 0)) := (e112 257 0 (by first | decide | omega)).trans k8
  have k14 : ai_hv t112 257 1 = some (.inl (υ 1 0)) := (e112 257 1 (by first | decide | omega)).trans k9
  have k15 : ai_hv t112 272 5 = some (.inl (υ 4 0)) := (e112 272 5 (by first | decide | omega)).trans k10
  have k16 : ai_hv t112 7 1 = some (gx_r 257) := (e112 7 1 (by first | decide | omega)).trans k11
  have k17 : ai_hv t112 323 5 = some (.inl 0) := (e112 323 5 (by first | decide | omega)).trans k106
  show en_ex _ _ _ _ (16, [(0, gx_r 7), (1, gx_r 257), (2, gx_r 323)], [], t112, n, 0) _
  refine ex_go (S := (17, [(0, gx_r 7), (1, gx_r 257), (2, gx_r 323)], [.inl 0], t112, n, 0)) rfl (fun _ => rfl) rfl ?_
  refine ex_go (S := (18, [(3, .inl 0), (0, gx_r 7), (1, gx_r 257), (2, gx_r 323)], [], t112, n, 0)) rfl (fun _ => rfl) rfl ?_
  refine pc_weeks257_323_l d n (tb := t0) (K := 1001) (p0 := (0, 0)) h3 hc (ρ0 := fun _ => 0) (fun k1 t1 a1 f1 c1 ρ1 s1 hz1 hr1 hk => ex_imp (fun o9 h9 => ?_) (pc_readWeeks257_323_t d n s1)) 1000 0 0 (fun _ => 0) t112 0 0 (by first | decide | omega) (by first | decide | omega) s112 hT (by first | decide | omega) (fun i => (e112 0 i (by first | decide | omega)).trans ((e106 0 i (by first | decide | omega)).trans (e101 0 i (by first | decide | omega)))) k16 k15 (fun i hi => ((e112 273 i (by first | decide | omega)).trans ((e106 273 i (by first | decide | omega)).trans (e101 273 i (by first | decide | omega)))).trans (hn i hi)) k13 k14 (fun _ => ⟨k17, by omega, fun k hk => absurd hk (Nat.not_lt_zero k)⟩) (fun f1 h => h)
  have b9 := s1.2.2.2
  exact ⟨_, h9, f1, t1, rfl, by omega, s1.1, hz1, N, (fun j hj => (hT.1 j hj).1), hT.2.1, c1, ρ1, hk, hr1⟩
theorem pc_weeks257_323 (d n : Nat) {t0 : en_H} {S S0 : Nat → Nat} {m m0 N0 : Nat} {υ : Nat → Nat → Nat} (g0 : ai_HG ah_G t0) (k10 : ai_hv t0 0 10 = some (gx_r 257)) (k12 : ai_hv t0 0 12 = some (gx_r 329)) (k13 : ai_hv t0 0 13 = some (gx_r 323)) (kq5 : ai_hv t0 272 5 = some (.inl (υ 4 0))) (hn : ∀ i, i < υ 4 0 → ai_hv t0 273 i = some (.inr (.inl (sp_wv S0 m0 (υ 21 i + 1))))) (ko : ai_hv t0 257 0 = some (.inl (υ 0 0))) (kd : ai_hv t0 257 1 = some (.inl (υ 1 0))) (h3 : W3 S0 m0 N0 υ) (hc : WC S0 m0 N0 υ) (hm : m ≤ 1000) (km : ai_hv t0 1 0 = some (.inl m)) (hS : ∀ i, i < m → ai_hv t0 2 i = some (.inl (S i)) ∧ S i ≤ 127) : ∃ r, en_u (d + 7) 34 [gx_r 0] t0 n = some r ∧ ∃ v t', r = (some (.inl v), t', n, 0) ∧ v < 2147483648 ∧ ((v = 0 → ai_hv t' 0 12 = some (gx_r 323)) ∧ (v ≠ 0 → ai_hv t' 0 12 = some (gx_r 329))) ∧ ∃ N, (∀ j, j < N → sp_st S m j < m) ∧ sp_st S m N = m ∧ ∃ nl ρ, Wx S m N (υ 0 0) (υ 1 0) (tcr S0 m0 υ S m) 1001 0 (fun _ => 0) (0, 0) (wr v nl ρ) ∧ (v = 0 → ai_hv t' 323 5 = some (.inl nl) ∧ nl ≤ 24 ∧ ∀ k, k < nl → LCr S0 m0 υ S m N t' 323 k (ρ k)) := by
  refine en_u_ex (d := d + 6) rfl ?_
  show en_ex _ _ _ _ (0, [(0, gx_r 0)], [], t0, n, 0) _
  refine ex_go (S := (1, [(0, gx_r 0)], [gx_r 0], t0, n, 0)) rfl (fun _ => rfl) rfl ?_
  refine gxo_ref (a := 0) (c := 7) rfl g0 rfl rfl rfl rfl rfl ?_
  refine ex_go (S := (5, [(0, gx_r 0)], [gx_r 0, gx_r 7], t0, n, 0)) rfl (fun _ => rfl) rfl ?_
  refine gxo_get (a := 0) rfl g0 rfl rfl k10 rfl ?_
  refine ex_go (S := (9, [(0, gx_r 0)], [gx_r 0, gx_r 257, gx_r 7], t0, n, 0)) rfl (fun _ => rfl) rfl ?_
  refine gxo_get (a := 0) rfl g0 rfl rfl k13 rfl ?_
  obtain ⟨_, r101, v101, t101, rfl, hv101, g101, f0_101, N, hN1, hN2, nl, ρ, hWk, hrw⟩ := pc_readWeeks257_323 d n (m := m) g0 kq5 hn ko kd h3 hc hm km hS
  refine gx_callo (a := 7) rfl rfl g0 rfl rfl rfl r101 rfl ?_
  have e101 : ∀ c i, ¬ (c ≠ 0) → ai_hv t101 c i = ai_hv t0 c i := fun c i h => by rw [show c = 0 by omega]; exact f0_101 i
  have k2 : ai_hv t101 0 10 = some (gx_r 257) := (e101 0 10 (by first | decide | omega)).trans k10
  have k3 : ai_hv t101 0 12 = some (gx_r 329) := (e101 0 12 (by first | decide | omega)).trans k12
  have k4 : ai_hv t101 0 13 = some (gx_r 323) := (e101 0 13 (by first | decide | omega)).trans k13
  show en_ex _ _ _ _ (15, [(0, gx_r 0)], [.inl v101], t101, n, 0) _
  refine ex_go (S := (16, [(1, .inl v101), (0, gx_r 0)], [], t101, n, 0)) rfl (fun _ => rfl) rfl ?_
  refine ex_go (S := (17, [(1, .inl v101), (0, gx_r 0)], [.inl v101], t101, n, 0)) rfl (fun _ => rfl) rfl ?_
  by_cases hc5 : v101 = 0
  · refine gx_1t (c := .eq) rfl (by first | decide | omega) hc5 rfl ?_
    refine ex_go (S := (23, [(1, .inl v101), (0, gx_r 0)], [gx_r 0], t101, n, 0)) rfl (fun _ => rfl) rfl ?_
    refine gxo_get (a := 0) rfl g101 rfl rfl k3 rfl ?_
    refine ex_go (S := (27, [(2, gx_r 329), (1, .inl v101), (0, gx_r 0)], [], t101, n, 0)) rfl (fun _ => rfl) rfl ?_
    refine ex_go (S := (28, [(2, gx_r 329), (1, .inl v101), (0, gx_r 0)], [gx_r 0], t101, n, 0)) rfl (fun _ => rfl) rfl ?_
    refine ex_go (S := (29, [(2, gx_r 329), (1, .inl v101), (0, gx_r 0)], [gx_r 0, gx_r 0], t101, n, 0)) rfl (fun _ => rfl) rfl ?_
    refine gxo_get (a := 0) rfl g101 rfl rfl k4 rfl ?_
    refine gxo_putr (a := 0) (h := .inr (.inr [423, 429])) rfl g101 rfl rfl rfl (refin_r (by decide)) rfl (fun t106 g106 k106 e106 => ?_)
    have k7 : ai_hv t106 0 10 = some (gx_r 257) := (e106 0 10 (by first | decide | omega)).trans k2
    have k8 : ai_hv t106 0 13 = some (gx_r 323) := (e106 0 13 (by first | decide | omega)).trans k4
    refine ex_go (S := (36, [(2, gx_r 329), (1, .inl v101), (0, gx_r 0)], [gx_r 0], t106, n, 0)) rfl (fun _ => rfl) rfl ?_
    refine ex_go (S := (37, [(2, gx_r 329), (1, .inl v101), (0, gx_r 0)], [gx_r 329, gx_r 0], t106, n, 0)) rfl (fun _ => rfl) rfl ?_
    refine gxo_putr (a := 0) (h := .inr (.inr [423, 429])) rfl g106 rfl rfl rfl (refin_r (by decide)) rfl (fun t109 g109 k109 e109 => ?_)
    have k10 : ai_hv t109 0 10 = some (gx_r 257) := (e109 0 10 (by first | decide | omega)).trans k7
    have k11 : ai_hv t109 0 12 = some (gx_r 323) := (e109 0 12 (by first | decide | omega)).trans k106
    refine ex_go (S := (41, [(2, gx_r 329), (1, .inl v101), (0, gx_r 0)], [.inl 0], t109, n, 0)) rfl (fun _ => rfl) rfl ?_
    refine ex_ret (r := (some (.inl 0), t109, n, 0)) rfl (fun _ => rfl) ?_
    have h9 : v101 = 0 := by omega
    rw [h9] at hWk
    obtain ⟨x1, x2, x3⟩ := hrw h9
    exact ⟨_, rfl, 0, t109, rfl, by omega, ⟨fun _ => k11, fun h9 => absurd rfl h9⟩, N, hN1, hN2, nl, ρ, hWk, fun _ => ⟨(e109 323 5 (by first | decide | omega)).trans ((e106 323 5 (by first | decide | omega)).trans (x1)), x2, fun k hk => LCr_mv (x3 k hk) (fun c9 h7 h8 => (e109 c9 k (by first | decide | omega)).trans (e106 c9 k (by first | decide | omega)))⟩⟩
  · refine gx_1f (c := .eq) rfl (by first | decide | omega) hc5 rfl ?_
    refine ex_go (S := (21, [(1, .inl v101), (0, gx_r 0)], [.inl v101], t101, n, 0)) rfl (fun _ => rfl) rfl ?_
    refine ex_ret (r := (some (.inl v101), t101, n, 0)) rfl (fun _ => rfl) ?_
    exact ⟨_, rfl, v101, t101, rfl, by omega, ⟨fun h9 => absurd h9 (by first | decide | omega), fun _ => k3⟩, N, hN1, hN2, nl, ρ, hWk, fun h9 => absurd h9 (by first | decide | omega)⟩
theorem pc_weeks257_329_l (d n : Nat) {tb : en_H} {S S0 : Nat → Nat} {m N m0 N0 : Nat} {υ : Nat → Nat → Nat} {K : Nat} {p0 : Nat × Nat} {Q : en_O → Prop} (h3 : W3 S0 m0 N0 υ) (hc : WC S0 m0 N0 υ) {ρ0 : Nat → Nat} (hQ : ∀ k t1 a1 f1 c ρ, cS t1 a1 f1 → (∀ i, ai_hv t1 0 i = ai_hv tb 0 i) → (f1 = 0 → ai_hv t1 329 5 = some (.inl c) ∧ c ≤ 24 ∧ ∀ k, k < c → LCr S0 m0 υ S m N t1 329 k (ρ k)) → Wx S m N (υ 0 0) (υ 1 0) (tcr S0 m0 υ S m) K 0 ρ0 p0 (wr f1 c ρ) → en_ex none (en_u (d + 5)) (en_code 98) (fun _ => false) (53, [(3, .inl k), (0, gx_r 7), (1, gx_r 257), (2, gx_r 329)], [], t1, n, 0) Q) : ∀ j i c ρ t0 a f, i + j = 1000 → (f = 0 → i ≤ a) → cS t0 a f → cT t0 S m N → a ≤ N → (∀ i, ai_hv t0 0 i = ai_hv tb 0 i) → ai_hv t0 7 1 = some (gx_r 257) → ai_hv t0 272 5 = some (.inl (υ 4 0)) → (∀ i, i < υ 4 0 → ai_hv t0 273 i = some (.inr (.inl (sp_wv S0 m0 (υ 21 i + 1))))) → ai_hv t0 257 0 = some (.inl (υ 0 0)) → ai_hv t0 257 1 = some (.inl (υ 1 0)) → (f = 0 → ai_hv t0 329 5 = some (.inl c) ∧ c ≤ 24 ∧ ∀ k, k < c → LCr S0 m0 υ S m N t0 329 k (ρ k)) → (∀ f1, Wx S m N (υ 0 0) (υ 1 0) (tcr S0 m0 υ S m) (j + 1) c ρ (a, f) f1 → Wx S m N (υ 0 0) (υ 1 0) (tcr S0 m0 υ S m) K 0 ρ0 p0 f1) → en_ex none (en_u (d + 5)) (en_code 98) (fun _ => false) (18, [(3, .inl i), (0, gx_r 7), (1, gx_r 257), (2, gx_r 329)], [], t0, n, 0) Q := by
  intro j
  induction j with
  | zero =>
    intro i c ρ t0 a f hi hia s0 hT ha hz0 hP kq5 hn ko kd hO hPk
    have b0 := s0.2.2.2
    have hN := hT.2.2.2.2.2.2.1
    refine ex_go (S := (19, [(3, .inl i), (0, gx_r 7), (1, gx_r 257), (2, gx_r 329)], [.inl i], t0, n, 0)) rfl (fun _ => rfl) rfl ?_
    refine ex_go (S := (22, [(3, .inl i), (0, gx_r 7), (1, gx_r 257), (2, gx_r 329)], [.inl 1000, .inl i], t0, n, 0)) rfl (fun _ => rfl) rfl ?_
    refine gx_2t (c := .ge) rfl (by first | decide | omega) (by first | decide | omega) (show 1000 ≤ i from by omega) rfl ?_
    exact hQ i t0 a f c ρ s0 hz0 hO (hPk _ (by
      by_cases h0 : f = 0
      · exact Or.inr (Or.inl ⟨h0, by have := hia h0; show N ≤ a; omega, by rw [h0]⟩)
      · exact Or.inl ⟨h0, rfl⟩))
  | succ j ih =>
    intro i c ρ t0 a f hi hia s0 hT ha hz0 hP kq5 hn ko kd hO hPk
    have b0 := s0.2.2.2
    have hN := hT.2.2.2.2.2.2.1
    refine ex_go (S := (19, [(3, .inl i), (0, gx_r 7), (1, gx_r 257), (2, gx_r 329)], [.inl i], t0, n, 0)) rfl (fun _ => rfl) rfl ?_
    refine ex_go (S := (22, [(3, .inl i), (0, gx_r 7), (1, gx_r 257), (2, gx_r 329)], [.inl 1000, .inl i], t0, n, 0)) rfl (fun _ => rfl) rfl ?_
    refine gx_2f (c := .ge) rfl (by first | decide | omega) (by first | decide | omega) (show ¬ (1000 ≤ i) from by omega) rfl ?_
    refine ex_go (S := (26, [(3, .inl i), (0, gx_r 7), (1, gx_r 257), (2, gx_r 329)], [gx_r 7], t0, n, 0)) rfl (fun _ => rfl) rfl ?_
    refine gxo_ref (a := 7) (c := 1) rfl s0.1 rfl rfl rfl rfl rfl ?_
    obtain ⟨_, r101, v101, rfl, q101⟩ := pc_goesOn (d + 4) n (s0) hT (by first | decide | omega) 
    refine gx_callo (a := 1) rfl rfl s0.1 rfl rfl rfl r101 rfl ?_
    show en_ex _ _ _ _ (32, [(3, .inl i), (0, gx_r 7), (1, gx_r 257), (2, gx_r 329)], [.inl v101], t0, n, 0) _
    by_cases hc2 : v101 = 0
    · refine gx_1t (c := .eq) rfl (by first | decide | omega) hc2 rfl ?_
      exact hQ i t0 a f c ρ s0 hz0 hO (hPk _ (by
        by_cases h0 : f = 0
        · refine Or.inr (Or.inl ⟨h0, ?_, by rw [h0]⟩)
          show N ≤ a
          by_cases h1 : a < N
          · exact absurd (q101.2.mpr ⟨h0, h1⟩) (by first | decide | omega)
          · omega
        · exact Or.inl ⟨h0, rfl⟩))
    · refine gx_1f (c := .eq) rfl (by first | decide | omega) hc2 rfl ?_
      refine ex_go (S := (36, [(3, .inl i), (0, gx_r 7), (1, gx_r 257), (2, gx_r 329)], [gx_r 7], t0, n, 0)) rfl (fun _ => rfl) rfl ?_
      refine ex_go (S := (37, [(3, .inl i), (0, gx_r 7), (1, gx_r 257), (2, gx_r 329)], [gx_r 7, gx_r 7], t0, n, 0)) rfl (fun _ => rfl) rfl ?_
      refine gxo_ref (a := 7) (c := 1) rfl s0.1 rfl rfl rfl rfl rfl ?_
      obtain ⟨hf0, haN⟩ := q101.2.mp (by first | decide | omega)
      subst hf0
      obtain ⟨_, r103, wv103, rfl, q103⟩ := pc_word (d + 4) n s0 hT (by first | decide | omega)
      rcases q103 with ⟨rfl, nw103⟩ | ⟨w103, bw103, rfl, yw103⟩
      · refine gx_callo (a := 1) rfl rfl s0.1 rfl rfl rfl r103 rfl ?_
        show en_ex _ _ _ _ (43, [(3, .inl i), (0, gx_r 7), (1, gx_r 257), (2, gx_r 329)], [.inr (.inr (.inl none)), gx_r 7], t0, n, 0) _
        refine ex_go (S := (44, [(3, .inl i), (0, gx_r 7), (1, gx_r 257), (2, gx_r 329)], [gx_r 329, .inr (.inr (.inl none)), gx_r 7], t0, n, 0)) rfl (fun _ => rfl) rfl ?_
        obtain ⟨kc, hcc, hrw⟩ := hO rfl
        obtain ⟨_, r104, t104, a104, f104, rfl, s104, hT104, e104, ⟨q104, hl104, z104⟩, y104, u104⟩ := pc_weekLine257_329_0 (d + 1) n s0 hT haN hP kq5 hn h3 hc ko kd kc hcc nw103
        have b104 := s104.2.2.2
        refine gx_callo (a := 7) rfl rfl s0.1 rfl rfl rfl r104 rfl ?_
        have k5 : ai_hv t104 7 1 = some (gx_r 257) := (e104 7 1 (by first | decide | omega)).trans hP
        have k6 : ai_hv t104 257 0 = some (.inl (υ 0 0)) := (e104 257 0 (by first | decide | omega)).trans ko
        have k7 : ai_hv t104 257 1 = some (.inl (υ 1 0)) := (e104 257 1 (by first | decide | omega)).trans kd
        have k8 : ai_hv t104 272 5 = some (.inl (υ 4 0)) := (e104 272 5 (by first | decide | omega)).trans kq5
        show en_ex _ _ _ _ (47, [(3, .inl i), (0, gx_r 7), (1, gx_r 257), (2, gx_r 329)], [], t104, n, 0) _
        refine gx_iinc (i := 3) (k := 1) rfl (fun _ => rfl) (by first | decide | omega) rfl ?_
        show en_ex _ _ _ _ (50, [(3, .inl (i + 1)), (0, gx_r 7), (1, gx_r 257), (2, gx_r 329)], [], t104, n, 0) _
        refine ex_go (S := (18, [(3, .inl (i + 1)), (0, gx_r 7), (1, gx_r 257), (2, gx_r 329)], [], t104, n, 0)) rfl (fun _ => rfl) rfl ?_
        exact ih (i + 1) (c + 1) (nx ρ c a) t104 a104 f104 (by first | decide | omega) (fun h0 => by have := (y104.2 h0).1; have := hia rfl; omega) s104 hT104 y104.1 (fun i => (e104 0 i (by first | decide | omega)).trans (hz0 i)) k5 k8 (fun i hi => (e104 273 i (by first | decide | omega)).trans (hn i hi)) k6 k7 (fun h0 => ⟨(u104 h0).1, by have := (y104.2 h0).2; omega, fun k hk => by
          by_cases e8 : k = c
          · rw [e8, nx_t]; exact (u104 h0).2
          · rw [nx_f e8]; exact LCr_mv (hrw k (by first | decide | omega)) (fun c9 h7 h8 => e104 c9 k (by first | decide | omega))⟩) (fun f1 h1 => hPk f1 (Or.inr (Or.inr ⟨rfl, haN, q104, hl104, by rw [← z104]; exact h1⟩)))
      · refine gx_callo (a := 1) rfl rfl s0.1 rfl rfl rfl r103 rfl ?_
        show en_ex _ _ _ _ (43, [(3, .inl i), (0, gx_r 7), (1, gx_r 257), (2, gx_r 329)], [gx_w w103, gx_r 7], t0, n, 0) _
        refine ex_go (S := (44, [(3, .inl i), (0, gx_r 7), (1, gx_r 257), (2, gx_r 329)], [gx_r 329, gx_w w103, gx_r 7], t0, n, 0)) rfl (fun _ => rfl) rfl ?_
        obtain ⟨kc, hcc, hrw⟩ := hO rfl
        obtain ⟨_, r109, t109, a109, f109, rfl, s109, hT109, e109, ⟨q109, hl109, z109⟩, y109, u109⟩ := pc_weekLine257_329_1 (d + 1) n s0 hT haN hP kq5 hn h3 hc ko kd kc hcc bw103 yw103
        have b109 := s109.2.2.2
        refine gx_callo (a := 7) rfl rfl s0.1 rfl rfl rfl r109 rfl ?_
        have k10 : ai_hv t109 7 1 = some (gx_r 257) := (e109 7 1 (by first | decide | omega)).trans hP
        have k11 : ai_hv t109 257 0 = some (.inl (υ 0 0)) := (e109 257 0 (by first | decide | omega)).trans ko
        have k12 : ai_hv t109 257 1 = some (.inl (υ 1 0)) := (e109 257 1 (by first | decide | omega)).trans kd
        have k13 : ai_hv t109 272 5 = some (.inl (υ 4 0)) := (e109 272 5 (by first | decide | omega)).trans kq5
        show en_ex _ _ _ _ (47, [(3, .inl i), (0, gx_r 7), (1, gx_r 257), (2, gx_r 329)], [], t109, n, 0) _
        refine gx_iinc (i := 3) (k := 1) rfl (fun _ => rfl) (by first | decide | omega) rfl ?_
        show en_ex _ _ _ _ (50, [(3, .inl (i + 1)), (0, gx_r 7), (1, gx_r 257), (2, gx_r 329)], [], t109, n, 0) _
        refine ex_go (S := (18, [(3, .inl (i + 1)), (0, gx_r 7), (1, gx_r 257), (2, gx_r 329)], [], t109, n, 0)) rfl (fun _ => rfl) rfl ?_
        exact ih (i + 1) (c + 1) (nx ρ c a) t109 a109 f109 (by first | decide | omega) (fun h0 => by have := (y109.2 h0).1; have := hia rfl; omega) s109 hT109 y109.1 (fun i => (e109 0 i (by first | decide | omega)).trans (hz0 i)) k10 k13 (fun i hi => (e109 273 i (by first | decide | omega)).trans (hn i hi)) k11 k12 (fun h0 => ⟨(u109 h0).1, by have := (y109.2 h0).2; omega, fun k hk => by
          by_cases e8 : k = c
          · rw [e8, nx_t]; exact (u109 h0).2
          · rw [nx_f e8]; exact LCr_mv (hrw k (by first | decide | omega)) (fun c9 h7 h8 => e109 c9 k (by first | decide | omega))⟩) (fun f1 h1 => hPk f1 (Or.inr (Or.inr ⟨rfl, haN, q109, hl109, by rw [← z109]; exact h1⟩)))
theorem pc_readWeeks257_329_t (d n : Nat) {t1 : en_H} {a f k : Nat} (s1 : cS t1 a f) : en_ex none (en_u (d + 5)) (en_code 98) (fun _ => false) (53, [(3, .inl k), (0, gx_r 7), (1, gx_r 257), (2, gx_r 329)], [], t1, n, 0) (fun o => o = .inl (some (.inl f), t1, n, 0)) := by
  have b0 := s1.2.2.2
  refine ex_go (S := (54, [(3, .inl k), (0, gx_r 7), (1, gx_r 257), (2, gx_r 329)], [gx_r 7], t1, n, 0)) rfl (fun _ => rfl) rfl ?_
  refine gxo_ref (a := 7) (c := 1) rfl s1.1 rfl rfl rfl rfl rfl ?_
  refine gxo_get (a := 1) rfl s1.1 rfl rfl s1.2.2.1 rfl ?_
  refine ex_ret (r := (some (.inl f), t1, n, 0)) rfl (fun _ => rfl) ?_
  exact rfl
theorem pc_readWeeks257_329 (d n : Nat) {t0 : en_H} {S S0 : Nat → Nat} {m m0 N0 : Nat} {υ : Nat → Nat → Nat} (g0 : ai_HG ah_G t0) (kq5 : ai_hv t0 272 5 = some (.inl (υ 4 0))) (hn : ∀ i, i < υ 4 0 → ai_hv t0 273 i = some (.inr (.inl (sp_wv S0 m0 (υ 21 i + 1))))) (ko : ai_hv t0 257 0 = some (.inl (υ 0 0))) (kd : ai_hv t0 257 1 = some (.inl (υ 1 0))) (h3 : W3 S0 m0 N0 υ) (hc : WC S0 m0 N0 υ) (hm : m ≤ 1000) (km : ai_hv t0 1 0 = some (.inl m)) (hS : ∀ i, i < m → ai_hv t0 2 i = some (.inl (S i)) ∧ S i ≤ 127) : ∃ r, en_u (d + 6) 98 [gx_r 7, gx_r 257, gx_r 329] t0 n = some r ∧ ∃ v t', r = (some (.inl v), t', n, 0) ∧ v < 2147483648 ∧ ai_HG ah_G t' ∧ (∀ i, ai_hv t' 0 i = ai_hv t0 0 i) ∧ ∃ N, (∀ j, j < N → sp_st S m j < m) ∧ sp_st S m N = m ∧ ∃ nl ρ, Wx S m N (υ 0 0) (υ 1 0) (tcr S0 m0 υ S m) 1001 0 (fun _ => 0) (0, 0) (wr v nl ρ) ∧ (v = 0 → ai_hv t' 329 5 = some (.inl nl) ∧ nl ≤ 24 ∧ ∀ k, k < nl → LCr S0 m0 υ S m N t' 329 k (ρ k)) := by
  refine en_u_ex (d := d + 5) rfl ?_
  show en_ex _ _ _ _ (0, [(0, gx_r 7), (1, gx_r 257), (2, gx_r 329)], [], t0, n, 0) _
  refine ex_go (S := (1, [(0, gx_r 7), (1, gx_r 257), (2, gx_r 329)], [gx_r 7], t0, n, 0)) rfl (fun _ => rfl) rfl ?_
  refine ex_go (S := (2, [(0, gx_r 7), (1, gx_r 257), (2, gx_r 329)], [gx_r 257, gx_r 7], t0, n, 0)) rfl (fun _ => rfl) rfl ?_
  refine gxo_putr (a := 7) (h := .inr (.inr [0, 291, 357])) rfl g0 rfl rfl rfl (refin_r (by decide)) rfl (fun t101 g101 k101 e101 => ?_)
  have k2 : ai_hv t101 1 0 = some (.inl m) := (e101 1 0 (by first | decide | omega)).trans km
  have k3 : ai_hv t101 257 0 = some (.inl (υ 0 0)) := (e101 257 0 (by first | decide | omega)).trans ko
  have k4 : ai_hv t101 257 1 = some (.inl (υ 1 0)) := (e101 257 1 (by first | decide | omega)).trans kd
  have k5 : ai_hv t101 272 5 = some (.inl (υ 4 0)) := (e101 272 5 (by first | decide | omega)).trans kq5
  refine ex_go (S := (6, [(0, gx_r 7), (1, gx_r 257), (2, gx_r 329)], [gx_r 329], t101, n, 0)) rfl (fun _ => rfl) rfl ?_
  obtain ⟨_, r106, t106, rfl, g106, e106, k106⟩ := pc_rclear329 (d + 4) n g101
  refine gx_callo (a := 329) rfl rfl g101 rfl rfl rfl r106 rfl ?_
  have k7 : ai_hv t106 1 0 = some (.inl m) := (e106 1 0 (by first | decide | omega)).trans k2
  have k8 : ai_hv t106 257 0 = some (.inl (υ 0 0)) := (e106 257 0 (by first | decide | omega)).trans k3
  have k9 : ai_hv t106 257 1 = some (.inl (υ 1 0)) := (e106 257 1 (by first | decide | omega)).trans k4
  have k10 : ai_hv t106 272 5 = some (.inl (υ 4 0)) := (e106 272 5 (by first | decide | omega)).trans k5
  have k11 : ai_hv t106 7 1 = some (gx_r 257) := (e106 7 1 (by first | decide | omega)).trans k101
  show en_ex _ _ _ _ (9, [(0, gx_r 7), (1, gx_r 257), (2, gx_r 329)], [], t106, n, 0) _
  refine ex_go (S := (10, [(0, gx_r 7), (1, gx_r 257), (2, gx_r 329)], [gx_r 7], t106, n, 0)) rfl (fun _ => rfl) rfl ?_
  refine gxo_ref (a := 7) (c := 1) rfl g106 rfl rfl rfl rfl rfl ?_
  obtain ⟨_, r112, t112, rfl, g112, k0_112, k1_112, k8_112, e112, N, hNm, hC1, hC2, hC3, hC4, hC5, hC6⟩ := pc_cut d n (m := m) g106 hm k7 (fun i hi => ⟨((e106 2 i (by first | decide | omega)).trans (e101 2 i (by first | decide | omega))).trans (hS i hi).1, (hS i hi).2⟩)
  have s112 : cS t112 0 0 := ⟨g112, k8_112, k1_112, by omega, by omega⟩
  have hT : cT t112 S m N := ⟨hC1, hC2, hC3, hC4, hC5, hC6, ⟨hNm, hm⟩, fun i hi => (hS i hi).2⟩
  have b112 := s112.2.2.2
  have hN := hT.2.2.2.2.2.2.1
  refine gx_callo (a := 1) rfl rfl g106 rfl rfl rfl r112 rfl ?_
  have k13 : ai_hv t112 257 0 = some (.inl (υ 0 0)) := (e112 257 0 (by first | decide | omega)).trans k8
  have k14 : ai_hv t112 257 1 = some (.inl (υ 1 0)) := (e112 257 1 (by first | decide | omega)).trans k9
  have k15 : ai_hv t112 272 5 = some (.inl (υ 4 0)) := (e112 272 5 (by first | decide | omega)).trans k10
  have k16 : ai_hv t112 7 1 = some (gx_r 257) := (e112 7 1 (by first | decide | omega)).trans k11
  have k17 : ai_hv t112 329 5 = some (.inl 0) := (e112 329 5 (by first | decide | omega)).trans k106
  show en_ex _ _ _ _ (16, [(0, gx_r 7), (1, gx_r 257), (2, gx_r 329)], [], t112, n, 0) _
  refine ex_go (S := (17, [(0, gx_r 7), (1, gx_r 257), (2, gx_r 329)], [.inl 0], t112, n, 0)) rfl (fun _ => rfl) rfl ?_
  refine ex_go (S := (18, [(3, .inl 0), (0, gx_r 7), (1, gx_r 257), (2, gx_r 329)], [], t112, n, 0)) rfl (fun _ => rfl) rfl ?_
  refine pc_weeks257_329_l d n (tb := t0) (K := 1001) (p0 := (0, 0)) h3 hc (ρ0 := fun _ => 0) (fun k1 t1 a1 f1 c1 ρ1 s1 hz1 hr1 hk => ex_imp (fun o9 h9 => ?_) (pc_readWeeks257_329_t d n s1)) 1000 0 0 (fun _ => 0) t112 0 0 (by first | decide | omega) (by first | decide | omega) s112 hT (by first | decide | omega) (fun i => (e112 0 i (by first | decide | omega)).trans ((e106 0 i (by first | decide | omega)).trans (e101 0 i (by first | decide | omega)))) k16 k15 (fun i hi => ((e112 273 i (by first | decide | omega)).trans ((e106 273 i (by first | decide | omega)).trans (e101 273 i (by first | decide | omega)))).trans (hn i hi)) k13 k14 (fun _ => ⟨k17, by omega, fun k hk => absurd hk (Nat.not_lt_zero k)⟩) (fun f1 h => h)
  have b9 := s1.2.2.2
  exact ⟨_, h9, f1, t1, rfl, by omega, s1.1, hz1, N, (fun j hj => (hT.1 j hj).1), hT.2.1, c1, ρ1, hk, hr1⟩
theorem pc_weeks257_329 (d n : Nat) {t0 : en_H} {S S0 : Nat → Nat} {m m0 N0 : Nat} {υ : Nat → Nat → Nat} (g0 : ai_HG ah_G t0) (k10 : ai_hv t0 0 10 = some (gx_r 257)) (k12 : ai_hv t0 0 12 = some (gx_r 323)) (k13 : ai_hv t0 0 13 = some (gx_r 329)) (kq5 : ai_hv t0 272 5 = some (.inl (υ 4 0))) (hn : ∀ i, i < υ 4 0 → ai_hv t0 273 i = some (.inr (.inl (sp_wv S0 m0 (υ 21 i + 1))))) (ko : ai_hv t0 257 0 = some (.inl (υ 0 0))) (kd : ai_hv t0 257 1 = some (.inl (υ 1 0))) (h3 : W3 S0 m0 N0 υ) (hc : WC S0 m0 N0 υ) (hm : m ≤ 1000) (km : ai_hv t0 1 0 = some (.inl m)) (hS : ∀ i, i < m → ai_hv t0 2 i = some (.inl (S i)) ∧ S i ≤ 127) : ∃ r, en_u (d + 7) 34 [gx_r 0] t0 n = some r ∧ ∃ v t', r = (some (.inl v), t', n, 0) ∧ v < 2147483648 ∧ ((v = 0 → ai_hv t' 0 12 = some (gx_r 329)) ∧ (v ≠ 0 → ai_hv t' 0 12 = some (gx_r 323))) ∧ ∃ N, (∀ j, j < N → sp_st S m j < m) ∧ sp_st S m N = m ∧ ∃ nl ρ, Wx S m N (υ 0 0) (υ 1 0) (tcr S0 m0 υ S m) 1001 0 (fun _ => 0) (0, 0) (wr v nl ρ) ∧ (v = 0 → ai_hv t' 329 5 = some (.inl nl) ∧ nl ≤ 24 ∧ ∀ k, k < nl → LCr S0 m0 υ S m N t' 329 k (ρ k)) := by
  refine en_u_ex (d := d + 6) rfl ?_
  show en_ex _ _ _ _ (0, [(0, gx_r 0)], [], t0, n, 0) _
  refine ex_go (S := (1, [(0, gx_r 0)], [gx_r 0], t0, n, 0)) rfl (fun _ => rfl) rfl ?_
  refine gxo_ref (a := 0) (c := 7) rfl g0 rfl rfl rfl rfl rfl ?_
  refine ex_go (S := (5, [(0, gx_r 0)], [gx_r 0, gx_r 7], t0, n, 0)) rfl (fun _ => rfl) rfl ?_
  refine gxo_get (a := 0) rfl g0 rfl rfl k10 rfl ?_
  refine ex_go (S := (9, [(0, gx_r 0)], [gx_r 0, gx_r 257, gx_r 7], t0, n, 0)) rfl (fun _ => rfl) rfl ?_
  refine gxo_get (a := 0) rfl g0 rfl rfl k13 rfl ?_
  obtain ⟨_, r101, v101, t101, rfl, hv101, g101, f0_101, N, hN1, hN2, nl, ρ, hWk, hrw⟩ := pc_readWeeks257_329 d n (m := m) g0 kq5 hn ko kd h3 hc hm km hS
  refine gx_callo (a := 7) rfl rfl g0 rfl rfl rfl r101 rfl ?_
  have e101 : ∀ c i, ¬ (c ≠ 0) → ai_hv t101 c i = ai_hv t0 c i := fun c i h => by rw [show c = 0 by omega]; exact f0_101 i
  have k2 : ai_hv t101 0 10 = some (gx_r 257) := (e101 0 10 (by first | decide | omega)).trans k10
  have k3 : ai_hv t101 0 12 = some (gx_r 323) := (e101 0 12 (by first | decide | omega)).trans k12
  have k4 : ai_hv t101 0 13 = some (gx_r 329) := (e101 0 13 (by first | decide | omega)).trans k13
  show en_ex _ _ _ _ (15, [(0, gx_r 0)], [.inl v101], t101, n, 0) _
  refine ex_go (S := (16, [(1, .inl v101), (0, gx_r 0)], [], t101, n, 0)) rfl (fun _ => rfl) rfl ?_
  refine ex_go (S := (17, [(1, .inl v101), (0, gx_r 0)], [.inl v101], t101, n, 0)) rfl (fun _ => rfl) rfl ?_
  by_cases hc5 : v101 = 0
  · refine gx_1t (c := .eq) rfl (by first | decide | omega) hc5 rfl ?_
    refine ex_go (S := (23, [(1, .inl v101), (0, gx_r 0)], [gx_r 0], t101, n, 0)) rfl (fun _ => rfl) rfl ?_
    refine gxo_get (a := 0) rfl g101 rfl rfl k3 rfl ?_
    refine ex_go (S := (27, [(2, gx_r 323), (1, .inl v101), (0, gx_r 0)], [], t101, n, 0)) rfl (fun _ => rfl) rfl ?_
    refine ex_go (S := (28, [(2, gx_r 323), (1, .inl v101), (0, gx_r 0)], [gx_r 0], t101, n, 0)) rfl (fun _ => rfl) rfl ?_
    refine ex_go (S := (29, [(2, gx_r 323), (1, .inl v101), (0, gx_r 0)], [gx_r 0, gx_r 0], t101, n, 0)) rfl (fun _ => rfl) rfl ?_
    refine gxo_get (a := 0) rfl g101 rfl rfl k4 rfl ?_
    refine gxo_putr (a := 0) (h := .inr (.inr [423, 429])) rfl g101 rfl rfl rfl (refin_r (by decide)) rfl (fun t106 g106 k106 e106 => ?_)
    have k7 : ai_hv t106 0 10 = some (gx_r 257) := (e106 0 10 (by first | decide | omega)).trans k2
    have k8 : ai_hv t106 0 13 = some (gx_r 329) := (e106 0 13 (by first | decide | omega)).trans k4
    refine ex_go (S := (36, [(2, gx_r 323), (1, .inl v101), (0, gx_r 0)], [gx_r 0], t106, n, 0)) rfl (fun _ => rfl) rfl ?_
    refine ex_go (S := (37, [(2, gx_r 323), (1, .inl v101), (0, gx_r 0)], [gx_r 323, gx_r 0], t106, n, 0)) rfl (fun _ => rfl) rfl ?_
    refine gxo_putr (a := 0) (h := .inr (.inr [423, 429])) rfl g106 rfl rfl rfl (refin_r (by decide)) rfl (fun t109 g109 k109 e109 => ?_)
    have k10 : ai_hv t109 0 10 = some (gx_r 257) := (e109 0 10 (by first | decide | omega)).trans k7
    have k11 : ai_hv t109 0 12 = some (gx_r 329) := (e109 0 12 (by first | decide | omega)).trans k106
    refine ex_go (S := (41, [(2, gx_r 323), (1, .inl v101), (0, gx_r 0)], [.inl 0], t109, n, 0)) rfl (fun _ => rfl) rfl ?_
    refine ex_ret (r := (some (.inl 0), t109, n, 0)) rfl (fun _ => rfl) ?_
    have h9 : v101 = 0 := by omega
    rw [h9] at hWk
    obtain ⟨x1, x2, x3⟩ := hrw h9
    exact ⟨_, rfl, 0, t109, rfl, by omega, ⟨fun _ => k11, fun h9 => absurd rfl h9⟩, N, hN1, hN2, nl, ρ, hWk, fun _ => ⟨(e109 329 5 (by first | decide | omega)).trans ((e106 329 5 (by first | decide | omega)).trans (x1)), x2, fun k hk => LCr_mv (x3 k hk) (fun c9 h7 h8 => (e109 c9 k (by first | decide | omega)).trans (e106 c9 k (by first | decide | omega)))⟩⟩
  · refine gx_1f (c := .eq) rfl (by first | decide | omega) hc5 rfl ?_
    refine ex_go (S := (21, [(1, .inl v101), (0, gx_r 0)], [.inl v101], t101, n, 0)) rfl (fun _ => rfl) rfl ?_
    refine ex_ret (r := (some (.inl v101), t101, n, 0)) rfl (fun _ => rfl) ?_
    exact ⟨_, rfl, v101, t101, rfl, by omega, ⟨fun h9 => absurd h9 (by first | decide | omega), fun _ => k3⟩, N, hN1, hN2, nl, ρ, hWk, fun h9 => absurd h9 (by first | decide | omega)⟩
end SWU
