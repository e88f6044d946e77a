section SSN2
section
variable {t0 t2 : en_H} {T K u q : Nat} {σ σ' F v : Nat → Nat} {τ μ : Nat → Nat → Nat}
theorem CS_new (h : CS t0 T K σ u τ F μ q v) (b : SC t2 8 T K σ') (k : ∃ o, o ≤ 15 ∧ ai_hv t2 22 1 = some (.inl o) ∧ ai_hv t2 22 2 = some (.inl (kpu u)) ∧ ∀ k, k < kpu u → SC t2 (24 + 7 * ((o + k) % 16)) T K (kpt u σ τ k)) (e : ∀ c i, (c = 139 ∧ i = 0) ∨ c = 138 ∨ (335 ≤ c ∧ c ≤ 378) → ai_hv t2 c i = ai_hv t0 c i) : CS t2 T K σ' (kpu u) (kpt u σ τ) F μ q v := by
  obtain ⟨h1, h2, -, h7⟩ := h
  exact ⟨b, (e _ _ (by first | decide | omega)).trans h2, k, fun m hm => ⟨(e _ _ (by first | decide | omega)).trans (h7 m hm).1, fun z => ⟨SC_keep ((h7 m hm).2 z).1 (fun c i a b => e _ _ (by first | decide | omega)), (e _ _ (by first | decide | omega)).trans ((h7 m hm).2 z).2⟩⟩⟩
end
theorem pz_holds194 (d n : Nat) {t0 : en_H} {x K : Nat} (g0 : ai_HG ah_G t0) (hx : x < 4294967296) (kK : ai_hv t0 194 5 = some (.inl K)) (hK : K ≤ 1000) : ∃ r, en_u (d + 1) 23 [gx_r 194, .inl x] t0 n = some r ∧ ∃ b, r = (some (.inl b), t0, n, 0) ∧ b ≤ 1 ∧ (b = 1 ↔ x < K) := by
  refine en_u_ex rfl ?_
  show en_ex _ _ _ _ (0, [(0, gx_r 194), (1, .inl x)], [], t0, n, 0) _
  by_cases hn : 2147483648 ≤ x
  · refine ex_go (S := (1, [(0, gx_r 194), (1, .inl x)], [.inl x], t0, n, 0)) rfl (fun _ => rfl) rfl ?_
    refine gx_negt (c := .lt) rfl (by first | decide | omega) (by first | decide | omega) rfl rfl ?_
    refine ex_go (S := (17, [(0, gx_r 194), (1, .inl x)], [.inl 0], t0, n, 0)) rfl (fun _ => rfl) rfl ?_
    refine ex_ret (r := (some (.inl 0), t0, n, 0)) rfl (fun _ => rfl) ?_
    exact ⟨_, rfl, 0, rfl, by omega, by omega⟩
  · refine ex_go (S := (1, [(0, gx_r 194), (1, .inl x)], [.inl x], t0, n, 0)) rfl (fun _ => rfl) rfl ?_
    by_cases hc1 : x < 0
    · refine gx_1t (c := .lt) rfl (by first | decide | omega) hc1 rfl ?_
      refine ex_go (S := (17, [(0, gx_r 194), (1, .inl x)], [.inl 0], t0, n, 0)) rfl (fun _ => rfl) rfl ?_
      refine ex_ret (r := (some (.inl 0), t0, n, 0)) rfl (fun _ => rfl) ?_
      exact ⟨_, rfl, 0, rfl, by omega, by omega⟩
    · refine gx_1f (c := .lt) rfl (by first | decide | omega) hc1 rfl ?_
      refine ex_go (S := (5, [(0, gx_r 194), (1, .inl x)], [.inl x], t0, n, 0)) rfl (fun _ => rfl) rfl ?_
      refine ex_go (S := (6, [(0, gx_r 194), (1, .inl x)], [gx_r 194, .inl x], t0, n, 0)) rfl (fun _ => rfl) rfl ?_
      refine gxo_get (a := 194) rfl g0 rfl rfl kK rfl ?_
      by_cases hc2 : K ≤ x
      · refine gx_2t (c := .ge) rfl (by first | decide | omega) (by first | decide | omega) hc2 rfl ?_
        refine ex_go (S := (17, [(0, gx_r 194), (1, .inl x)], [.inl 0], t0, n, 0)) rfl (fun _ => rfl) rfl ?_
        refine ex_ret (r := (some (.inl 0), t0, n, 0)) rfl (fun _ => rfl) ?_
        exact ⟨_, rfl, 0, rfl, by omega, by omega⟩
      · refine gx_2f (c := .ge) rfl (by first | decide | omega) (by first | decide | omega) hc2 rfl ?_
        refine ex_go (S := (13, [(0, gx_r 194), (1, .inl x)], [.inl 1], t0, n, 0)) rfl (fun _ => rfl) rfl ?_
        refine ex_go (S := (17, [(0, gx_r 194), (1, .inl x)], [.inl 1], t0, n, 0)) rfl (fun _ => rfl) rfl ?_
        refine ex_ret (r := (some (.inl 1), t0, n, 0)) rfl (fun _ => rfl) ?_
        exact ⟨_, rfl, 1, rfl, by omega, by omega⟩
theorem pz_holds260 (d n : Nat) {t0 : en_H} {x K : Nat} (g0 : ai_HG ah_G t0) (hx : x < 4294967296) (kK : ai_hv t0 260 5 = some (.inl K)) (hK : K ≤ 1000) : ∃ r, en_u (d + 1) 23 [gx_r 260, .inl x] t0 n = some r ∧ ∃ b, r = (some (.inl b), t0, n, 0) ∧ b ≤ 1 ∧ (b = 1 ↔ x < K) := by
  refine en_u_ex rfl ?_
  show en_ex _ _ _ _ (0, [(0, gx_r 260), (1, .inl x)], [], t0, n, 0) _
  by_cases hn : 2147483648 ≤ x
  · refine ex_go (S := (1, [(0, gx_r 260), (1, .inl x)], [.inl x], t0, n, 0)) rfl (fun _ => rfl) rfl ?_
    refine gx_negt (c := .lt) rfl (by first | decide | omega) (by first | decide | omega) rfl rfl ?_
    refine ex_go (S := (17, [(0, gx_r 260), (1, .inl x)], [.inl 0], t0, n, 0)) rfl (fun _ => rfl) rfl ?_
    refine ex_ret (r := (some (.inl 0), t0, n, 0)) rfl (fun _ => rfl) ?_
    exact ⟨_, rfl, 0, rfl, by omega, by omega⟩
  · refine ex_go (S := (1, [(0, gx_r 260), (1, .inl x)], [.inl x], t0, n, 0)) rfl (fun _ => rfl) rfl ?_
    by_cases hc1 : x < 0
    · refine gx_1t (c := .lt) rfl (by first | decide | omega) hc1 rfl ?_
      refine ex_go (S := (17, [(0, gx_r 260), (1, .inl x)], [.inl 0], t0, n, 0)) rfl (fun _ => rfl) rfl ?_
      refine ex_ret (r := (some (.inl 0), t0, n, 0)) rfl (fun _ => rfl) ?_
      exact ⟨_, rfl, 0, rfl, by omega, by omega⟩
    · refine gx_1f (c := .lt) rfl (by first | decide | omega) hc1 rfl ?_
      refine ex_go (S := (5, [(0, gx_r 260), (1, .inl x)], [.inl x], t0, n, 0)) rfl (fun _ => rfl) rfl ?_
      refine ex_go (S := (6, [(0, gx_r 260), (1, .inl x)], [gx_r 260, .inl x], t0, n, 0)) rfl (fun _ => rfl) rfl ?_
      refine gxo_get (a := 260) rfl g0 rfl rfl kK rfl ?_
      by_cases hc2 : K ≤ x
      · refine gx_2t (c := .ge) rfl (by first | decide | omega) (by first | decide | omega) hc2 rfl ?_
        refine ex_go (S := (17, [(0, gx_r 260), (1, .inl x)], [.inl 0], t0, n, 0)) rfl (fun _ => rfl) rfl ?_
        refine ex_ret (r := (some (.inl 0), t0, n, 0)) rfl (fun _ => rfl) ?_
        exact ⟨_, rfl, 0, rfl, by omega, by omega⟩
      · refine gx_2f (c := .ge) rfl (by first | decide | omega) (by first | decide | omega) hc2 rfl ?_
        refine ex_go (S := (13, [(0, gx_r 260), (1, .inl x)], [.inl 1], t0, n, 0)) rfl (fun _ => rfl) rfl ?_
        refine ex_go (S := (17, [(0, gx_r 260), (1, .inl x)], [.inl 1], t0, n, 0)) rfl (fun _ => rfl) rfl ?_
        refine ex_ret (r := (some (.inl 1), t0, n, 0)) rfl (fun _ => rfl) ?_
        exact ⟨_, rfl, 1, rfl, by omega, by omega⟩
theorem gs_same {oc : Option (List en_V)} {f : en_F} {code : Nat → Option en_I} {stop : Nat → Bool} {P : en_O → Prop} {pc nx : Nat} {ls : en_L} {st : List en_V} {t : en_H} {n sl : Nat} {j : Int} {x1 x2 x : Nat} (hc : code pc = some (.if_icmp .eq j, nx, x1, x2)) (hx : x = 4294967295) (hp : stop x1 = false) (h : en_ex oc f code stop (x1, ls, st, t, n, sl) P) : en_ex oc f code stop (pc, ls, .inl 4294967295 :: .inl x :: st, t, n, sl) P := by
  subst hx
  exact ex_cmp2 (r := true) hc (show en_eq (.inl 4294967295) (.inl 4294967295) = some true from (ai_en_eq 4294967295 4294967295).trans (by rw [decide_eq_true rfl])) hp h
theorem sc_note (d n : Nat) {t0 : en_H} {q x s z : Nat} (g0 : ai_HG ah_G t0) (kq : ai_hv t0 139 0 = some (.inl q)) (hq : q ≤ 8) (hx : x ≤ 5) (hs : s < 4294967296) (hz : z ≤ 8) : ∃ r, en_u (d + 1) 134 [gx_r 139, .inl x, .inl s, .inl z] t0 n = some r ∧ ∃ o t', r = (some (.inl o), t', n, 0) ∧ ai_HG ah_G t' ∧ (∀ c i, ¬ (139 ≤ c ∧ c ≤ 142) → ai_hv t' c i = ai_hv t0 c i) ∧ (q < 8 → o = 1 ∧ ai_hv t' 139 0 = some (.inl (q + 1))) ∧ (¬ q < 8 → o = 0 ∧ ai_hv t' 139 0 = some (.inl q)) := by
  refine en_u_ex rfl ?_
  show en_ex _ _ _ _ (0, [(0, gx_r 139), (1, .inl x), (2, .inl s), (3, .inl z)], [], t0, n, 0) _
  refine ex_go (S := (1, [(0, gx_r 139), (1, .inl x), (2, .inl s), (3, .inl z)], [gx_r 139], t0, n, 0)) rfl (fun _ => rfl) rfl ?_
  refine gxo_get (a := 139) rfl g0 rfl rfl kq rfl ?_
  refine ex_go (S := (6, [(0, gx_r 139), (1, .inl x), (2, .inl s), (3, .inl z)], [.inl 8, .inl q], t0, n, 0)) rfl (fun _ => rfl) rfl ?_
  by_cases hc21 : q < 8
  · refine gx_2t (c := .lt) rfl (by first | decide | omega) (by first | decide | omega) hc21 rfl ?_
    refine ex_go (S := (12, [(0, gx_r 139), (1, .inl x), (2, .inl s), (3, .inl z)], [gx_r 139], t0, n, 0)) rfl (fun _ => rfl) rfl ?_
    refine gxo_ref (a := 139) (c := 140) rfl g0 rfl rfl rfl rfl rfl ?_
    refine ex_go (S := (16, [(0, gx_r 139), (1, .inl x), (2, .inl s), (3, .inl z)], [gx_r 139, gx_r 140], t0, n, 0)) rfl (fun _ => rfl) rfl ?_
    refine gxo_get (a := 139) rfl g0 rfl rfl kq rfl ?_
    refine ex_go (S := (20, [(0, gx_r 139), (1, .inl x), (2, .inl s), (3, .inl z)], [.inl x, .inl q, gx_r 140], t0, n, 0)) rfl (fun _ => rfl) rfl ?_
    refine gx_ap rfl (fun _ => rfl) g0 rfl rfl rfl (show q < 8 from by omega) (gx_run1 (show q < 8 from by omega)) (ai_in_h (by first | decide | omega) (by first | decide | omega) (by first | decide | omega)) rfl (fun t122 g122 k122 e122 => ?_)
    have k23 : ai_hv t122 139 0 = some (.inl q) := (e122 139 0 (by first | decide | omega)).trans kq
    refine ex_go (S := (22, [(0, gx_r 139), (1, .inl x), (2, .inl s), (3, .inl z)], [gx_r 139], t122, n, 0)) rfl (fun _ => rfl) rfl ?_
    refine gxo_ref (a := 139) (c := 141) rfl g122 rfl rfl rfl rfl rfl ?_
    refine ex_go (S := (26, [(0, gx_r 139), (1, .inl x), (2, .inl s), (3, .inl z)], [gx_r 139, gx_r 141], t122, n, 0)) rfl (fun _ => rfl) rfl ?_
    refine gxo_get (a := 139) rfl g122 rfl rfl k23 rfl ?_
    refine ex_go (S := (30, [(0, gx_r 139), (1, .inl x), (2, .inl s), (3, .inl z)], [.inl s, .inl q, gx_r 141], t122, n, 0)) rfl (fun _ => rfl) rfl ?_
    refine gx_ap rfl (fun _ => rfl) g122 rfl rfl rfl (show q < 8 from by omega) (gx_run1 (show q < 8 from by omega)) (gx_full (by first | decide | omega)) rfl (fun t124 g124 k124 e124 => ?_)
    have k25 : ai_hv t124 139 0 = some (.inl q) := (e124 139 0 (by first | decide | omega)).trans k23
    have k26 : ai_hv t124 140 q = some (.inl x) := (e124 140 q (by first | decide | omega)).trans k122
    refine ex_go (S := (32, [(0, gx_r 139), (1, .inl x), (2, .inl s), (3, .inl z)], [gx_r 139], t124, n, 0)) rfl (fun _ => rfl) rfl ?_
    refine gxo_ref (a := 139) (c := 142) rfl g124 rfl rfl rfl rfl rfl ?_
    refine ex_go (S := (36, [(0, gx_r 139), (1, .inl x), (2, .inl s), (3, .inl z)], [gx_r 139, gx_r 142], t124, n, 0)) rfl (fun _ => rfl) rfl ?_
    refine gxo_get (a := 139) rfl g124 rfl rfl k25 rfl ?_
    refine ex_go (S := (40, [(0, gx_r 139), (1, .inl x), (2, .inl s), (3, .inl z)], [.inl z, .inl q, gx_r 142], t124, n, 0)) rfl (fun _ => rfl) rfl ?_
    refine gx_ap rfl (fun _ => rfl) g124 rfl rfl rfl (show q < 8 from by omega) (gx_run1 (show q < 8 from by omega)) (ai_in_h (by first | decide | omega) (by first | decide | omega) (by first | decide | omega)) rfl (fun t127 g127 k127 e127 => ?_)
    have k28 : ai_hv t127 139 0 = some (.inl q) := (e127 139 0 (by first | decide | omega)).trans k25
    have k29 : ai_hv t127 140 q = some (.inl x) := (e127 140 q (by first | decide | omega)).trans k26
    have k30 : ai_hv t127 141 q = some (.inl s) := (e127 141 q (by first | decide | omega)).trans k124
    refine ex_go (S := (42, [(0, gx_r 139), (1, .inl x), (2, .inl s), (3, .inl z)], [gx_r 139], t127, n, 0)) rfl (fun _ => rfl) rfl ?_
    refine ex_go (S := (43, [(0, gx_r 139), (1, .inl x), (2, .inl s), (3, .inl z)], [gx_r 139, gx_r 139], t127, n, 0)) rfl (fun _ => rfl) rfl ?_
    refine gxo_get (a := 139) rfl g127 rfl rfl k28 rfl ?_
    refine ex_go (S := (47, [(0, gx_r 139), (1, .inl x), (2, .inl s), (3, .inl z)], [.inl 1, .inl q, gx_r 139], t127, n, 0)) rfl (fun _ => rfl) rfl ?_
    refine ex_iadd rfl (by first | decide | omega) rfl ?_
    refine gxo_put (a := 139) rfl g127 rfl rfl rfl (ai_in_h (by first | decide | omega) (by first | decide | omega) (by first | decide | omega)) rfl (fun t131 g131 k131 e131 => ?_)
    have k32 : ai_hv t131 140 q = some (.inl x) := (e131 140 q (by first | decide | omega)).trans k29
    have k33 : ai_hv t131 141 q = some (.inl s) := (e131 141 q (by first | decide | omega)).trans k30
    have k34 : ai_hv t131 142 q = some (.inl z) := (e131 142 q (by first | decide | omega)).trans k127
    refine ex_go (S := (52, [(0, gx_r 139), (1, .inl x), (2, .inl s), (3, .inl z)], [.inl 1], t131, n, 0)) rfl (fun _ => rfl) rfl ?_
    refine ex_ret (r := (some (.inl 1), t131, n, 0)) rfl (fun _ => rfl) ?_
    exact ⟨_, rfl, 1, t131, rfl, g131, (fun c i h => (e131 c i (by first | decide | omega)).trans ((e127 c i (by first | decide | omega)).trans ((e124 c i (by first | decide | omega)).trans (e122 c i (by first | decide | omega))))), (fun _ => ⟨rfl, k131⟩), fun z => absurd (by first | decide | omega) z⟩
  · refine gx_2f (c := .lt) rfl (by first | decide | omega) (by first | decide | omega) hc21 rfl ?_
    refine ex_go (S := (10, [(0, gx_r 139), (1, .inl x), (2, .inl s), (3, .inl z)], [.inl 0], t0, n, 0)) rfl (fun _ => rfl) rfl ?_
    refine ex_ret (r := (some (.inl 0), t0, n, 0)) rfl (fun _ => rfl) ?_
    exact ⟨_, rfl, 0, t0, rfl, g0, (fun _ _ _ => rfl), (fun z => by omega), fun _ => ⟨rfl, kq⟩⟩
theorem sc_giveBack (d n : Nat) {t0 : en_H} {T K u q : Nat} {σ F v : Nat → Nat} {τ μ : Nat → Nat → Nat} (g0 : ai_HG ah_G t0) (hT : T ≤ 6) (hK : K ≤ 2) (hS : CS t0 T K σ u τ F μ q v) (hu : u ≤ 16) : ∃ r, en_u (d + 2) 122 [gx_r 22, gx_r 8] t0 n = some r ∧ ∃ z t', r = (some (.inl z), t', n, 0) ∧ ai_HG ah_G t' ∧ (∀ c i, ¬ ((8 ≤ c ∧ c ≤ 14) ∨ (c = 22 ∧ i = 2)) → ai_hv t' c i = ai_hv t0 c i) ∧ (u = 0 → z = 0 ∧ CS t' T K σ u τ F μ q v) ∧ (0 < u → z = 1 ∧ CS t' T K (τ (u - 1)) (u - 1) τ F μ q v) := by
  obtain ⟨h1, h2, ⟨o, h3, h4, h5, h6⟩, h7⟩ := hS
  refine en_u_ex (d := d + 1) rfl ?_
  show en_ex _ _ _ _ (0, [(0, gx_r 22), (1, gx_r 8)], [], t0, n, 0) _
  refine ex_go (S := (1, [(0, gx_r 22), (1, gx_r 8)], [gx_r 22], t0, n, 0)) rfl (fun _ => rfl) rfl ?_
  refine gxo_get (a := 22) rfl g0 rfl rfl h5 rfl ?_
  by_cases hc21 : u ≠ 0
  · refine gx_1t (c := .ne) rfl (by first | decide | omega) hc21 rfl ?_
    refine ex_go (S := (10, [(0, gx_r 22), (1, gx_r 8)], [gx_r 22], t0, n, 0)) rfl (fun _ => rfl) rfl ?_
    refine ex_go (S := (11, [(0, gx_r 22), (1, gx_r 8)], [gx_r 22, gx_r 22], t0, n, 0)) rfl (fun _ => rfl) rfl ?_
    refine gxo_get (a := 22) rfl g0 rfl rfl h5 rfl ?_
    refine ex_go (S := (15, [(0, gx_r 22), (1, gx_r 8)], [.inl 1, .inl u, gx_r 22], t0, n, 0)) rfl (fun _ => rfl) rfl ?_
    refine gx_isub rfl (by first | decide | omega) (by first | decide | omega) rfl ?_
    refine gxo_put (a := 22) rfl g0 rfl rfl rfl (ai_in_h (by first | decide | omega) (by first | decide | omega) (by first | decide | omega)) rfl (fun t122 g122 k122 e122 => ?_)
    have k23 : ai_hv t122 22 1 = some (.inl o) := (e122 22 1 (by first | decide | omega)).trans h4
    refine ex_go (S := (20, [(0, gx_r 22), (1, gx_r 8)], [gx_r 8], t122, n, 0)) rfl (fun _ => rfl) rfl ?_
    refine ex_go (S := (21, [(0, gx_r 22), (1, gx_r 8)], [gx_r 22, gx_r 8], t122, n, 0)) rfl (fun _ => rfl) rfl ?_
    refine gxo_ref (a := 22) (c := 23) rfl g122 rfl rfl rfl rfl rfl ?_
    refine ex_go (S := (25, [(0, gx_r 22), (1, gx_r 8)], [gx_r 22, gx_r 23, gx_r 8], t122, n, 0)) rfl (fun _ => rfl) rfl ?_
    refine gxo_get (a := 22) rfl g122 rfl rfl k23 rfl ?_
    refine ex_go (S := (29, [(0, gx_r 22), (1, gx_r 8)], [gx_r 22, .inl o, gx_r 23, gx_r 8], t122, n, 0)) rfl (fun _ => rfl) rfl ?_
    refine gxo_get (a := 22) rfl g122 rfl rfl k122 rfl ?_
    refine ex_iadd rfl (by first | decide | omega) rfl ?_
    refine ex_go (S := (35, [(0, gx_r 22), (1, gx_r 8)], [.inl 16, .inl (o + (u - 1)), gx_r 23, gx_r 8], t122, n, 0)) rfl (fun _ => rfl) rfl ?_
    refine gx_iremn rfl (by first | decide | omega) (by first | decide | omega) (by first | decide | omega) rfl ?_
    refine gx_ag (v := gx_r (24 + 7 * ((o + (u - 1)) % 16))) (cb := fun c => Nat.ble 4 c && Nat.ble c 7) rfl (fun _ => rfl) g122 rfl rfl (ringk g122 (by first | decide | omega)) (by first | decide | omega) rfl ?_
    obtain ⟨_, r124, t124, rfl, g124, e124, y124a, y124b, y124c⟩ := sc_take d n (A := 8) (B := 24 + 7 * ((o + (u - 1)) % 16)) g122 StA_8 (StA_ring (by first | decide | omega)) (by unfold StD; omega)
    refine gx_callo (a := 8) rfl rfl g122 rfl rfl rfl r124 rfl ?_
    have k25 : ai_hv t124 22 1 = some (.inl o) := (e124 22 1 (by first | decide | omega)).trans k23
    have k26 : ai_hv t124 22 2 = some (.inl (u - 1)) := (e124 22 2 (by first | decide | omega)).trans k122
    show en_ex _ _ _ _ (40, [(0, gx_r 22), (1, gx_r 8)], [], t124, n, 0) _
    refine ex_go (S := (41, [(0, gx_r 22), (1, gx_r 8)], [.inl 1], t124, n, 0)) rfl (fun _ => rfl) rfl ?_
    refine ex_ret (r := (some (.inl 1), t124, n, 0)) rfl (fun _ => rfl) ?_
    have hsc := SC_keep (t' := t124) (h6 (u - 1) (by first | decide | omega)) (fun c i a b => (e124 c i (by first | decide | omega)).trans (e122 c i (by first | decide | omega)))
    have hs8 : SC t124 8 T K (τ (u - 1)) := SC_take (t := t122) (SC_keep (h6 (u - 1) (by first | decide | omega)) (fun c i a b => e122 c i (by first | decide | omega))) hT hK y124a y124b y124c
    exact ⟨_, rfl, 1, t124, rfl, g124, (fun c i h => (e124 c i (by first | decide | omega)).trans (e122 c i (by first | decide | omega))), (fun z => absurd z (by first | decide | omega)), fun _ => ⟨rfl, hs8, (e124 139 0 (by first | decide | omega)).trans ((e122 139 0 (by first | decide | omega)).trans (h2)), ⟨o, h3, k25, k26, fun k hk => SC_keep (h6 k (by first | decide | omega)) (fun c i a b => (e124 c i (by first | decide | omega)).trans (e122 c i (by first | decide | omega)))⟩, fun m hm => ⟨(e124 138 m (by first | decide | omega)).trans ((e122 138 m (by first | decide | omega)).trans ((h7 m hm).1)), fun z => ⟨SC_keep ((h7 m hm).2 z).1 (fun c i a b => (e124 c i (by first | decide | omega)).trans (e122 c i (by first | decide | omega))), ((e124 _ _ (by first | decide | omega)).trans (e122 _ _ (by first | decide | omega))).trans ((h7 m hm).2 z).2⟩⟩⟩⟩
  · refine gx_1f (c := .ne) rfl (by first | decide | omega) hc21 rfl ?_
    refine ex_go (S := (8, [(0, gx_r 22), (1, gx_r 8)], [.inl 0], t0, n, 0)) rfl (fun _ => rfl) rfl ?_
    refine ex_ret (r := (some (.inl 0), t0, n, 0)) rfl (fun _ => rfl) ?_
    exact ⟨_, rfl, 0, t0, rfl, g0, (fun _ _ _ => rfl), (fun _ => ⟨rfl, h1, h2, ⟨o, h3, h4, h5, h6⟩, h7⟩), fun z => absurd z (by first | decide | omega)⟩
theorem sc_undo (d n : Nat) {t0 : en_H} {T K u q : Nat} {σ F v : Nat → Nat} {τ μ : Nat → Nat → Nat} (g0 : ai_HG ah_G t0) (hT : T ≤ 6) (hK : K ≤ 2) (hS : CS t0 T K σ u τ F μ q v) (hu : u ≤ 16) : ∃ r, en_u (d + 3) 50 [gx_r 0] t0 n = some r ∧ ∃ z t', r = (some (.inl z), t', n, 0) ∧ ai_HG ah_G t' ∧ (∀ c i, ¬ ((8 ≤ c ∧ c ≤ 14) ∨ (c = 22 ∧ i = 2)) → ai_hv t' c i = ai_hv t0 c i) ∧ (u = 0 → z = 0 ∧ CS t' T K σ u τ F μ q v) ∧ (0 < u → z = 1 ∧ CS t' T K (τ (u - 1)) (u - 1) τ F μ q v) := by
  refine en_u_ex (d := d + 2) rfl ?_
  show en_ex _ _ _ _ (0, [(0, gx_r 0)], [], t0, n, 0) _
  refine ex_go (S := (1, [(0, gx_r 0)], [gx_r 0], t0, n, 0)) rfl (fun _ => rfl) rfl ?_
  refine gxo_ref (a := 0) (c := 22) rfl g0 rfl rfl rfl rfl rfl ?_
  refine ex_go (S := (5, [(0, gx_r 0)], [gx_r 0, gx_r 22], t0, n, 0)) rfl (fun _ => rfl) rfl ?_
  refine gxo_ref (a := 0) (c := 8) rfl g0 rfl rfl rfl rfl rfl ?_
  obtain ⟨_, r1, z, t1, rfl, g1, e1, p1, q1⟩ := sc_giveBack d n g0 hT hK hS hu
  have hz1 : z ≤ 1 := (Nat.eq_zero_or_pos u).elim (fun c => by have := (p1 c).1; omega) (fun c => by have := (q1 c).1; omega)
  refine gx_callo (a := 22) rfl rfl g0 rfl rfl rfl r1 rfl ?_
  show en_ex _ _ _ _ (11, [(0, gx_r 0)], [.inl z], t1, n, 0) _
  refine gx_retb rfl (by first | decide | omega) ?_
  exact ⟨_, rfl, z, t1, rfl, g1, e1, p1, q1⟩
theorem sc_act1_8_191 (d n : Nat) {t0 : en_H} {w : Nat → Nat → Nat} {L : List Nat} {σ : Nat → Nat} {c : Nat} (g0 : ai_HG ah_G t0) (hC : CW t0 191 w L) (hw : WS w) (hb : sbd σ) (hS : SC t0 8 (w 0 2) (w 0 4) σ) (k10 : ai_hv t0 0 10 = some (gx_r 191)) {to : Nat} (hX : CX t0 191 w) (hB : σ 0 ≤ 900000) (ht : to < 64) (hc : c < w 0 4) : ∃ r, en_u (d + 5) 124 [gx_r 0, gx_r 8, .inl 1, .inl c, .inl to] t0 n = some r ∧ ∃ y t', r = (some (.inl y), t', n, 0) ∧ ai_HG ah_G t' ∧ (∀ c i, ¬ (10 ≤ c ∧ c ≤ 14) → ai_hv t' c i = ai_hv t0 c i) ∧ (mayH w σ c to → y = 0 ∧ SC t' 8 (w 0 2) (w 0 4) (sgH σ c to)) ∧ (¬ mayH w σ c to → y = 4294967295 ∧ t' = t0) := by
  have hK := hw.1.2.2.2.2.1
  refine en_u_ex (d := d + 4) rfl ?_
  show en_ex _ _ _ _ (0, [(0, gx_r 0), (1, gx_r 8), (2, .inl 1), (3, .inl c), (4, .inl to)], [], t0, n, 0) _
  refine ex_go (S := (1, [(0, gx_r 0), (1, gx_r 8), (2, .inl 1), (3, .inl c), (4, .inl to)], [.inl 1], t0, n, 0)) rfl (fun _ => rfl) rfl ?_
  refine ex_go (S := (41, [(0, gx_r 0), (1, gx_r 8), (2, .inl 1), (3, .inl c), (4, .inl to)], [], t0, n, 0)) rfl (fun _ => rfl) rfl ?_
  refine ex_go (S := (42, [(0, gx_r 0), (1, gx_r 8), (2, .inl 1), (3, .inl c), (4, .inl to)], [gx_r 0], t0, n, 0)) rfl (fun _ => rfl) rfl ?_
  refine gxo_get (a := 0) rfl g0 rfl rfl k10 rfl ?_
  refine gxo_ref (a := 191) (c := 206) rfl g0 rfl rfl rfl rfl rfl ?_
  refine ex_go (S := (49, [(0, gx_r 0), (1, gx_r 8), (2, .inl 1), (3, .inl c), (4, .inl to)], [.inl c, gx_r 206], t0, n, 0)) rfl (fun _ => rfl) rfl ?_
  obtain ⟨_, r121, b121, rfl, hb121, hi121⟩ := pz_holds206 (d + 3) n (x := c) (K := w 0 4) g0 (by first | decide | omega) hC.1.2.2.2.2.2 (by first | decide | omega)
  refine gx_callo (a := 206) rfl rfl g0 rfl rfl rfl r121 rfl ?_
  show en_ex _ _ _ _ (52, [(0, gx_r 0), (1, gx_r 8), (2, .inl 1), (3, .inl c), (4, .inl to)], [.inl b121], t0, n, 0) _
  by_cases hc22 : b121 ≠ 0
  · refine gx_1t (c := .ne) rfl (by first | decide | omega) hc22 rfl ?_
    refine ex_go (S := (58, [(0, gx_r 0), (1, gx_r 8), (2, .inl 1), (3, .inl c), (4, .inl to)], [.inl 1], t0, n, 0)) rfl (fun _ => rfl) rfl ?_
    refine ex_go (S := (59, [(0, gx_r 0), (1, gx_r 8), (2, .inl 1), (3, .inl c), (4, .inl to)], [.inl 1, .inl 1], t0, n, 0)) rfl (fun _ => rfl) rfl ?_
    refine ex_go (S := (62, [(0, gx_r 0), (1, gx_r 8), (2, .inl 1), (3, .inl c), (4, .inl to)], [], t0, n, 0)) rfl (fun _ => rfl) rfl ?_
    refine ex_go (S := (63, [(0, gx_r 0), (1, gx_r 8), (2, .inl 1), (3, .inl c), (4, .inl to)], [gx_r 8], t0, n, 0)) rfl (fun _ => rfl) rfl ?_
    refine ex_go (S := (64, [(0, gx_r 0), (1, gx_r 8), (2, .inl 1), (3, .inl c), (4, .inl to)], [gx_r 0, gx_r 8], t0, n, 0)) rfl (fun _ => rfl) rfl ?_
    refine gxo_get (a := 0) rfl g0 rfl rfl k10 rfl ?_
    refine ex_go (S := (68, [(0, gx_r 0), (1, gx_r 8), (2, .inl 1), (3, .inl c), (4, .inl to)], [.inl c, gx_r 191, gx_r 8], t0, n, 0)) rfl (fun _ => rfl) rfl ?_
    refine ex_go (S := (70, [(0, gx_r 0), (1, gx_r 8), (2, .inl 1), (3, .inl c), (4, .inl to)], [.inl to, .inl c, gx_r 191, gx_r 8], t0, n, 0)) rfl (fun _ => rfl) rfl ?_
    obtain ⟨_, r123, y123, t123, rfl, g123, e123, hy123, p123, q123⟩ := sc_hs8_191 d n g0 hC hw hb hS hX hB hc ht
    refine gx_callo (a := 8) rfl rfl g0 rfl rfl rfl r123 rfl ?_
    have k24 : ai_hv t123 0 10 = some (gx_r 191) := (e123 0 10 (by first | decide | omega)).trans k10
    show en_ex _ _ _ _ (73, [(0, gx_r 0), (1, gx_r 8), (2, .inl 1), (3, .inl c), (4, .inl to)], [.inl y123], t123, n, 0) _
    by_cases hc25 : y123 = 0
    · refine gx_1t (c := .eq) rfl (by first | decide | omega) hc25 rfl ?_
      refine ex_go (S := (81, [(0, gx_r 0), (1, gx_r 8), (2, .inl 1), (3, .inl c), (4, .inl to)], [.inl 4294967295], t123, n, 0)) rfl (fun _ => rfl) rfl ?_
      refine ex_ret (r := (some (.inl 4294967295), t123, n, 0)) rfl (fun _ => rfl) ?_
      have h9 := q123 (by first | decide | omega)
      exact ⟨_, rfl, _, _, rfl, g123, (fun c i h => e123 c i (by first | decide | omega)), (fun z => absurd z h9.1), fun _ => ⟨rfl, h9.2⟩⟩
    · refine gx_1f (c := .eq) rfl (by first | decide | omega) hc25 rfl ?_
      refine ex_go (S := (77, [(0, gx_r 0), (1, gx_r 8), (2, .inl 1), (3, .inl c), (4, .inl to)], [.inl 0], t123, n, 0)) rfl (fun _ => rfl) rfl ?_
      refine ex_go (S := (81, [(0, gx_r 0), (1, gx_r 8), (2, .inl 1), (3, .inl c), (4, .inl to)], [.inl 0], t123, n, 0)) rfl (fun _ => rfl) rfl ?_
      refine ex_ret (r := (some (.inl 0), t123, n, 0)) rfl (fun _ => rfl) ?_
      exact ⟨_, rfl, 0, _, rfl, g123, (fun c i h => e123 c i (by first | decide | omega)), (fun _ => ⟨rfl, (p123 (by first | decide | omega)).2⟩), fun z => absurd (p123 (by first | decide | omega)).1 z⟩
  · refine gx_1f (c := .ne) rfl (by first | decide | omega) hc22 rfl ?_
    refine ex_go (S := (56, [(0, gx_r 0), (1, gx_r 8), (2, .inl 1), (3, .inl c), (4, .inl to)], [.inl 4294967295], t0, n, 0)) rfl (fun _ => rfl) rfl ?_
    refine ex_ret (r := (some (.inl 4294967295), t0, n, 0)) rfl (fun _ => rfl) ?_
    exact absurd hc (by first | decide | omega)
theorem sc_act2_8_191 (d n : Nat) {t0 : en_H} {w : Nat → Nat → Nat} {L : List Nat} {σ : Nat → Nat} {c : Nat} (g0 : ai_HG ah_G t0) (hC : CW t0 191 w L) (hw : WS w) (hb : sbd σ) (hS : SC t0 8 (w 0 2) (w 0 4) σ) (k10 : ai_hv t0 0 10 = some (gx_r 191)) {v : Nat} (hsum : σ 7 + σ 8 ≤ 19998) (hv : v ≤ 999) (hc : c < w 0 4) : ∃ r, en_u (d + 5) 124 [gx_r 0, gx_r 8, .inl 2, .inl c, .inl v] t0 n = some r ∧ ∃ y t', r = (some (.inl y), t', n, 0) ∧ ai_HG ah_G t' ∧ (∀ c i, ¬ (10 ≤ c ∧ c ≤ 14) → ai_hv t' c i = ai_hv t0 c i) ∧ (mayL w σ c → y = lnv σ c v ∧ SC t' 8 (w 0 2) (w 0 4) (sgL σ c v)) ∧ (¬ mayL w σ c → y = 4294967295 ∧ t' = t0) := by
  have hK := hw.1.2.2.2.2.1
  refine en_u_ex (d := d + 4) rfl ?_
  show en_ex _ _ _ _ (0, [(0, gx_r 0), (1, gx_r 8), (2, .inl 2), (3, .inl c), (4, .inl v)], [], t0, n, 0) _
  refine ex_go (S := (1, [(0, gx_r 0), (1, gx_r 8), (2, .inl 2), (3, .inl c), (4, .inl v)], [.inl 2], t0, n, 0)) rfl (fun _ => rfl) rfl ?_
  refine ex_go (S := (41, [(0, gx_r 0), (1, gx_r 8), (2, .inl 2), (3, .inl c), (4, .inl v)], [], t0, n, 0)) rfl (fun _ => rfl) rfl ?_
  refine ex_go (S := (42, [(0, gx_r 0), (1, gx_r 8), (2, .inl 2), (3, .inl c), (4, .inl v)], [gx_r 0], t0, n, 0)) rfl (fun _ => rfl) rfl ?_
  refine gxo_get (a := 0) rfl g0 rfl rfl k10 rfl ?_
  refine gxo_ref (a := 191) (c := 206) rfl g0 rfl rfl rfl rfl rfl ?_
  refine ex_go (S := (49, [(0, gx_r 0), (1, gx_r 8), (2, .inl 2), (3, .inl c), (4, .inl v)], [.inl c, gx_r 206], t0, n, 0)) rfl (fun _ => rfl) rfl ?_
  obtain ⟨_, r121, b121, rfl, hb121, hi121⟩ := pz_holds206 (d + 3) n (x := c) (K := w 0 4) g0 (by first | decide | omega) hC.1.2.2.2.2.2 (by first | decide | omega)
  refine gx_callo (a := 206) rfl rfl g0 rfl rfl rfl r121 rfl ?_
  show en_ex _ _ _ _ (52, [(0, gx_r 0), (1, gx_r 8), (2, .inl 2), (3, .inl c), (4, .inl v)], [.inl b121], t0, n, 0) _
  by_cases hc22 : b121 ≠ 0
  · refine gx_1t (c := .ne) rfl (by first | decide | omega) hc22 rfl ?_
    refine ex_go (S := (58, [(0, gx_r 0), (1, gx_r 8), (2, .inl 2), (3, .inl c), (4, .inl v)], [.inl 2], t0, n, 0)) rfl (fun _ => rfl) rfl ?_
    refine ex_go (S := (59, [(0, gx_r 0), (1, gx_r 8), (2, .inl 2), (3, .inl c), (4, .inl v)], [.inl 1, .inl 2], t0, n, 0)) rfl (fun _ => rfl) rfl ?_
    refine ex_go (S := (82, [(0, gx_r 0), (1, gx_r 8), (2, .inl 2), (3, .inl c), (4, .inl v)], [], t0, n, 0)) rfl (fun _ => rfl) rfl ?_
    refine ex_go (S := (83, [(0, gx_r 0), (1, gx_r 8), (2, .inl 2), (3, .inl c), (4, .inl v)], [.inl 2], t0, n, 0)) rfl (fun _ => rfl) rfl ?_
    refine ex_go (S := (84, [(0, gx_r 0), (1, gx_r 8), (2, .inl 2), (3, .inl c), (4, .inl v)], [.inl 2, .inl 2], t0, n, 0)) rfl (fun _ => rfl) rfl ?_
    refine ex_go (S := (87, [(0, gx_r 0), (1, gx_r 8), (2, .inl 2), (3, .inl c), (4, .inl v)], [], t0, n, 0)) rfl (fun _ => rfl) rfl ?_
    refine ex_go (S := (88, [(0, gx_r 0), (1, gx_r 8), (2, .inl 2), (3, .inl c), (4, .inl v)], [gx_r 8], t0, n, 0)) rfl (fun _ => rfl) rfl ?_
    refine ex_go (S := (89, [(0, gx_r 0), (1, gx_r 8), (2, .inl 2), (3, .inl c), (4, .inl v)], [gx_r 0, gx_r 8], t0, n, 0)) rfl (fun _ => rfl) rfl ?_
    refine gxo_get (a := 0) rfl g0 rfl rfl k10 rfl ?_
    refine ex_go (S := (93, [(0, gx_r 0), (1, gx_r 8), (2, .inl 2), (3, .inl c), (4, .inl v)], [.inl c, gx_r 191, gx_r 8], t0, n, 0)) rfl (fun _ => rfl) rfl ?_
    refine ex_go (S := (95, [(0, gx_r 0), (1, gx_r 8), (2, .inl 2), (3, .inl c), (4, .inl v)], [.inl v, .inl c, gx_r 191, gx_r 8], t0, n, 0)) rfl (fun _ => rfl) rfl ?_
    obtain ⟨_, r123, y123, t123, rfl, g123, e123, p123, q123⟩ := sc_lb8_191 (d + 2) n g0 hC hw hb hS hsum hc hv
    refine gx_callo (a := 8) rfl rfl g0 rfl rfl rfl r123 rfl ?_
    have k24 : ai_hv t123 0 10 = some (gx_r 191) := (e123 0 10 (by first | decide | omega)).trans k10
    show en_ex _ _ _ _ (98, [(0, gx_r 0), (1, gx_r 8), (2, .inl 2), (3, .inl c), (4, .inl v)], [.inl y123], t123, n, 0) _
    refine ex_ret (r := (some (.inl y123), t123, n, 0)) rfl (fun _ => rfl) ?_
    exact ⟨_, rfl, _, _, rfl, g123, (fun c i h => e123 c i (by first | decide | omega)), p123, q123⟩
  · refine gx_1f (c := .ne) rfl (by first | decide | omega) hc22 rfl ?_
    refine ex_go (S := (56, [(0, gx_r 0), (1, gx_r 8), (2, .inl 2), (3, .inl c), (4, .inl v)], [.inl 4294967295], t0, n, 0)) rfl (fun _ => rfl) rfl ?_
    refine ex_ret (r := (some (.inl 4294967295), t0, n, 0)) rfl (fun _ => rfl) ?_
    exact absurd hc (by first | decide | omega)
theorem sc_act3_8_191 (d n : Nat) {t0 : en_H} {w : Nat → Nat → Nat} {L : List Nat} {σ : Nat → Nat} {c : Nat} (g0 : ai_HG ah_G t0) (hC : CW t0 191 w L) (hw : WS w) (hb : sbd σ) (hS : SC t0 8 (w 0 2) (w 0 4) σ) (k10 : ai_hv t0 0 10 = some (gx_r 191)) {to : Nat} (hc : c < w 0 4) : ∃ r, en_u (d + 5) 124 [gx_r 0, gx_r 8, .inl 3, .inl c, .inl to] t0 n = some r ∧ ∃ y t', r = (some (.inl y), t', n, 0) ∧ ai_HG ah_G t' ∧ (∀ c i, ¬ (10 ≤ c ∧ c ≤ 14) → ai_hv t' c i = ai_hv t0 c i) ∧ (mayM w σ c → y = 0 ∧ SC t' 8 (w 0 2) (w 0 4) (sgM' σ c)) ∧ (¬ mayM w σ c → y = 4294967295 ∧ t' = t0) := by
  have hK := hw.1.2.2.2.2.1
  refine en_u_ex (d := d + 4) rfl ?_
  show en_ex _ _ _ _ (0, [(0, gx_r 0), (1, gx_r 8), (2, .inl 3), (3, .inl c), (4, .inl to)], [], t0, n, 0) _
  refine ex_go (S := (1, [(0, gx_r 0), (1, gx_r 8), (2, .inl 3), (3, .inl c), (4, .inl to)], [.inl 3], t0, n, 0)) rfl (fun _ => rfl) rfl ?_
  refine ex_go (S := (41, [(0, gx_r 0), (1, gx_r 8), (2, .inl 3), (3, .inl c), (4, .inl to)], [], t0, n, 0)) rfl (fun _ => rfl) rfl ?_
  refine ex_go (S := (42, [(0, gx_r 0), (1, gx_r 8), (2, .inl 3), (3, .inl c), (4, .inl to)], [gx_r 0], t0, n, 0)) rfl (fun _ => rfl) rfl ?_
  refine gxo_get (a := 0) rfl g0 rfl rfl k10 rfl ?_
  refine gxo_ref (a := 191) (c := 206) rfl g0 rfl rfl rfl rfl rfl ?_
  refine ex_go (S := (49, [(0, gx_r 0), (1, gx_r 8), (2, .inl 3), (3, .inl c), (4, .inl to)], [.inl c, gx_r 206], t0, n, 0)) rfl (fun _ => rfl) rfl ?_
  obtain ⟨_, r121, b121, rfl, hb121, hi121⟩ := pz_holds206 (d + 3) n (x := c) (K := w 0 4) g0 (by first | decide | omega) hC.1.2.2.2.2.2 (by first | decide | omega)
  refine gx_callo (a := 206) rfl rfl g0 rfl rfl rfl r121 rfl ?_
  show en_ex _ _ _ _ (52, [(0, gx_r 0), (1, gx_r 8), (2, .inl 3), (3, .inl c), (4, .inl to)], [.inl b121], t0, n, 0) _
  by_cases hc22 : b121 ≠ 0
  · refine gx_1t (c := .ne) rfl (by first | decide | omega) hc22 rfl ?_
    refine ex_go (S := (58, [(0, gx_r 0), (1, gx_r 8), (2, .inl 3), (3, .inl c), (4, .inl to)], [.inl 3], t0, n, 0)) rfl (fun _ => rfl) rfl ?_
    refine ex_go (S := (59, [(0, gx_r 0), (1, gx_r 8), (2, .inl 3), (3, .inl c), (4, .inl to)], [.inl 1, .inl 3], t0, n, 0)) rfl (fun _ => rfl) rfl ?_
    refine ex_go (S := (82, [(0, gx_r 0), (1, gx_r 8), (2, .inl 3), (3, .inl c), (4, .inl to)], [], t0, n, 0)) rfl (fun _ => rfl) rfl ?_
    refine ex_go (S := (83, [(0, gx_r 0), (1, gx_r 8), (2, .inl 3), (3, .inl c), (4, .inl to)], [.inl 3], t0, n, 0)) rfl (fun _ => rfl) rfl ?_
    refine ex_go (S := (84, [(0, gx_r 0), (1, gx_r 8), (2, .inl 3), (3, .inl c), (4, .inl to)], [.inl 2, .inl 3], t0, n, 0)) rfl (fun _ => rfl) rfl ?_
    refine ex_go (S := (99, [(0, gx_r 0), (1, gx_r 8), (2, .inl 3), (3, .inl c), (4, .inl to)], [], t0, n, 0)) rfl (fun _ => rfl) rfl ?_
    refine ex_go (S := (100, [(0, gx_r 0), (1, gx_r 8), (2, .inl 3), (3, .inl c), (4, .inl to)], [gx_r 8], t0, n, 0)) rfl (fun _ => rfl) rfl ?_
    refine ex_go (S := (101, [(0, gx_r 0), (1, gx_r 8), (2, .inl 3), (3, .inl c), (4, .inl to)], [gx_r 0, gx_r 8], t0, n, 0)) rfl (fun _ => rfl) rfl ?_
    refine gxo_get (a := 0) rfl g0 rfl rfl k10 rfl ?_
    refine ex_go (S := (105, [(0, gx_r 0), (1, gx_r 8), (2, .inl 3), (3, .inl c), (4, .inl to)], [.inl c, gx_r 191, gx_r 8], t0, n, 0)) rfl (fun _ => rfl) rfl ?_
    obtain ⟨_, r123, y123, t123, rfl, g123, e123, hy123, p123, q123⟩ := sc_bi8_191 (d + 3) n g0 hC hw hb hS hc
    refine gx_callo (a := 8) rfl rfl g0 rfl rfl rfl r123 rfl ?_
    have k24 : ai_hv t123 0 10 = some (gx_r 191) := (e123 0 10 (by first | decide | omega)).trans k10
    show en_ex _ _ _ _ (108, [(0, gx_r 0), (1, gx_r 8), (2, .inl 3), (3, .inl c), (4, .inl to)], [.inl y123], t123, n, 0) _
    by_cases hc25 : y123 = 0
    · refine gx_1t (c := .eq) rfl (by first | decide | omega) hc25 rfl ?_
      refine ex_go (S := (116, [(0, gx_r 0), (1, gx_r 8), (2, .inl 3), (3, .inl c), (4, .inl to)], [.inl 4294967295], t123, n, 0)) rfl (fun _ => rfl) rfl ?_
      refine ex_ret (r := (some (.inl 4294967295), t123, n, 0)) rfl (fun _ => rfl) ?_
      have h9 := q123 (by first | decide | omega)
      exact ⟨_, rfl, _, _, rfl, g123, (fun c i h => e123 c i (by first | decide | omega)), (fun z => absurd z h9.1), fun _ => ⟨rfl, h9.2⟩⟩
    · refine gx_1f (c := .eq) rfl (by first | decide | omega) hc25 rfl ?_
      refine ex_go (S := (112, [(0, gx_r 0), (1, gx_r 8), (2, .inl 3), (3, .inl c), (4, .inl to)], [.inl 0], t123, n, 0)) rfl (fun _ => rfl) rfl ?_
      refine ex_go (S := (116, [(0, gx_r 0), (1, gx_r 8), (2, .inl 3), (3, .inl c), (4, .inl to)], [.inl 0], t123, n, 0)) rfl (fun _ => rfl) rfl ?_
      refine ex_ret (r := (some (.inl 0), t123, n, 0)) rfl (fun _ => rfl) ?_
      exact ⟨_, rfl, 0, _, rfl, g123, (fun c i h => e123 c i (by first | decide | omega)), (fun _ => ⟨rfl, (p123 (by first | decide | omega)).2⟩), fun z => absurd (p123 (by first | decide | omega)).1 z⟩
  · refine gx_1f (c := .ne) rfl (by first | decide | omega) hc22 rfl ?_
    refine ex_go (S := (56, [(0, gx_r 0), (1, gx_r 8), (2, .inl 3), (3, .inl c), (4, .inl to)], [.inl 4294967295], t0, n, 0)) rfl (fun _ => rfl) rfl ?_
    refine ex_ret (r := (some (.inl 4294967295), t0, n, 0)) rfl (fun _ => rfl) ?_
    exact absurd hc (by first | decide | omega)
theorem sc_by1_191 (d n : Nat) {t0 : en_H} {w : Nat → Nat → Nat} {L : List Nat} {σ F v : Nat → Nat} {τ μ : Nat → Nat → Nat} {u q : Nat} {c : Nat} (g0 : ai_HG ah_G t0) (hC : CW t0 191 w L) (hw : WS w) (hb : sbd σ) (k10 : ai_hv t0 0 10 = some (gx_r 191)) (hS : CS t0 (w 0 2) (w 0 4) σ u τ F μ q v) (hu : u ≤ 16) {to : Nat} (hX : CX t0 191 w) (hB : σ 0 ≤ 900000) (ht : to < 64) (hc : c < w 0 4) : ∃ r, en_u (d + 6) 114 [gx_r 0, .inl 1, .inl c, .inl to] t0 n = some r ∧ ∃ y t', r = (some (.inl y), t', n, 0) ∧ ai_HG ah_G t' ∧ (∀ c i, ¬ (c = 231 ∨ (8 ≤ c ∧ c ≤ 21) ∨ (c = 22 ∧ 1 ≤ i) ∨ (24 ≤ c ∧ c ≤ 135)) → ai_hv t' c i = ai_hv t0 c i) ∧ (mayH w σ c to → y = 0 ∧ CS t' (w 0 2) (w 0 4) (sgH σ c to) (kpu u) (kpt u σ τ) F μ q v) ∧ (¬ mayH w σ c to → y = 4294967295 ∧ CS t' (w 0 2) (w 0 4) σ u τ F μ q v) := by
  have hS0 := hS
  obtain ⟨hS8, hq, ⟨o, ho, ko, ku, hτ⟩, hm⟩ := hS
  refine en_u_ex (d := d + 5) rfl ?_
  show en_ex _ _ _ _ (0, [(0, gx_r 0), (1, .inl 1), (2, .inl c), (3, .inl to)], [], t0, n, 0) _
  refine ex_go (S := (1, [(0, gx_r 0), (1, .inl 1), (2, .inl c), (3, .inl to)], [gx_r 0], t0, n, 0)) rfl (fun _ => rfl) rfl ?_
  refine gxo_ref (a := 0) (c := 15) rfl g0 rfl rfl rfl rfl rfl ?_
  refine ex_go (S := (5, [(0, gx_r 0), (1, .inl 1), (2, .inl c), (3, .inl to)], [gx_r 0, gx_r 15], t0, n, 0)) rfl (fun _ => rfl) rfl ?_
  refine gxo_ref (a := 0) (c := 8) rfl g0 rfl rfl rfl rfl rfl ?_
  obtain ⟨_, r121, t121, rfl, g121, e121, y121a, y121b, y121c⟩ := sc_take (d + 4) n (A := 15) (B := 8) g0 StA_15 StA_8 (by unfold StD; omega)
  refine gx_callo (a := 15) rfl rfl g0 rfl rfl rfl r121 rfl ?_
  have k22 : ai_hv t121 0 10 = some (gx_r 191) := (e121 0 10 (by first | decide | omega)).trans k10
  show en_ex _ _ _ _ (11, [(0, gx_r 0), (1, .inl 1), (2, .inl c), (3, .inl to)], [], t121, n, 0) _
  refine ex_go (S := (12, [(0, gx_r 0), (1, .inl 1), (2, .inl c), (3, .inl to)], [gx_r 0], t121, n, 0)) rfl (fun _ => rfl) rfl ?_
  refine ex_go (S := (13, [(0, gx_r 0), (1, .inl 1), (2, .inl c), (3, .inl to)], [gx_r 0, gx_r 0], t121, n, 0)) rfl (fun _ => rfl) rfl ?_
  refine gxo_ref (a := 0) (c := 8) rfl g121 rfl rfl rfl rfl rfl ?_
  refine ex_go (S := (17, [(0, gx_r 0), (1, .inl 1), (2, .inl c), (3, .inl to)], [.inl 1, gx_r 8, gx_r 0], t121, n, 0)) rfl (fun _ => rfl) rfl ?_
  refine ex_go (S := (18, [(0, gx_r 0), (1, .inl 1), (2, .inl c), (3, .inl to)], [.inl c, .inl 1, gx_r 8, gx_r 0], t121, n, 0)) rfl (fun _ => rfl) rfl ?_
  refine ex_go (S := (19, [(0, gx_r 0), (1, .inl 1), (2, .inl c), (3, .inl to)], [.inl to, .inl c, .inl 1, gx_r 8, gx_r 0], t121, n, 0)) rfl (fun _ => rfl) rfl ?_
  obtain ⟨_, r123, y123, t123, rfl, g123, e123, p123, q123⟩ := sc_act1_8_191 d n (σ := σ) (c := c) (to := to) g121 (CW_keep hC (fun c i h => e121 c i (by first | decide | omega))) hw hb (SC_keep hS8 (fun c i h1 h2 => e121 c i (by first | decide | omega))) ((e121 0 10 (by first | decide | omega)).trans (k10)) (CX_keep hX (fun c i h => e121 c i (by first | decide | omega))) hB ht hc
  refine gx_callo (a := 0) rfl rfl g121 rfl rfl rfl r123 rfl ?_
  have k24 : ai_hv t123 0 10 = some (gx_r 191) := (e123 0 10 (by first | decide | omega)).trans k22
  show en_ex _ _ _ _ (22, [(0, gx_r 0), (1, .inl 1), (2, .inl c), (3, .inl to)], [.inl y123], t123, n, 0) _
  refine ex_go (S := (24, [(4, .inl y123), (0, gx_r 0), (1, .inl 1), (2, .inl c), (3, .inl to)], [], t123, n, 0)) rfl (fun _ => rfl) rfl ?_
  by_cases hc9 : mayH w σ c to
  · obtain ⟨hy9, hs9⟩ := p123 hc9
    refine ex_go (S := (26, [(4, .inl y123), (0, gx_r 0), (1, .inl 1), (2, .inl c), (3, .inl to)], [.inl y123], t123, n, 0)) rfl (fun _ => rfl) rfl ?_
    refine ex_go (S := (27, [(4, .inl y123), (0, gx_r 0), (1, .inl 1), (2, .inl c), (3, .inl to)], [.inl 4294967295, .inl y123], t123, n, 0)) rfl (fun _ => rfl) rfl ?_
    refine gx_2mf (c := .eq) rfl (by first | decide | omega) rfl rfl ?_
    show en_ex _ _ _ _ (30, [(4, .inl y123), (0, gx_r 0), (1, .inl 1), (2, .inl c), (3, .inl to)], [], t123, n, 0) _
    refine ex_go (S := (31, [(4, .inl y123), (0, gx_r 0), (1, .inl 1), (2, .inl c), (3, .inl to)], [gx_r 0], t123, n, 0)) rfl (fun _ => rfl) rfl ?_
    refine gxo_ref (a := 0) (c := 22) rfl g123 rfl rfl rfl rfl rfl ?_
    refine ex_go (S := (35, [(4, .inl y123), (0, gx_r 0), (1, .inl 1), (2, .inl c), (3, .inl to)], [gx_r 0, gx_r 22], t123, n, 0)) rfl (fun _ => rfl) rfl ?_
    refine gxo_ref (a := 0) (c := 15) rfl g123 rfl rfl rfl rfl rfl ?_
    obtain ⟨_, r125, t125, rfl, g125, e125, o125, ho125, ka125, kb125, kc125⟩ := sc_keep (d + 3) n (u := u) (o := o) (T := w 0 2) (K := w 0 4) (σ := σ) (τ := τ) g123 hu ho hw.1.2.2.1 hw.1.2.2.2.2.1 ((e123 22 2 (by first | decide | omega)).trans ((e121 22 2 (by first | decide | omega)).trans (ku))) ((e123 22 1 (by first | decide | omega)).trans ((e121 22 1 (by first | decide | omega)).trans (ko))) (SC_keep (SC_take hS8 hw.1.2.2.1 hw.1.2.2.2.2.1 y121a y121b y121c) (fun c i h1 h2 => e123 c i (by first | decide | omega))) (fun k hk => SC_keep (hτ k hk) (fun c i h1 h2 => (e123 c i (by first | decide | omega)).trans (e121 c i (by first | decide | omega))))
    refine gx_callo (a := 22) rfl rfl g123 rfl rfl rfl r125 rfl ?_
    have k26 : ai_hv t125 0 10 = some (gx_r 191) := (e125 0 10 (by first | decide | omega)).trans k24
    show en_ex _ _ _ _ (41, [(4, .inl y123), (0, gx_r 0), (1, .inl 1), (2, .inl c), (3, .inl to)], [], t125, n, 0) _
    refine ex_go (S := (43, [(4, .inl y123), (0, gx_r 0), (1, .inl 1), (2, .inl c), (3, .inl to)], [.inl y123], t125, n, 0)) rfl (fun _ => rfl) rfl ?_
    refine ex_ret (r := (some (.inl y123), t125, n, 0)) rfl (fun _ => rfl) ?_
    exact ⟨_, rfl, _, t125, rfl, g125, (fun c i h => (e125 c i (by first | decide | omega)).trans ((e123 c i (by first | decide | omega)).trans (e121 c i (by first | decide | omega)))), (fun _ => ⟨hy9, CS_new hS0 (SC_keep hs9 (fun c i h1 h2 => e125 c i (by first | decide | omega))) ⟨o125, ho125, ka125, kb125, kc125⟩ (fun c i h => (e125 c i (by first | decide | omega)).trans ((e123 c i (by first | decide | omega)).trans (e121 c i (by first | decide | omega))))⟩), fun z => absurd hc9 z⟩
  · obtain ⟨hy9, hs9⟩ := q123 hc9
    refine ex_go (S := (26, [(4, .inl y123), (0, gx_r 0), (1, .inl 1), (2, .inl c), (3, .inl to)], [.inl y123], t123, n, 0)) rfl (fun _ => rfl) rfl ?_
    refine ex_go (S := (27, [(4, .inl y123), (0, gx_r 0), (1, .inl 1), (2, .inl c), (3, .inl to)], [.inl 4294967295, .inl y123], t123, n, 0)) rfl (fun _ => rfl) rfl ?_
    refine gs_same rfl (by first | decide | omega) rfl ?_
    show en_ex _ _ _ _ (41, [(4, .inl y123), (0, gx_r 0), (1, .inl 1), (2, .inl c), (3, .inl to)], [], t123, n, 0) _
    refine ex_go (S := (43, [(4, .inl y123), (0, gx_r 0), (1, .inl 1), (2, .inl c), (3, .inl to)], [.inl y123], t123, n, 0)) rfl (fun _ => rfl) rfl ?_
    refine ex_ret (r := (some (.inl y123), t123, n, 0)) rfl (fun _ => rfl) ?_
    exact ⟨_, rfl, _, t123, rfl, g123, (fun c i h => (e123 c i (by first | decide | omega)).trans (e121 c i (by first | decide | omega))), (fun z => absurd z hc9), fun _ => ⟨hy9, by rw [hs9]; exact CS_keep hS0 (fun c i h => by unfold CSC at h; exact e121 c i (by first | decide | omega))⟩⟩
theorem sc_by2_191 (d n : Nat) {t0 : en_H} {w : Nat → Nat → Nat} {L : List Nat} {σ F v : Nat → Nat} {τ μ : Nat → Nat → Nat} {u q : Nat} {c : Nat} (g0 : ai_HG ah_G t0) (hC : CW t0 191 w L) (hw : WS w) (hb : sbd σ) (k10 : ai_hv t0 0 10 = some (gx_r 191)) (hS : CS t0 (w 0 2) (w 0 4) σ u τ F μ q v) (hu : u ≤ 16) {x : Nat} (hsum : σ 7 + σ 8 ≤ 19998) (hx : x ≤ 999) (hc : c < w 0 4) : ∃ r, en_u (d + 6) 114 [gx_r 0, .inl 2, .inl c, .inl x] t0 n = some r ∧ ∃ y t', r = (some (.inl y), t', n, 0) ∧ ai_HG ah_G t' ∧ (∀ c i, ¬ (c = 231 ∨ (8 ≤ c ∧ c ≤ 21) ∨ (c = 22 ∧ 1 ≤ i) ∨ (24 ≤ c ∧ c ≤ 135)) → ai_hv t' c i = ai_hv t0 c i) ∧ (mayL w σ c → y = lnv σ c x ∧ CS t' (w 0 2) (w 0 4) (sgL σ c x) (kpu u) (kpt u σ τ) F μ q v) ∧ (¬ mayL w σ c → y = 4294967295 ∧ CS t' (w 0 2) (w 0 4) σ u τ F μ q v) := by
  have hS0 := hS
  obtain ⟨hS8, hq, ⟨o, ho, ko, ku, hτ⟩, hm⟩ := hS
  refine en_u_ex (d := d + 5) rfl ?_
  show en_ex _ _ _ _ (0, [(0, gx_r 0), (1, .inl 2), (2, .inl c), (3, .inl x)], [], t0, n, 0) _
  refine ex_go (S := (1, [(0, gx_r 0), (1, .inl 2), (2, .inl c), (3, .inl x)], [gx_r 0], t0, n, 0)) rfl (fun _ => rfl) rfl ?_
  refine gxo_ref (a := 0) (c := 15) rfl g0 rfl rfl rfl rfl rfl ?_
  refine ex_go (S := (5, [(0, gx_r 0), (1, .inl 2), (2, .inl c), (3, .inl x)], [gx_r 0, gx_r 15], t0, n, 0)) rfl (fun _ => rfl) rfl ?_
  refine gxo_ref (a := 0) (c := 8) rfl g0 rfl rfl rfl rfl rfl ?_
  obtain ⟨_, r121, t121, rfl, g121, e121, y121a, y121b, y121c⟩ := sc_take (d + 4) n (A := 15) (B := 8) g0 StA_15 StA_8 (by unfold StD; omega)
  refine gx_callo (a := 15) rfl rfl g0 rfl rfl rfl r121 rfl ?_
  have k22 : ai_hv t121 0 10 = some (gx_r 191) := (e121 0 10 (by first | decide | omega)).trans k10
  show en_ex _ _ _ _ (11, [(0, gx_r 0), (1, .inl 2), (2, .inl c), (3, .inl x)], [], t121, n, 0) _
  refine ex_go (S := (12, [(0, gx_r 0), (1, .inl 2), (2, .inl c), (3, .inl x)], [gx_r 0], t121, n, 0)) rfl (fun _ => rfl) rfl ?_
  refine ex_go (S := (13, [(0, gx_r 0), (1, .inl 2), (2, .inl c), (3, .inl x)], [gx_r 0, gx_r 0], t121, n, 0)) rfl (fun _ => rfl) rfl ?_
  refine gxo_ref (a := 0) (c := 8) rfl g121 rfl rfl rfl rfl rfl ?_
  refine ex_go (S := (17, [(0, gx_r 0), (1, .inl 2), (2, .inl c), (3, .inl x)], [.inl 2, gx_r 8, gx_r 0], t121, n, 0)) rfl (fun _ => rfl) rfl ?_
  refine ex_go (S := (18, [(0, gx_r 0), (1, .inl 2), (2, .inl c), (3, .inl x)], [.inl c, .inl 2, gx_r 8, gx_r 0], t121, n, 0)) rfl (fun _ => rfl) rfl ?_
  refine ex_go (S := (19, [(0, gx_r 0), (1, .inl 2), (2, .inl c), (3, .inl x)], [.inl x, .inl c, .inl 2, gx_r 8, gx_r 0], t121, n, 0)) rfl (fun _ => rfl) rfl ?_
  obtain ⟨_, r123, y123, t123, rfl, g123, e123, p123, q123⟩ := sc_act2_8_191 d n (σ := σ) (c := c) (v := x) g121 (CW_keep hC (fun c i h => e121 c i (by first | decide | omega))) hw hb (SC_keep hS8 (fun c i h1 h2 => e121 c i (by first | decide | omega))) ((e121 0 10 (by first | decide | omega)).trans (k10)) hsum hx hc
  refine gx_callo (a := 0) rfl rfl g121 rfl rfl rfl r123 rfl ?_
  have k24 : ai_hv t123 0 10 = some (gx_r 191) := (e123 0 10 (by first | decide | omega)).trans k22
  show en_ex _ _ _ _ (22, [(0, gx_r 0), (1, .inl 2), (2, .inl c), (3, .inl x)], [.inl y123], t123, n, 0) _
  refine ex_go (S := (24, [(4, .inl y123), (0, gx_r 0), (1, .inl 2), (2, .inl c), (3, .inl x)], [], t123, n, 0)) rfl (fun _ => rfl) rfl ?_
  by_cases hc9 : mayL w σ c
  · obtain ⟨hy9, hs9⟩ := p123 hc9
    have hln : lnv σ c x ≤ 999 := Nat.le_trans (Nat.min_le_left _ _) hx
    refine ex_go (S := (26, [(4, .inl y123), (0, gx_r 0), (1, .inl 2), (2, .inl c), (3, .inl x)], [.inl y123], t123, n, 0)) rfl (fun _ => rfl) rfl ?_
    refine ex_go (S := (27, [(4, .inl y123), (0, gx_r 0), (1, .inl 2), (2, .inl c), (3, .inl x)], [.inl 4294967295, .inl y123], t123, n, 0)) rfl (fun _ => rfl) rfl ?_
    refine gx_2mf (c := .eq) rfl (by first | decide | omega) rfl rfl ?_
    show en_ex _ _ _ _ (30, [(4, .inl y123), (0, gx_r 0), (1, .inl 2), (2, .inl c), (3, .inl x)], [], t123, n, 0) _
    refine ex_go (S := (31, [(4, .inl y123), (0, gx_r 0), (1, .inl 2), (2, .inl c), (3, .inl x)], [gx_r 0], t123, n, 0)) rfl (fun _ => rfl) rfl ?_
    refine gxo_ref (a := 0) (c := 22) rfl g123 rfl rfl rfl rfl rfl ?_
    refine ex_go (S := (35, [(4, .inl y123), (0, gx_r 0), (1, .inl 2), (2, .inl c), (3, .inl x)], [gx_r 0, gx_r 22], t123, n, 0)) rfl (fun _ => rfl) rfl ?_
    refine gxo_ref (a := 0) (c := 15) rfl g123 rfl rfl rfl rfl rfl ?_
    obtain ⟨_, r125, t125, rfl, g125, e125, o125, ho125, ka125, kb125, kc125⟩ := sc_keep (d + 3) n (u := u) (o := o) (T := w 0 2) (K := w 0 4) (σ := σ) (τ := τ) g123 hu ho hw.1.2.2.1 hw.1.2.2.2.2.1 ((e123 22 2 (by first | decide | omega)).trans ((e121 22 2 (by first | decide | omega)).trans (ku))) ((e123 22 1 (by first | decide | omega)).trans ((e121 22 1 (by first | decide | omega)).trans (ko))) (SC_keep (SC_take hS8 hw.1.2.2.1 hw.1.2.2.2.2.1 y121a y121b y121c) (fun c i h1 h2 => e123 c i (by first | decide | omega))) (fun k hk => SC_keep (hτ k hk) (fun c i h1 h2 => (e123 c i (by first | decide | omega)).trans (e121 c i (by first | decide | omega))))
    refine gx_callo (a := 22) rfl rfl g123 rfl rfl rfl r125 rfl ?_
    have k26 : ai_hv t125 0 10 = some (gx_r 191) := (e125 0 10 (by first | decide | omega)).trans k24
    show en_ex _ _ _ _ (41, [(4, .inl y123), (0, gx_r 0), (1, .inl 2), (2, .inl c), (3, .inl x)], [], t125, n, 0) _
    refine ex_go (S := (43, [(4, .inl y123), (0, gx_r 0), (1, .inl 2), (2, .inl c), (3, .inl x)], [.inl y123], t125, n, 0)) rfl (fun _ => rfl) rfl ?_
    refine ex_ret (r := (some (.inl y123), t125, n, 0)) rfl (fun _ => rfl) ?_
    exact ⟨_, rfl, _, t125, rfl, g125, (fun c i h => (e125 c i (by first | decide | omega)).trans ((e123 c i (by first | decide | omega)).trans (e121 c i (by first | decide | omega)))), (fun _ => ⟨hy9, CS_new hS0 (SC_keep hs9 (fun c i h1 h2 => e125 c i (by first | decide | omega))) ⟨o125, ho125, ka125, kb125, kc125⟩ (fun c i h => (e125 c i (by first | decide | omega)).trans ((e123 c i (by first | decide | omega)).trans (e121 c i (by first | decide | omega))))⟩), fun z => absurd hc9 z⟩
  · obtain ⟨hy9, hs9⟩ := q123 hc9
    refine ex_go (S := (26, [(4, .inl y123), (0, gx_r 0), (1, .inl 2), (2, .inl c), (3, .inl x)], [.inl y123], t123, n, 0)) rfl (fun _ => rfl) rfl ?_
    refine ex_go (S := (27, [(4, .inl y123), (0, gx_r 0), (1, .inl 2), (2, .inl c), (3, .inl x)], [.inl 4294967295, .inl y123], t123, n, 0)) rfl (fun _ => rfl) rfl ?_
    refine gs_same rfl (by first | decide | omega) rfl ?_
    show en_ex _ _ _ _ (41, [(4, .inl y123), (0, gx_r 0), (1, .inl 2), (2, .inl c), (3, .inl x)], [], t123, n, 0) _
    refine ex_go (S := (43, [(4, .inl y123), (0, gx_r 0), (1, .inl 2), (2, .inl c), (3, .inl x)], [.inl y123], t123, n, 0)) rfl (fun _ => rfl) rfl ?_
    refine ex_ret (r := (some (.inl y123), t123, n, 0)) rfl (fun _ => rfl) ?_
    exact ⟨_, rfl, _, t123, rfl, g123, (fun c i h => (e123 c i (by first | decide | omega)).trans (e121 c i (by first | decide | omega))), (fun z => absurd z hc9), fun _ => ⟨hy9, by rw [hs9]; exact CS_keep hS0 (fun c i h => by unfold CSC at h; exact e121 c i (by first | decide | omega))⟩⟩
theorem sc_by3_191 (d n : Nat) {t0 : en_H} {w : Nat → Nat → Nat} {L : List Nat} {σ F v : Nat → Nat} {τ μ : Nat → Nat → Nat} {u q : Nat} {c : Nat} (g0 : ai_HG ah_G t0) (hC : CW t0 191 w L) (hw : WS w) (hb : sbd σ) (k10 : ai_hv t0 0 10 = some (gx_r 191)) (hS : CS t0 (w 0 2) (w 0 4) σ u τ F μ q v) (hu : u ≤ 16) {to : Nat} (hc : c < w 0 4) : ∃ r, en_u (d + 6) 114 [gx_r 0, .inl 3, .inl c, .inl to] t0 n = some r ∧ ∃ y t', r = (some (.inl y), t', n, 0) ∧ ai_HG ah_G t' ∧ (∀ c i, ¬ (c = 231 ∨ (8 ≤ c ∧ c ≤ 21) ∨ (c = 22 ∧ 1 ≤ i) ∨ (24 ≤ c ∧ c ≤ 135)) → ai_hv t' c i = ai_hv t0 c i) ∧ (mayM w σ c → y = 0 ∧ CS t' (w 0 2) (w 0 4) (sgM' σ c) (kpu u) (kpt u σ τ) F μ q v) ∧ (¬ mayM w σ c → y = 4294967295 ∧ CS t' (w 0 2) (w 0 4) σ u τ F μ q v) := by
  have hS0 := hS
  obtain ⟨hS8, hq, ⟨o, ho, ko, ku, hτ⟩, hm⟩ := hS
  refine en_u_ex (d := d + 5) rfl ?_
  show en_ex _ _ _ _ (0, [(0, gx_r 0), (1, .inl 3), (2, .inl c), (3, .inl to)], [], t0, n, 0) _
  refine ex_go (S := (1, [(0, gx_r 0), (1, .inl 3), (2, .inl c), (3, .inl to)], [gx_r 0], t0, n, 0)) rfl (fun _ => rfl) rfl ?_
  refine gxo_ref (a := 0) (c := 15) rfl g0 rfl rfl rfl rfl rfl ?_
  refine ex_go (S := (5, [(0, gx_r 0), (1, .inl 3), (2, .inl c), (3, .inl to)], [gx_r 0, gx_r 15], t0, n, 0)) rfl (fun _ => rfl) rfl ?_
  refine gxo_ref (a := 0) (c := 8) rfl g0 rfl rfl rfl rfl rfl ?_
  obtain ⟨_, r121, t121, rfl, g121, e121, y121a, y121b, y121c⟩ := sc_take (d + 4) n (A := 15) (B := 8) g0 StA_15 StA_8 (by unfold StD; omega)
  refine gx_callo (a := 15) rfl rfl g0 rfl rfl rfl r121 rfl ?_
  have k22 : ai_hv t121 0 10 = some (gx_r 191) := (e121 0 10 (by first | decide | omega)).trans k10
  show en_ex _ _ _ _ (11, [(0, gx_r 0), (1, .inl 3), (2, .inl c), (3, .inl to)], [], t121, n, 0) _
  refine ex_go (S := (12, [(0, gx_r 0), (1, .inl 3), (2, .inl c), (3, .inl to)], [gx_r 0], t121, n, 0)) rfl (fun _ => rfl) rfl ?_
  refine ex_go (S := (13, [(0, gx_r 0), (1, .inl 3), (2, .inl c), (3, .inl to)], [gx_r 0, gx_r 0], t121, n, 0)) rfl (fun _ => rfl) rfl ?_
  refine gxo_ref (a := 0) (c := 8) rfl g121 rfl rfl rfl rfl rfl ?_
  refine ex_go (S := (17, [(0, gx_r 0), (1, .inl 3), (2, .inl c), (3, .inl to)], [.inl 3, gx_r 8, gx_r 0], t121, n, 0)) rfl (fun _ => rfl) rfl ?_
  refine ex_go (S := (18, [(0, gx_r 0), (1, .inl 3), (2, .inl c), (3, .inl to)], [.inl c, .inl 3, gx_r 8, gx_r 0], t121, n, 0)) rfl (fun _ => rfl) rfl ?_
  refine ex_go (S := (19, [(0, gx_r 0), (1, .inl 3), (2, .inl c), (3, .inl to)], [.inl to, .inl c, .inl 3, gx_r 8, gx_r 0], t121, n, 0)) rfl (fun _ => rfl) rfl ?_
  obtain ⟨_, r123, y123, t123, rfl, g123, e123, p123, q123⟩ := sc_act3_8_191 d n (σ := σ) (c := c) (to := to) g121 (CW_keep hC (fun c i h => e121 c i (by first | decide | omega))) hw hb (SC_keep hS8 (fun c i h1 h2 => e121 c i (by first | decide | omega))) ((e121 0 10 (by first | decide | omega)).trans (k10)) hc
  refine gx_callo (a := 0) rfl rfl g121 rfl rfl rfl r123 rfl ?_
  have k24 : ai_hv t123 0 10 = some (gx_r 191) := (e123 0 10 (by first | decide | omega)).trans k22
  show en_ex _ _ _ _ (22, [(0, gx_r 0), (1, .inl 3), (2, .inl c), (3, .inl to)], [.inl y123], t123, n, 0) _
  refine ex_go (S := (24, [(4, .inl y123), (0, gx_r 0), (1, .inl 3), (2, .inl c), (3, .inl to)], [], t123, n, 0)) rfl (fun _ => rfl) rfl ?_
  by_cases hc9 : mayM w σ c
  · obtain ⟨hy9, hs9⟩ := p123 hc9
    refine ex_go (S := (26, [(4, .inl y123), (0, gx_r 0), (1, .inl 3), (2, .inl c), (3, .inl to)], [.inl y123], t123, n, 0)) rfl (fun _ => rfl) rfl ?_
    refine ex_go (S := (27, [(4, .inl y123), (0, gx_r 0), (1, .inl 3), (2, .inl c), (3, .inl to)], [.inl 4294967295, .inl y123], t123, n, 0)) rfl (fun _ => rfl) rfl ?_
    refine gx_2mf (c := .eq) rfl (by first | decide | omega) rfl rfl ?_
    show en_ex _ _ _ _ (30, [(4, .inl y123), (0, gx_r 0), (1, .inl 3), (2, .inl c), (3, .inl to)], [], t123, n, 0) _
    refine ex_go (S := (31, [(4, .inl y123), (0, gx_r 0), (1, .inl 3), (2, .inl c), (3, .inl to)], [gx_r 0], t123, n, 0)) rfl (fun _ => rfl) rfl ?_
    refine gxo_ref (a := 0) (c := 22) rfl g123 rfl rfl rfl rfl rfl ?_
    refine ex_go (S := (35, [(4, .inl y123), (0, gx_r 0), (1, .inl 3), (2, .inl c), (3, .inl to)], [gx_r 0, gx_r 22], t123, n, 0)) rfl (fun _ => rfl) rfl ?_
    refine gxo_ref (a := 0) (c := 15) rfl g123 rfl rfl rfl rfl rfl ?_
    obtain ⟨_, r125, t125, rfl, g125, e125, o125, ho125, ka125, kb125, kc125⟩ := sc_keep (d + 3) n (u := u) (o := o) (T := w 0 2) (K := w 0 4) (σ := σ) (τ := τ) g123 hu ho hw.1.2.2.1 hw.1.2.2.2.2.1 ((e123 22 2 (by first | decide | omega)).trans ((e121 22 2 (by first | decide | omega)).trans (ku))) ((e123 22 1 (by first | decide | omega)).trans ((e121 22 1 (by first | decide | omega)).trans (ko))) (SC_keep (SC_take hS8 hw.1.2.2.1 hw.1.2.2.2.2.1 y121a y121b y121c) (fun c i h1 h2 => e123 c i (by first | decide | omega))) (fun k hk => SC_keep (hτ k hk) (fun c i h1 h2 => (e123 c i (by first | decide | omega)).trans (e121 c i (by first | decide | omega))))
    refine gx_callo (a := 22) rfl rfl g123 rfl rfl rfl r125 rfl ?_
    have k26 : ai_hv t125 0 10 = some (gx_r 191) := (e125 0 10 (by first | decide | omega)).trans k24
    show en_ex _ _ _ _ (41, [(4, .inl y123), (0, gx_r 0), (1, .inl 3), (2, .inl c), (3, .inl to)], [], t125, n, 0) _
    refine ex_go (S := (43, [(4, .inl y123), (0, gx_r 0), (1, .inl 3), (2, .inl c), (3, .inl to)], [.inl y123], t125, n, 0)) rfl (fun _ => rfl) rfl ?_
    refine ex_ret (r := (some (.inl y123), t125, n, 0)) rfl (fun _ => rfl) ?_
    exact ⟨_, rfl, _, t125, rfl, g125, (fun c i h => (e125 c i (by first | decide | omega)).trans ((e123 c i (by first | decide | omega)).trans (e121 c i (by first | decide | omega)))), (fun _ => ⟨hy9, CS_new hS0 (SC_keep hs9 (fun c i h1 h2 => e125 c i (by first | decide | omega))) ⟨o125, ho125, ka125, kb125, kc125⟩ (fun c i h => (e125 c i (by first | decide | omega)).trans ((e123 c i (by first | decide | omega)).trans (e121 c i (by first | decide | omega))))⟩), fun z => absurd hc9 z⟩
  · obtain ⟨hy9, hs9⟩ := q123 hc9
    refine ex_go (S := (26, [(4, .inl y123), (0, gx_r 0), (1, .inl 3), (2, .inl c), (3, .inl to)], [.inl y123], t123, n, 0)) rfl (fun _ => rfl) rfl ?_
    refine ex_go (S := (27, [(4, .inl y123), (0, gx_r 0), (1, .inl 3), (2, .inl c), (3, .inl to)], [.inl 4294967295, .inl y123], t123, n, 0)) rfl (fun _ => rfl) rfl ?_
    refine gs_same rfl (by first | decide | omega) rfl ?_
    show en_ex _ _ _ _ (41, [(4, .inl y123), (0, gx_r 0), (1, .inl 3), (2, .inl c), (3, .inl to)], [], t123, n, 0) _
    refine ex_go (S := (43, [(4, .inl y123), (0, gx_r 0), (1, .inl 3), (2, .inl c), (3, .inl to)], [.inl y123], t123, n, 0)) rfl (fun _ => rfl) rfl ?_
    refine ex_ret (r := (some (.inl y123), t123, n, 0)) rfl (fun _ => rfl) ?_
    exact ⟨_, rfl, _, t123, rfl, g123, (fun c i h => (e123 c i (by first | decide | omega)).trans (e121 c i (by first | decide | omega))), (fun z => absurd z hc9), fun _ => ⟨hy9, by rw [hs9]; exact CS_keep hS0 (fun c i h => by unfold CSC at h; exact e121 c i (by first | decide | omega))⟩⟩
theorem sc_haul191 (d n : Nat) {t0 : en_H} {w : Nat → Nat → Nat} {L : List Nat} {σ F v : Nat → Nat} {τ μ : Nat → Nat → Nat} {u q : Nat} {c x y : Nat} (g0 : ai_HG ah_G t0) (hC : CW t0 191 w L) (hw : WS w) (hb : sbd σ) (k10 : ai_hv t0 0 10 = some (gx_r 191)) (hS : CS t0 (w 0 2) (w 0 4) σ u τ F μ q v) (hu : u ≤ 16) (hX : CX t0 191 w) (hB : σ 0 ≤ 900000) (hc : c < 4294967296) (hx : x < 4294967296) (hy : y < 4294967296) : ∃ r, en_u (d + 7) 44 [gx_r 0, .inl c, .inl x, .inl y] t0 n = some r ∧ ∃ z t', r = (some (.inl z), t', n, 0) ∧ ai_HG ah_G t' ∧ (∀ c i, ¬ (c = 231 ∨ (8 ≤ c ∧ c ≤ 21) ∨ (c = 22 ∧ 1 ≤ i) ∨ (24 ≤ c ∧ c ≤ 135)) → ai_hv t' c i = ai_hv t0 c i) ∧ z ≤ 1 ∧ (z = 1 → (c < w 0 4 ∧ x < w 0 0 ∧ y < w 0 1 ∧ mayH w σ c (8 * y + x)) ∧ CS t' (w 0 2) (w 0 4) (sgH σ c (8 * y + x)) (kpu u) (kpt u σ τ) F μ q v) ∧ (z = 0 → ¬ (c < w 0 4 ∧ x < w 0 0 ∧ y < w 0 1 ∧ mayH w σ c (8 * y + x)) ∧ CS t' (w 0 2) (w 0 4) σ u τ F μ q v) := by
  have hO := hw.1.1
  have hD := hw.1.2.1
  have hK := hw.1.2.2.2.2.1
  refine en_u_ex (d := d + 6) rfl ?_
  show en_ex _ _ _ _ (0, [(0, gx_r 0), (1, .inl c), (2, .inl x), (3, .inl y)], [], t0, n, 0) _
  refine ex_go (S := (1, [(0, gx_r 0), (1, .inl c), (2, .inl x), (3, .inl y)], [gx_r 0], t0, n, 0)) rfl (fun _ => rfl) rfl ?_
  refine gxo_get (a := 0) rfl g0 rfl rfl k10 rfl ?_
  refine gxo_ref (a := 191) (c := 206) rfl g0 rfl rfl rfl rfl rfl ?_
  refine ex_go (S := (8, [(0, gx_r 0), (1, .inl c), (2, .inl x), (3, .inl y)], [.inl c, gx_r 206], t0, n, 0)) rfl (fun _ => rfl) rfl ?_
  obtain ⟨_, r121, b121, rfl, hb121, hi121⟩ := pz_holds206 (d + 5) n (x := c) (K := w 0 4) g0 (by first | decide | omega) hC.1.2.2.2.2.2 (by first | decide | omega)
  refine gx_callo (a := 206) rfl rfl g0 rfl rfl rfl r121 rfl ?_
  show en_ex _ _ _ _ (11, [(0, gx_r 0), (1, .inl c), (2, .inl x), (3, .inl y)], [.inl b121], t0, n, 0) _
  by_cases hc22 : b121 = 0
  · refine gx_1t (c := .eq) rfl (by first | decide | omega) hc22 rfl ?_
    refine ex_go (S := (27, [(0, gx_r 0), (1, .inl c), (2, .inl x), (3, .inl y)], [.inl 0], t0, n, 0)) rfl (fun _ => rfl) rfl ?_
    refine ex_ret (r := (some (.inl 0), t0, n, 0)) rfl (fun _ => rfl) ?_
    exact ⟨_, rfl, 0, t0, rfl, g0, (fun _ _ _ => rfl), by decide, (fun z => absurd z (by decide)), fun _ => ⟨(fun z => by obtain ⟨z0, z1, z2, -⟩ := z; omega), hS⟩⟩
  · refine gx_1f (c := .eq) rfl (by first | decide | omega) hc22 rfl ?_
    refine ex_go (S := (15, [(0, gx_r 0), (1, .inl c), (2, .inl x), (3, .inl y)], [gx_r 0], t0, n, 0)) rfl (fun _ => rfl) rfl ?_
    refine gxo_get (a := 0) rfl g0 rfl rfl k10 rfl ?_
    refine ex_go (S := (19, [(0, gx_r 0), (1, .inl c), (2, .inl x), (3, .inl y)], [.inl x, gx_r 191], t0, n, 0)) rfl (fun _ => rfl) rfl ?_
    refine ex_go (S := (20, [(0, gx_r 0), (1, .inl c), (2, .inl x), (3, .inl y)], [.inl y, .inl x, gx_r 191], t0, n, 0)) rfl (fun _ => rfl) rfl ?_
    obtain ⟨_, r123, b123, rfl, hb123, hi123⟩ := pc_isPlace191 (d + 5) n (x := x) (y := y) (o := w 0 0) (e := w 0 1) g0 hC.1.1 hC.1.2.1 (by first | decide | omega) (by first | decide | omega) hO hD
    refine gx_callo (a := 191) rfl rfl g0 rfl rfl rfl r123 rfl ?_
    show en_ex _ _ _ _ (23, [(0, gx_r 0), (1, .inl c), (2, .inl x), (3, .inl y)], [.inl b123], t0, n, 0) _
    by_cases hc24 : b123 ≠ 0
    · refine gx_1t (c := .ne) rfl (by first | decide | omega) hc24 rfl ?_
      refine ex_go (S := (29, [(0, gx_r 0), (1, .inl c), (2, .inl x), (3, .inl y)], [gx_r 0], t0, n, 0)) rfl (fun _ => rfl) rfl ?_
      refine ex_go (S := (30, [(0, gx_r 0), (1, .inl c), (2, .inl x), (3, .inl y)], [.inl 1, gx_r 0], t0, n, 0)) rfl (fun _ => rfl) rfl ?_
      refine ex_go (S := (31, [(0, gx_r 0), (1, .inl c), (2, .inl x), (3, .inl y)], [.inl c, .inl 1, gx_r 0], t0, n, 0)) rfl (fun _ => rfl) rfl ?_
      refine ex_go (S := (32, [(0, gx_r 0), (1, .inl c), (2, .inl x), (3, .inl y)], [.inl x, .inl c, .inl 1, gx_r 0], t0, n, 0)) rfl (fun _ => rfl) rfl ?_
      refine ex_go (S := (33, [(0, gx_r 0), (1, .inl c), (2, .inl x), (3, .inl y)], [.inl y, .inl x, .inl c, .inl 1, gx_r 0], t0, n, 0)) rfl (fun _ => rfl) rfl ?_
      obtain ⟨_, r25, rfl⟩ := pc_placeOf2 (d + 5) n (t0 := t0) (x := x) (y := y) (by first | decide | omega) (by first | decide | omega)
      rw [Nat.add_comm x (8 * y)] at r25
      refine ex_stat rfl rfl rfl rfl rfl r25 (Nat.le_refl _) rfl ?_
      show en_ex _ _ _ _ (36, [(0, gx_r 0), (1, .inl c), (2, .inl x), (3, .inl y)], [.inl (8 * y + x), .inl c, .inl 1, gx_r 0], t0, n, 0) _
      obtain ⟨_, r126, y126, t126, rfl, g126, e126, p126, q126⟩ := sc_by1_191 d n (c := c) (to := 8 * y + x) g0 hC hw hb k10 hS hu hX hB (by first | decide | omega) (by first | decide | omega)
      refine gx_callo (a := 0) rfl rfl g0 rfl rfl rfl r126 rfl ?_
      have k27 : ai_hv t126 0 10 = some (gx_r 191) := (e126 0 10 (by first | decide | omega)).trans k10
      show en_ex _ _ _ _ (39, [(0, gx_r 0), (1, .inl c), (2, .inl x), (3, .inl y)], [.inl y126], t126, n, 0) _
      refine ex_go (S := (40, [(0, gx_r 0), (1, .inl c), (2, .inl x), (3, .inl y)], [.inl 4294967295, .inl y126], t126, n, 0)) rfl (fun _ => rfl) rfl ?_
      by_cases hc9 : mayH w σ c (8 * y + x)
      · obtain ⟨hy9, hs9⟩ := p126 hc9
        refine gx_2mf (c := .eq) rfl (by first | decide | omega) rfl rfl ?_
        show en_ex _ _ _ _ (43, [(0, gx_r 0), (1, .inl c), (2, .inl x), (3, .inl y)], [], t126, n, 0) _
        refine ex_go (S := (44, [(0, gx_r 0), (1, .inl c), (2, .inl x), (3, .inl y)], [.inl 1], t126, n, 0)) rfl (fun _ => rfl) rfl ?_
        refine ex_go (S := (48, [(0, gx_r 0), (1, .inl c), (2, .inl x), (3, .inl y)], [.inl 1], t126, n, 0)) rfl (fun _ => rfl) rfl ?_
        refine ex_ret (r := (some (.inl 1), t126, n, 0)) rfl (fun _ => rfl) ?_
        exact ⟨_, rfl, 1, t126, rfl, g126, e126, by decide, (fun _ => ⟨⟨by omega, by omega, by omega, hc9⟩, hs9⟩), fun z => absurd z (by decide)⟩
      · obtain ⟨hy9, hs9⟩ := q126 hc9
        refine gs_same rfl (by first | decide | omega) rfl ?_
        show en_ex _ _ _ _ (47, [(0, gx_r 0), (1, .inl c), (2, .inl x), (3, .inl y)], [], t126, n, 0) _
        refine ex_go (S := (48, [(0, gx_r 0), (1, .inl c), (2, .inl x), (3, .inl y)], [.inl 0], t126, n, 0)) rfl (fun _ => rfl) rfl ?_
        refine ex_ret (r := (some (.inl 0), t126, n, 0)) rfl (fun _ => rfl) ?_
        exact ⟨_, rfl, 0, t126, rfl, g126, e126, by decide, (fun z => absurd z (by decide)), fun _ => ⟨fun z => hc9 z.2.2.2, hs9⟩⟩
    · refine gx_1f (c := .ne) rfl (by first | decide | omega) hc24 rfl ?_
      refine ex_go (S := (27, [(0, gx_r 0), (1, .inl c), (2, .inl x), (3, .inl y)], [.inl 0], t0, n, 0)) rfl (fun _ => rfl) rfl ?_
      refine ex_ret (r := (some (.inl 0), t0, n, 0)) rfl (fun _ => rfl) ?_
      exact ⟨_, rfl, 0, t0, rfl, g0, (fun _ _ _ => rfl), by decide, (fun z => absurd z (by decide)), fun _ => ⟨(fun z => by obtain ⟨z0, z1, z2, -⟩ := z; omega), hS⟩⟩
theorem sc_lend191 (d n : Nat) {t0 : en_H} {w : Nat → Nat → Nat} {L : List Nat} {σ F v : Nat → Nat} {τ μ : Nat → Nat → Nat} {u q : Nat} {c x : Nat} (g0 : ai_HG ah_G t0) (hC : CW t0 191 w L) (hw : WS w) (hb : sbd σ) (k10 : ai_hv t0 0 10 = some (gx_r 191)) (hS : CS t0 (w 0 2) (w 0 4) σ u τ F μ q v) (hu : u ≤ 16) (hsum : σ 7 + σ 8 ≤ 19998) (hc : c < 4294967296) (hx : x < 4294967296) : ∃ r, en_u (d + 7) 46 [gx_r 0, .inl c, .inl x] t0 n = some r ∧ ∃ z t', r = (some (.inl z), t', n, 0) ∧ ai_HG ah_G t' ∧ (∀ c i, ¬ (c = 231 ∨ (8 ≤ c ∧ c ≤ 21) ∨ (c = 22 ∧ 1 ≤ i) ∨ (24 ≤ c ∧ c ≤ 135)) → ai_hv t' c i = ai_hv t0 c i) ∧ ((c < w 0 4 ∧ (1 ≤ x ∧ x ≤ 999) ∧ mayL w σ c) → z = lnv σ c x ∧ CS t' (w 0 2) (w 0 4) (sgL σ c x) (kpu u) (kpt u σ τ) F μ q v) ∧ (¬ (c < w 0 4 ∧ (1 ≤ x ∧ x ≤ 999) ∧ mayL w σ c) → z = 4294967295 ∧ CS t' (w 0 2) (w 0 4) σ u τ F μ q v) := by
  have hK := hw.1.2.2.2.2.1
  refine en_u_ex (d := d + 6) rfl ?_
  show en_ex _ _ _ _ (0, [(0, gx_r 0), (1, .inl c), (2, .inl x)], [], t0, n, 0) _
  refine ex_go (S := (1, [(0, gx_r 0), (1, .inl c), (2, .inl x)], [gx_r 0], t0, n, 0)) rfl (fun _ => rfl) rfl ?_
  refine gxo_get (a := 0) rfl g0 rfl rfl k10 rfl ?_
  refine gxo_ref (a := 191) (c := 206) rfl g0 rfl rfl rfl rfl rfl ?_
  refine ex_go (S := (8, [(0, gx_r 0), (1, .inl c), (2, .inl x)], [.inl c, gx_r 206], t0, n, 0)) rfl (fun _ => rfl) rfl ?_
  obtain ⟨_, r121, b121, rfl, hb121, hi121⟩ := pz_holds206 (d + 5) n (x := c) (K := w 0 4) g0 (by first | decide | omega) hC.1.2.2.2.2.2 (by first | decide | omega)
  refine gx_callo (a := 206) rfl rfl g0 rfl rfl rfl r121 rfl ?_
  show en_ex _ _ _ _ (11, [(0, gx_r 0), (1, .inl c), (2, .inl x)], [.inl b121], t0, n, 0) _
  by_cases hc22 : b121 = 0
  · refine gx_1t (c := .eq) rfl (by first | decide | omega) hc22 rfl ?_
    refine ex_go (S := (26, [(0, gx_r 0), (1, .inl c), (2, .inl x)], [.inl 4294967295], t0, n, 0)) rfl (fun _ => rfl) rfl ?_
    refine ex_ret (r := (some (.inl 4294967295), t0, n, 0)) rfl (fun _ => rfl) ?_
    exact ⟨_, rfl, _, t0, rfl, g0, (fun _ _ _ => rfl), (fun z => by obtain ⟨z1, z2, -⟩ := z; omega), fun _ => ⟨rfl, hS⟩⟩
  · refine gx_1f (c := .eq) rfl (by first | decide | omega) hc22 rfl ?_
    refine ex_go (S := (15, [(0, gx_r 0), (1, .inl c), (2, .inl x)], [.inl x], t0, n, 0)) rfl (fun _ => rfl) rfl ?_
    refine ex_go (S := (16, [(0, gx_r 0), (1, .inl c), (2, .inl x)], [.inl 1, .inl x], t0, n, 0)) rfl (fun _ => rfl) rfl ?_
    refine ex_go (S := (19, [(0, gx_r 0), (1, .inl c), (2, .inl x)], [.inl 999, .inl 1, .inl x], t0, n, 0)) rfl (fun _ => rfl) rfl ?_
    obtain ⟨_, r23, b24, rfl, b24b, q25⟩ := pz_isWithin (d + 5) n (t0 := t0) (x := x) (lo := 1) (hi := 999) (by first | decide | omega) (by first | decide | omega) (by first | decide | omega)
    refine ex_stat rfl rfl rfl rfl rfl r23 (Nat.le_refl _) rfl ?_
    show en_ex _ _ _ _ (22, [(0, gx_r 0), (1, .inl c), (2, .inl x)], [.inl b24], t0, n, 0) _
    by_cases hc26 : b24 ≠ 0
    · refine gx_1t (c := .ne) rfl (by first | decide | omega) hc26 rfl ?_
      refine ex_go (S := (28, [(0, gx_r 0), (1, .inl c), (2, .inl x)], [gx_r 0], t0, n, 0)) rfl (fun _ => rfl) rfl ?_
      refine ex_go (S := (29, [(0, gx_r 0), (1, .inl c), (2, .inl x)], [.inl 2, gx_r 0], t0, n, 0)) rfl (fun _ => rfl) rfl ?_
      refine ex_go (S := (30, [(0, gx_r 0), (1, .inl c), (2, .inl x)], [.inl c, .inl 2, gx_r 0], t0, n, 0)) rfl (fun _ => rfl) rfl ?_
      refine ex_go (S := (31, [(0, gx_r 0), (1, .inl c), (2, .inl x)], [.inl x, .inl c, .inl 2, gx_r 0], t0, n, 0)) rfl (fun _ => rfl) rfl ?_
      obtain ⟨_, r127, y127, t127, rfl, g127, e127, p127, q127⟩ := sc_by2_191 d n (c := c) (x := x) g0 hC hw hb k10 hS hu hsum (by first | decide | omega) (by first | decide | omega)
      refine gx_callo (a := 0) rfl rfl g0 rfl rfl rfl r127 rfl ?_
      have k28 : ai_hv t127 0 10 = some (gx_r 191) := (e127 0 10 (by first | decide | omega)).trans k10
      show en_ex _ _ _ _ (34, [(0, gx_r 0), (1, .inl c), (2, .inl x)], [.inl y127], t127, n, 0) _
      refine ex_ret (r := (some (.inl y127), t127, n, 0)) rfl (fun _ => rfl) ?_
      exact ⟨_, rfl, _, _, rfl, g127, e127, (fun z => p127 z.2.2), fun z => q127 (fun z9 => z ⟨by omega, by omega, z9⟩)⟩
    · refine gx_1f (c := .ne) rfl (by first | decide | omega) hc26 rfl ?_
      refine ex_go (S := (26, [(0, gx_r 0), (1, .inl c), (2, .inl x)], [.inl 4294967295], t0, n, 0)) rfl (fun _ => rfl) rfl ?_
      refine ex_ret (r := (some (.inl 4294967295), t0, n, 0)) rfl (fun _ => rfl) ?_
      exact ⟨_, rfl, _, t0, rfl, g0, (fun _ _ _ => rfl), (fun z => by obtain ⟨z1, z2, -⟩ := z; omega), fun _ => ⟨rfl, hS⟩⟩
theorem sc_home191 (d n : Nat) {t0 : en_H} {w : Nat → Nat → Nat} {L : List Nat} {σ F v : Nat → Nat} {τ μ : Nat → Nat → Nat} {u q : Nat} {c : Nat} (g0 : ai_HG ah_G t0) (hC : CW t0 191 w L) (hw : WS w) (hb : sbd σ) (k10 : ai_hv t0 0 10 = some (gx_r 191)) (hS : CS t0 (w 0 2) (w 0 4) σ u τ F μ q v) (hu : u ≤ 16) (hc : c < 4294967296) : ∃ r, en_u (d + 7) 48 [gx_r 0, .inl c] t0 n = some r ∧ ∃ z t', r = (some (.inl z), t', n, 0) ∧ ai_HG ah_G t' ∧ (∀ c i, ¬ (c = 231 ∨ (8 ≤ c ∧ c ≤ 21) ∨ (c = 22 ∧ 1 ≤ i) ∨ (24 ≤ c ∧ c ≤ 135)) → ai_hv t' c i = ai_hv t0 c i) ∧ z ≤ 1 ∧ (z = 1 → (c < w 0 4 ∧ mayM w σ c) ∧ CS t' (w 0 2) (w 0 4) (sgM' σ c) (kpu u) (kpt u σ τ) F μ q v) ∧ (z = 0 → ¬ (c < w 0 4 ∧ mayM w σ c) ∧ CS t' (w 0 2) (w 0 4) σ u τ F μ q v) := by
  have hK := hw.1.2.2.2.2.1
  refine en_u_ex (d := d + 6) rfl ?_
  show en_ex _ _ _ _ (0, [(0, gx_r 0), (1, .inl c)], [], t0, n, 0) _
  refine ex_go (S := (1, [(0, gx_r 0), (1, .inl c)], [gx_r 0], t0, n, 0)) rfl (fun _ => rfl) rfl ?_
  refine gxo_get (a := 0) rfl g0 rfl rfl k10 rfl ?_
  refine gxo_ref (a := 191) (c := 206) rfl g0 rfl rfl rfl rfl rfl ?_
  refine ex_go (S := (8, [(0, gx_r 0), (1, .inl c)], [.inl c, gx_r 206], t0, n, 0)) rfl (fun _ => rfl) rfl ?_
  obtain ⟨_, r121, b121, rfl, hb121, hi121⟩ := pz_holds206 (d + 5) n (x := c) (K := w 0 4) g0 (by first | decide | omega) hC.1.2.2.2.2.2 (by first | decide | omega)
  refine gx_callo (a := 206) rfl rfl g0 rfl rfl rfl r121 rfl ?_
  show en_ex _ _ _ _ (11, [(0, gx_r 0), (1, .inl c)], [.inl b121], t0, n, 0) _
  by_cases hc22 : b121 ≠ 0
  · refine gx_1t (c := .ne) rfl (by first | decide | omega) hc22 rfl ?_
    refine ex_go (S := (17, [(0, gx_r 0), (1, .inl c)], [gx_r 0], t0, n, 0)) rfl (fun _ => rfl) rfl ?_
    refine ex_go (S := (18, [(0, gx_r 0), (1, .inl c)], [.inl 3, gx_r 0], t0, n, 0)) rfl (fun _ => rfl) rfl ?_
    refine ex_go (S := (19, [(0, gx_r 0), (1, .inl c)], [.inl c, .inl 3, gx_r 0], t0, n, 0)) rfl (fun _ => rfl) rfl ?_
    refine ex_go (S := (20, [(0, gx_r 0), (1, .inl c)], [.inl 0, .inl c, .inl 3, gx_r 0], t0, n, 0)) rfl (fun _ => rfl) rfl ?_
    obtain ⟨_, r123, y123, t123, rfl, g123, e123, p123, q123⟩ := sc_by3_191 d n (c := c) (to := 0) g0 hC hw hb k10 hS hu (by first | decide | omega)
    refine gx_callo (a := 0) rfl rfl g0 rfl rfl rfl r123 rfl ?_
    have k24 : ai_hv t123 0 10 = some (gx_r 191) := (e123 0 10 (by first | decide | omega)).trans k10
    show en_ex _ _ _ _ (23, [(0, gx_r 0), (1, .inl c)], [.inl y123], t123, n, 0) _
    refine ex_go (S := (24, [(0, gx_r 0), (1, .inl c)], [.inl 4294967295, .inl y123], t123, n, 0)) rfl (fun _ => rfl) rfl ?_
    by_cases hc9 : mayM w σ c
    · obtain ⟨hy9, hs9⟩ := p123 hc9
      refine gx_2mf (c := .eq) rfl (by first | decide | omega) rfl rfl ?_
      show en_ex _ _ _ _ (27, [(0, gx_r 0), (1, .inl c)], [], t123, n, 0) _
      refine ex_go (S := (28, [(0, gx_r 0), (1, .inl c)], [.inl 1], t123, n, 0)) rfl (fun _ => rfl) rfl ?_
      refine ex_go (S := (32, [(0, gx_r 0), (1, .inl c)], [.inl 1], t123, n, 0)) rfl (fun _ => rfl) rfl ?_
      refine ex_ret (r := (some (.inl 1), t123, n, 0)) rfl (fun _ => rfl) ?_
      exact ⟨_, rfl, 1, t123, rfl, g123, e123, by decide, (fun _ => ⟨⟨by omega, hc9⟩, hs9⟩), fun z => absurd z (by decide)⟩
    · obtain ⟨hy9, hs9⟩ := q123 hc9
      refine gs_same rfl (by first | decide | omega) rfl ?_
      show en_ex _ _ _ _ (31, [(0, gx_r 0), (1, .inl c)], [], t123, n, 0) _
      refine ex_go (S := (32, [(0, gx_r 0), (1, .inl c)], [.inl 0], t123, n, 0)) rfl (fun _ => rfl) rfl ?_
      refine ex_ret (r := (some (.inl 0), t123, n, 0)) rfl (fun _ => rfl) ?_
      exact ⟨_, rfl, 0, t123, rfl, g123, e123, by decide, (fun z => absurd z (by decide)), fun _ => ⟨fun z => hc9 z.2, hs9⟩⟩
  · refine gx_1f (c := .ne) rfl (by first | decide | omega) hc22 rfl ?_
    refine ex_go (S := (15, [(0, gx_r 0), (1, .inl c)], [.inl 0], t0, n, 0)) rfl (fun _ => rfl) rfl ?_
    refine ex_ret (r := (some (.inl 0), t0, n, 0)) rfl (fun _ => rfl) ?_
    exact ⟨_, rfl, 0, t0, rfl, g0, (fun _ _ _ => rfl), by decide, (fun z => absurd z (by decide)), fun _ => ⟨(fun z => by obtain ⟨z0, -⟩ := z; omega), hS⟩⟩
theorem sc_see191 (d n : Nat) {t0 : en_H} {w : Nat → Nat → Nat} {L : List Nat} {σ F v : Nat → Nat} {τ μ : Nat → Nat → Nat} {u q : Nat} {x y z : Nat} (g0 : ai_HG ah_G t0) (hC : CW t0 191 w L) (hw : WS w) (hb : sbd σ) (k10 : ai_hv t0 0 10 = some (gx_r 191)) (hS : CS t0 (w 0 2) (w 0 4) σ u τ F μ q v) (hu : u ≤ 16) (hB : σ 0 ≤ 900000) (hq8 : q ≤ 8) (hx : x < 4294967296) (hy : y < 4294967296) (hz : z < 4294967296) : ∃ r, en_u (d + 2) 62 [gx_r 0, .inl x, .inl y, .inl z] t0 n = some r ∧ ∃ o t', r = (some (.inl o), t', n, 0) ∧ ai_HG ah_G t' ∧ (∀ c i, ¬ (139 ≤ c ∧ c ≤ 142) → ai_hv t' c i = ai_hv t0 c i) ∧ ((x < w 0 2 ∧ y ≤ 40 ∧ z ≤ 8 ∧ q < 8) → o = 1 ∧ CS t' (w 0 2) (w 0 4) σ u τ F μ (q + 1) v) ∧ (¬ (x < w 0 2 ∧ y ≤ 40 ∧ z ≤ 8 ∧ q < 8) → o = 0 ∧ CS t' (w 0 2) (w 0 4) σ u τ F μ q v) := by
  have hT := hw.1.2.2.1
  refine en_u_ex (d := d + 1) rfl ?_
  show en_ex _ _ _ _ (0, [(0, gx_r 0), (1, .inl x), (2, .inl y), (3, .inl z)], [], t0, n, 0) _
  refine ex_go (S := (1, [(0, gx_r 0), (1, .inl x), (2, .inl y), (3, .inl z)], [gx_r 0], t0, n, 0)) rfl (fun _ => rfl) rfl ?_
  refine gxo_get (a := 0) rfl g0 rfl rfl k10 rfl ?_
  refine gxo_ref (a := 191) (c := 194) rfl g0 rfl rfl rfl rfl rfl ?_
  refine ex_go (S := (8, [(0, gx_r 0), (1, .inl x), (2, .inl y), (3, .inl z)], [.inl x, gx_r 194], t0, n, 0)) rfl (fun _ => rfl) rfl ?_
  obtain ⟨_, r121, b121, rfl, hb121, hi121⟩ := pz_holds194 (d) n (x := x) (K := w 0 2) g0 (by first | decide | omega) hC.1.2.2.2.1 (by first | decide | omega)
  refine gx_callo (a := 194) rfl rfl g0 rfl rfl rfl r121 rfl ?_
  show en_ex _ _ _ _ (11, [(0, gx_r 0), (1, .inl x), (2, .inl y), (3, .inl z)], [.inl b121], t0, n, 0) _
  by_cases hc22 : b121 = 0
  · refine gx_1t (c := .eq) rfl (by first | decide | omega) hc22 rfl ?_
    refine ex_go (S := (35, [(0, gx_r 0), (1, .inl x), (2, .inl y), (3, .inl z)], [.inl 0], t0, n, 0)) rfl (fun _ => rfl) rfl ?_
    refine ex_ret (r := (some (.inl 0), t0, n, 0)) rfl (fun _ => rfl) ?_
    exact ⟨_, rfl, 0, t0, rfl, g0, (fun _ _ _ => rfl), (fun z => by omega), fun _ => ⟨rfl, hS⟩⟩
  · refine gx_1f (c := .eq) rfl (by first | decide | omega) hc22 rfl ?_
    refine ex_go (S := (15, [(0, gx_r 0), (1, .inl x), (2, .inl y), (3, .inl z)], [.inl y], t0, n, 0)) rfl (fun _ => rfl) rfl ?_
    refine ex_go (S := (16, [(0, gx_r 0), (1, .inl x), (2, .inl y), (3, .inl z)], [.inl 0, .inl y], t0, n, 0)) rfl (fun _ => rfl) rfl ?_
    refine ex_go (S := (18, [(0, gx_r 0), (1, .inl x), (2, .inl y), (3, .inl z)], [.inl 40, .inl 0, .inl y], t0, n, 0)) rfl (fun _ => rfl) rfl ?_
    obtain ⟨_, r23, b24, rfl, b24b, q25⟩ := pz_isWithin (d) n (t0 := t0) (x := y) (lo := 0) (hi := 40) (by first | decide | omega) (by first | decide | omega) (by first | decide | omega)
    refine ex_stat rfl rfl rfl rfl rfl r23 (Nat.le_refl _) rfl ?_
    show en_ex _ _ _ _ (21, [(0, gx_r 0), (1, .inl x), (2, .inl y), (3, .inl z)], [.inl b24], t0, n, 0) _
    by_cases hc26 : b24 = 0
    · refine gx_1t (c := .eq) rfl (by first | decide | omega) hc26 rfl ?_
      refine ex_go (S := (35, [(0, gx_r 0), (1, .inl x), (2, .inl y), (3, .inl z)], [.inl 0], t0, n, 0)) rfl (fun _ => rfl) rfl ?_
      refine ex_ret (r := (some (.inl 0), t0, n, 0)) rfl (fun _ => rfl) ?_
      exact ⟨_, rfl, 0, t0, rfl, g0, (fun _ _ _ => rfl), (fun z => by omega), fun _ => ⟨rfl, hS⟩⟩
    · refine gx_1f (c := .eq) rfl (by first | decide | omega) hc26 rfl ?_
      refine ex_go (S := (25, [(0, gx_r 0), (1, .inl x), (2, .inl y), (3, .inl z)], [.inl z], t0, n, 0)) rfl (fun _ => rfl) rfl ?_
      refine ex_go (S := (26, [(0, gx_r 0), (1, .inl x), (2, .inl y), (3, .inl z)], [.inl 0, .inl z], t0, n, 0)) rfl (fun _ => rfl) rfl ?_
      refine ex_go (S := (28, [(0, gx_r 0), (1, .inl x), (2, .inl y), (3, .inl z)], [.inl 8, .inl 0, .inl z], t0, n, 0)) rfl (fun _ => rfl) rfl ?_
      obtain ⟨_, r27, b28, rfl, b28b, q29⟩ := pz_isWithin (d) n (t0 := t0) (x := z) (lo := 0) (hi := 8) (by first | decide | omega) (by first | decide | omega) (by first | decide | omega)
      refine ex_stat rfl rfl rfl rfl rfl r27 (Nat.le_refl _) rfl ?_
      show en_ex _ _ _ _ (31, [(0, gx_r 0), (1, .inl x), (2, .inl y), (3, .inl z)], [.inl b28], t0, n, 0) _
      by_cases hc30 : b28 ≠ 0
      · refine gx_1t (c := .ne) rfl (by first | decide | omega) hc30 rfl ?_
        refine ex_go (S := (37, [(0, gx_r 0), (1, .inl x), (2, .inl y), (3, .inl z)], [gx_r 0], t0, n, 0)) rfl (fun _ => rfl) rfl ?_
        refine gxo_ref (a := 0) (c := 139) rfl g0 rfl rfl rfl rfl rfl ?_
        refine ex_go (S := (41, [(0, gx_r 0), (1, .inl x), (2, .inl y), (3, .inl z)], [.inl x, gx_r 139], t0, n, 0)) rfl (fun _ => rfl) rfl ?_
        refine ex_go (S := (42, [(0, gx_r 0), (1, .inl x), (2, .inl y), (3, .inl z)], [gx_r 0, .inl x, gx_r 139], t0, n, 0)) rfl (fun _ => rfl) rfl ?_
        refine gxo_ref (a := 0) (c := 8) rfl g0 rfl rfl rfl rfl rfl ?_
        refine gxo_get (a := 8) rfl g0 rfl rfl hS.1.1 rfl ?_
        refine ex_go (S := (49, [(0, gx_r 0), (1, .inl x), (2, .inl y), (3, .inl z)], [.inl y, .inl (σ 0), .inl x, gx_r 139], t0, n, 0)) rfl (fun _ => rfl) rfl ?_
        refine ex_iadd rfl (by first | decide | omega) rfl ?_
        refine ex_go (S := (51, [(0, gx_r 0), (1, .inl x), (2, .inl y), (3, .inl z)], [.inl z, .inl ((σ 0) + y), .inl x, gx_r 139], t0, n, 0)) rfl (fun _ => rfl) rfl ?_
        obtain ⟨_, r131, o131, t131, rfl, g131, e131, p131, q131⟩ := sc_note d n (q := q) (x := x) (s := (σ 0) + y) (z := z) g0 hS.2.1 (by first | decide | omega) (by first | decide | omega) (by first | decide | omega) (by first | decide | omega)
        refine gx_callo (a := 139) rfl rfl g0 rfl rfl rfl r131 rfl ?_
        have k32 : ai_hv t131 0 10 = some (gx_r 191) := (e131 0 10 (by first | decide | omega)).trans k10
        have k33 : ai_hv t131 8 0 = some (.inl (σ 0)) := (e131 8 0 (by first | decide | omega)).trans hS.1.1
        show en_ex _ _ _ _ (54, [(0, gx_r 0), (1, .inl x), (2, .inl y), (3, .inl z)], [.inl o131], t131, n, 0) _
        refine gx_retb rfl (by first | decide | omega) ?_
        have hcs : ∀ q9, ai_hv t131 139 0 = some (.inl q9) → CS t131 (w 0 2) (w 0 4) σ u τ F μ q9 v := fun q9 h9 => by
          obtain ⟨h1, h2, ⟨o, h3, h4, h5, h6⟩, h7⟩ := hS
          exact ⟨SC_keep h1 (fun c i a b => e131 c i (by first | decide | omega)), h9, ⟨o, h3, (e131 _ _ (by first | decide | omega)).trans h4, (e131 _ _ (by first | decide | omega)).trans h5, fun k hk => SC_keep (h6 k hk) (fun c i a b => e131 c i (by first | decide | omega))⟩, fun m hm => ⟨(e131 _ _ (by first | decide | omega)).trans (h7 m hm).1, fun z => ⟨SC_keep ((h7 m hm).2 z).1 (fun c i a b => e131 _ _ (by first | decide | omega)), (e131 _ _ (by first | decide | omega)).trans ((h7 m hm).2 z).2⟩⟩⟩
        exact ⟨_, rfl, _, _, rfl, g131, e131, (fun z => ⟨(p131 z.2.2.2).1, hcs _ (p131 z.2.2.2).2⟩), fun z => ⟨(q131 (fun z9 => z ⟨by omega, by omega, by omega, z9⟩)).1, hcs _ (q131 (fun z9 => z ⟨by omega, by omega, by omega, z9⟩)).2⟩⟩
      · refine gx_1f (c := .ne) rfl (by first | decide | omega) hc30 rfl ?_
        refine ex_go (S := (35, [(0, gx_r 0), (1, .inl x), (2, .inl y), (3, .inl z)], [.inl 0], t0, n, 0)) rfl (fun _ => rfl) rfl ?_
        refine ex_ret (r := (some (.inl 0), t0, n, 0)) rfl (fun _ => rfl) ?_
        exact ⟨_, rfl, 0, t0, rfl, g0, (fun _ _ _ => rfl), (fun z => by omega), fun _ => ⟨rfl, hS⟩⟩
theorem sc_act1_8_257 (d n : Nat) {t0 : en_H} {w : Nat → Nat → Nat} {L : List Nat} {σ : Nat → Nat} {c : Nat} (g0 : ai_HG ah_G t0) (hC : CW t0 257 w L) (hw : WS w) (hb : sbd σ) (hS : SC t0 8 (w 0 2) (w 0 4) σ) (k10 : ai_hv t0 0 10 = some (gx_r 257)) {to : Nat} (hX : CX t0 257 w) (hB : σ 0 ≤ 900000) (ht : to < 64) (hc : c < w 0 4) : ∃ r, en_u (d + 5) 124 [gx_r 0, gx_r 8, .inl 1, .inl c, .inl to] t0 n = some r ∧ ∃ y t', r = (some (.inl y), t', n, 0) ∧ ai_HG ah_G t' ∧ (∀ c i, ¬ (10 ≤ c ∧ c ≤ 14) → ai_hv t' c i = ai_hv t0 c i) ∧ (mayH w σ c to → y = 0 ∧ SC t' 8 (w 0 2) (w 0 4) (sgH σ c to)) ∧ (¬ mayH w σ c to → y = 4294967295 ∧ t' = t0) := by
  have hK := hw.1.2.2.2.2.1
  refine en_u_ex (d := d + 4) rfl ?_
  show en_ex _ _ _ _ (0, [(0, gx_r 0), (1, gx_r 8), (2, .inl 1), (3, .inl c), (4, .inl to)], [], t0, n, 0) _
  refine ex_go (S := (1, [(0, gx_r 0), (1, gx_r 8), (2, .inl 1), (3, .inl c), (4, .inl to)], [.inl 1], t0, n, 0)) rfl (fun _ => rfl) rfl ?_
  refine ex_go (S := (41, [(0, gx_r 0), (1, gx_r 8), (2, .inl 1), (3, .inl c), (4, .inl to)], [], t0, n, 0)) rfl (fun _ => rfl) rfl ?_
  refine ex_go (S := (42, [(0, gx_r 0), (1, gx_r 8), (2, .inl 1), (3, .inl c), (4, .inl to)], [gx_r 0], t0, n, 0)) rfl (fun _ => rfl) rfl ?_
  refine gxo_get (a := 0) rfl g0 rfl rfl k10 rfl ?_
  refine gxo_ref (a := 257) (c := 272) rfl g0 rfl rfl rfl rfl rfl ?_
  refine ex_go (S := (49, [(0, gx_r 0), (1, gx_r 8), (2, .inl 1), (3, .inl c), (4, .inl to)], [.inl c, gx_r 272], t0, n, 0)) rfl (fun _ => rfl) rfl ?_
  obtain ⟨_, r121, b121, rfl, hb121, hi121⟩ := pz_holds272 (d + 3) n (x := c) (K := w 0 4) g0 (by first | decide | omega) hC.1.2.2.2.2.2 (by first | decide | omega)
  refine gx_callo (a := 272) rfl rfl g0 rfl rfl rfl r121 rfl ?_
  show en_ex _ _ _ _ (52, [(0, gx_r 0), (1, gx_r 8), (2, .inl 1), (3, .inl c), (4, .inl to)], [.inl b121], t0, n, 0) _
  by_cases hc22 : b121 ≠ 0
  · refine gx_1t (c := .ne) rfl (by first | decide | omega) hc22 rfl ?_
    refine ex_go (S := (58, [(0, gx_r 0), (1, gx_r 8), (2, .inl 1), (3, .inl c), (4, .inl to)], [.inl 1], t0, n, 0)) rfl (fun _ => rfl) rfl ?_
    refine ex_go (S := (59, [(0, gx_r 0), (1, gx_r 8), (2, .inl 1), (3, .inl c), (4, .inl to)], [.inl 1, .inl 1], t0, n, 0)) rfl (fun _ => rfl) rfl ?_
    refine ex_go (S := (62, [(0, gx_r 0), (1, gx_r 8), (2, .inl 1), (3, .inl c), (4, .inl to)], [], t0, n, 0)) rfl (fun _ => rfl) rfl ?_
    refine ex_go (S := (63, [(0, gx_r 0), (1, gx_r 8), (2, .inl 1), (3, .inl c), (4, .inl to)], [gx_r 8], t0, n, 0)) rfl (fun _ => rfl) rfl ?_
    refine ex_go (S := (64, [(0, gx_r 0), (1, gx_r 8), (2, .inl 1), (3, .inl c), (4, .inl to)], [gx_r 0, gx_r 8], t0, n, 0)) rfl (fun _ => rfl) rfl ?_
    refine gxo_get (a := 0) rfl g0 rfl rfl k10 rfl ?_
    refine ex_go (S := (68, [(0, gx_r 0), (1, gx_r 8), (2, .inl 1), (3, .inl c), (4, .inl to)], [.inl c, gx_r 257, gx_r 8], t0, n, 0)) rfl (fun _ => rfl) rfl ?_
    refine ex_go (S := (70, [(0, gx_r 0), (1, gx_r 8), (2, .inl 1), (3, .inl c), (4, .inl to)], [.inl to, .inl c, gx_r 257, gx_r 8], t0, n, 0)) rfl (fun _ => rfl) rfl ?_
    obtain ⟨_, r123, y123, t123, rfl, g123, e123, hy123, p123, q123⟩ := sc_hs8_257 d n g0 hC hw hb hS hX hB hc ht
    refine gx_callo (a := 8) rfl rfl g0 rfl rfl rfl r123 rfl ?_
    have k24 : ai_hv t123 0 10 = some (gx_r 257) := (e123 0 10 (by first | decide | omega)).trans k10
    show en_ex _ _ _ _ (73, [(0, gx_r 0), (1, gx_r 8), (2, .inl 1), (3, .inl c), (4, .inl to)], [.inl y123], t123, n, 0) _
    by_cases hc25 : y123 = 0
    · refine gx_1t (c := .eq) rfl (by first | decide | omega) hc25 rfl ?_
      refine ex_go (S := (81, [(0, gx_r 0), (1, gx_r 8), (2, .inl 1), (3, .inl c), (4, .inl to)], [.inl 4294967295], t123, n, 0)) rfl (fun _ => rfl) rfl ?_
      refine ex_ret (r := (some (.inl 4294967295), t123, n, 0)) rfl (fun _ => rfl) ?_
      have h9 := q123 (by first | decide | omega)
      exact ⟨_, rfl, _, _, rfl, g123, (fun c i h => e123 c i (by first | decide | omega)), (fun z => absurd z h9.1), fun _ => ⟨rfl, h9.2⟩⟩
    · refine gx_1f (c := .eq) rfl (by first | decide | omega) hc25 rfl ?_
      refine ex_go (S := (77, [(0, gx_r 0), (1, gx_r 8), (2, .inl 1), (3, .inl c), (4, .inl to)], [.inl 0], t123, n, 0)) rfl (fun _ => rfl) rfl ?_
      refine ex_go (S := (81, [(0, gx_r 0), (1, gx_r 8), (2, .inl 1), (3, .inl c), (4, .inl to)], [.inl 0], t123, n, 0)) rfl (fun _ => rfl) rfl ?_
      refine ex_ret (r := (some (.inl 0), t123, n, 0)) rfl (fun _ => rfl) ?_
      exact ⟨_, rfl, 0, _, rfl, g123, (fun c i h => e123 c i (by first | decide | omega)), (fun _ => ⟨rfl, (p123 (by first | decide | omega)).2⟩), fun z => absurd (p123 (by first | decide | omega)).1 z⟩
  · refine gx_1f (c := .ne) rfl (by first | decide | omega) hc22 rfl ?_
    refine ex_go (S := (56, [(0, gx_r 0), (1, gx_r 8), (2, .inl 1), (3, .inl c), (4, .inl to)], [.inl 4294967295], t0, n, 0)) rfl (fun _ => rfl) rfl ?_
    refine ex_ret (r := (some (.inl 4294967295), t0, n, 0)) rfl (fun _ => rfl) ?_
    exact absurd hc (by first | decide | omega)
theorem sc_act2_8_257 (d n : Nat) {t0 : en_H} {w : Nat → Nat → Nat} {L : List Nat} {σ : Nat → Nat} {c : Nat} (g0 : ai_HG ah_G t0) (hC : CW t0 257 w L) (hw : WS w) (hb : sbd σ) (hS : SC t0 8 (w 0 2) (w 0 4) σ) (k10 : ai_hv t0 0 10 = some (gx_r 257)) {v : Nat} (hsum : σ 7 + σ 8 ≤ 19998) (hv : v ≤ 999) (hc : c < w 0 4) : ∃ r, en_u (d + 5) 124 [gx_r 0, gx_r 8, .inl 2, .inl c, .inl v] t0 n = some r ∧ ∃ y t', r = (some (.inl y), t', n, 0) ∧ ai_HG ah_G t' ∧ (∀ c i, ¬ (10 ≤ c ∧ c ≤ 14) → ai_hv t' c i = ai_hv t0 c i) ∧ (mayL w σ c → y = lnv σ c v ∧ SC t' 8 (w 0 2) (w 0 4) (sgL σ c v)) ∧ (¬ mayL w σ c → y = 4294967295 ∧ t' = t0) := by
  have hK := hw.1.2.2.2.2.1
  refine en_u_ex (d := d + 4) rfl ?_
  show en_ex _ _ _ _ (0, [(0, gx_r 0), (1, gx_r 8), (2, .inl 2), (3, .inl c), (4, .inl v)], [], t0, n, 0) _
  refine ex_go (S := (1, [(0, gx_r 0), (1, gx_r 8), (2, .inl 2), (3, .inl c), (4, .inl v)], [.inl 2], t0, n, 0)) rfl (fun _ => rfl) rfl ?_
  refine ex_go (S := (41, [(0, gx_r 0), (1, gx_r 8), (2, .inl 2), (3, .inl c), (4, .inl v)], [], t0, n, 0)) rfl (fun _ => rfl) rfl ?_
  refine ex_go (S := (42, [(0, gx_r 0), (1, gx_r 8), (2, .inl 2), (3, .inl c), (4, .inl v)], [gx_r 0], t0, n, 0)) rfl (fun _ => rfl) rfl ?_
  refine gxo_get (a := 0) rfl g0 rfl rfl k10 rfl ?_
  refine gxo_ref (a := 257) (c := 272) rfl g0 rfl rfl rfl rfl rfl ?_
  refine ex_go (S := (49, [(0, gx_r 0), (1, gx_r 8), (2, .inl 2), (3, .inl c), (4, .inl v)], [.inl c, gx_r 272], t0, n, 0)) rfl (fun _ => rfl) rfl ?_
  obtain ⟨_, r121, b121, rfl, hb121, hi121⟩ := pz_holds272 (d + 3) n (x := c) (K := w 0 4) g0 (by first | decide | omega) hC.1.2.2.2.2.2 (by first | decide | omega)
  refine gx_callo (a := 272) rfl rfl g0 rfl rfl rfl r121 rfl ?_
  show en_ex _ _ _ _ (52, [(0, gx_r 0), (1, gx_r 8), (2, .inl 2), (3, .inl c), (4, .inl v)], [.inl b121], t0, n, 0) _
  by_cases hc22 : b121 ≠ 0
  · refine gx_1t (c := .ne) rfl (by first | decide | omega) hc22 rfl ?_
    refine ex_go (S := (58, [(0, gx_r 0), (1, gx_r 8), (2, .inl 2), (3, .inl c), (4, .inl v)], [.inl 2], t0, n, 0)) rfl (fun _ => rfl) rfl ?_
    refine ex_go (S := (59, [(0, gx_r 0), (1, gx_r 8), (2, .inl 2), (3, .inl c), (4, .inl v)], [.inl 1, .inl 2], t0, n, 0)) rfl (fun _ => rfl) rfl ?_
    refine ex_go (S := (82, [(0, gx_r 0), (1, gx_r 8), (2, .inl 2), (3, .inl c), (4, .inl v)], [], t0, n, 0)) rfl (fun _ => rfl) rfl ?_
    refine ex_go (S := (83, [(0, gx_r 0), (1, gx_r 8), (2, .inl 2), (3, .inl c), (4, .inl v)], [.inl 2], t0, n, 0)) rfl (fun _ => rfl) rfl ?_
    refine ex_go (S := (84, [(0, gx_r 0), (1, gx_r 8), (2, .inl 2), (3, .inl c), (4, .inl v)], [.inl 2, .inl 2], t0, n, 0)) rfl (fun _ => rfl) rfl ?_
    refine ex_go (S := (87, [(0, gx_r 0), (1, gx_r 8), (2, .inl 2), (3, .inl c), (4, .inl v)], [], t0, n, 0)) rfl (fun _ => rfl) rfl ?_
    refine ex_go (S := (88, [(0, gx_r 0), (1, gx_r 8), (2, .inl 2), (3, .inl c), (4, .inl v)], [gx_r 8], t0, n, 0)) rfl (fun _ => rfl) rfl ?_
    refine ex_go (S := (89, [(0, gx_r 0), (1, gx_r 8), (2, .inl 2), (3, .inl c), (4, .inl v)], [gx_r 0, gx_r 8], t0, n, 0)) rfl (fun _ => rfl) rfl ?_
    refine gxo_get (a := 0) rfl g0 rfl rfl k10 rfl ?_
    refine ex_go (S := (93, [(0, gx_r 0), (1, gx_r 8), (2, .inl 2), (3, .inl c), (4, .inl v)], [.inl c, gx_r 257, gx_r 8], t0, n, 0)) rfl (fun _ => rfl) rfl ?_
    refine ex_go (S := (95, [(0, gx_r 0), (1, gx_r 8), (2, .inl 2), (3, .inl c), (4, .inl v)], [.inl v, .inl c, gx_r 257, gx_r 8], t0, n, 0)) rfl (fun _ => rfl) rfl ?_
    obtain ⟨_, r123, y123, t123, rfl, g123, e123, p123, q123⟩ := sc_lb8_257 (d + 2) n g0 hC hw hb hS hsum hc hv
    refine gx_callo (a := 8) rfl rfl g0 rfl rfl rfl r123 rfl ?_
    have k24 : ai_hv t123 0 10 = some (gx_r 257) := (e123 0 10 (by first | decide | omega)).trans k10
    show en_ex _ _ _ _ (98, [(0, gx_r 0), (1, gx_r 8), (2, .inl 2), (3, .inl c), (4, .inl v)], [.inl y123], t123, n, 0) _
    refine ex_ret (r := (some (.inl y123), t123, n, 0)) rfl (fun _ => rfl) ?_
    exact ⟨_, rfl, _, _, rfl, g123, (fun c i h => e123 c i (by first | decide | omega)), p123, q123⟩
  · refine gx_1f (c := .ne) rfl (by first | decide | omega) hc22 rfl ?_
    refine ex_go (S := (56, [(0, gx_r 0), (1, gx_r 8), (2, .inl 2), (3, .inl c), (4, .inl v)], [.inl 4294967295], t0, n, 0)) rfl (fun _ => rfl) rfl ?_
    refine ex_ret (r := (some (.inl 4294967295), t0, n, 0)) rfl (fun _ => rfl) ?_
    exact absurd hc (by first | decide | omega)
theorem sc_act3_8_257 (d n : Nat) {t0 : en_H} {w : Nat → Nat → Nat} {L : List Nat} {σ : Nat → Nat} {c : Nat} (g0 : ai_HG ah_G t0) (hC : CW t0 257 w L) (hw : WS w) (hb : sbd σ) (hS : SC t0 8 (w 0 2) (w 0 4) σ) (k10 : ai_hv t0 0 10 = some (gx_r 257)) {to : Nat} (hc : c < w 0 4) : ∃ r, en_u (d + 5) 124 [gx_r 0, gx_r 8, .inl 3, .inl c, .inl to] t0 n = some r ∧ ∃ y t', r = (some (.inl y), t', n, 0) ∧ ai_HG ah_G t' ∧ (∀ c i, ¬ (10 ≤ c ∧ c ≤ 14) → ai_hv t' c i = ai_hv t0 c i) ∧ (mayM w σ c → y = 0 ∧ SC t' 8 (w 0 2) (w 0 4) (sgM' σ c)) ∧ (¬ mayM w σ c → y = 4294967295 ∧ t' = t0) := by
  have hK := hw.1.2.2.2.2.1
  refine en_u_ex (d := d + 4) rfl ?_
  show en_ex _ _ _ _ (0, [(0, gx_r 0), (1, gx_r 8), (2, .inl 3), (3, .inl c), (4, .inl to)], [], t0, n, 0) _
  refine ex_go (S := (1, [(0, gx_r 0), (1, gx_r 8), (2, .inl 3), (3, .inl c), (4, .inl to)], [.inl 3], t0, n, 0)) rfl (fun _ => rfl) rfl ?_
  refine ex_go (S := (41, [(0, gx_r 0), (1, gx_r 8), (2, .inl 3), (3, .inl c), (4, .inl to)], [], t0, n, 0)) rfl (fun _ => rfl) rfl ?_
  refine ex_go (S := (42, [(0, gx_r 0), (1, gx_r 8), (2, .inl 3), (3, .inl c), (4, .inl to)], [gx_r 0], t0, n, 0)) rfl (fun _ => rfl) rfl ?_
  refine gxo_get (a := 0) rfl g0 rfl rfl k10 rfl ?_
  refine gxo_ref (a := 257) (c := 272) rfl g0 rfl rfl rfl rfl rfl ?_
  refine ex_go (S := (49, [(0, gx_r 0), (1, gx_r 8), (2, .inl 3), (3, .inl c), (4, .inl to)], [.inl c, gx_r 272], t0, n, 0)) rfl (fun _ => rfl) rfl ?_
  obtain ⟨_, r121, b121, rfl, hb121, hi121⟩ := pz_holds272 (d + 3) n (x := c) (K := w 0 4) g0 (by first | decide | omega) hC.1.2.2.2.2.2 (by first | decide | omega)
  refine gx_callo (a := 272) rfl rfl g0 rfl rfl rfl r121 rfl ?_
  show en_ex _ _ _ _ (52, [(0, gx_r 0), (1, gx_r 8), (2, .inl 3), (3, .inl c), (4, .inl to)], [.inl b121], t0, n, 0) _
  by_cases hc22 : b121 ≠ 0
  · refine gx_1t (c := .ne) rfl (by first | decide | omega) hc22 rfl ?_
    refine ex_go (S := (58, [(0, gx_r 0), (1, gx_r 8), (2, .inl 3), (3, .inl c), (4, .inl to)], [.inl 3], t0, n, 0)) rfl (fun _ => rfl) rfl ?_
    refine ex_go (S := (59, [(0, gx_r 0), (1, gx_r 8), (2, .inl 3), (3, .inl c), (4, .inl to)], [.inl 1, .inl 3], t0, n, 0)) rfl (fun _ => rfl) rfl ?_
    refine ex_go (S := (82, [(0, gx_r 0), (1, gx_r 8), (2, .inl 3), (3, .inl c), (4, .inl to)], [], t0, n, 0)) rfl (fun _ => rfl) rfl ?_
    refine ex_go (S := (83, [(0, gx_r 0), (1, gx_r 8), (2, .inl 3), (3, .inl c), (4, .inl to)], [.inl 3], t0, n, 0)) rfl (fun _ => rfl) rfl ?_
    refine ex_go (S := (84, [(0, gx_r 0), (1, gx_r 8), (2, .inl 3), (3, .inl c), (4, .inl to)], [.inl 2, .inl 3], t0, n, 0)) rfl (fun _ => rfl) rfl ?_
    refine ex_go (S := (99, [(0, gx_r 0), (1, gx_r 8), (2, .inl 3), (3, .inl c), (4, .inl to)], [], t0, n, 0)) rfl (fun _ => rfl) rfl ?_
    refine ex_go (S := (100, [(0, gx_r 0), (1, gx_r 8), (2, .inl 3), (3, .inl c), (4, .inl to)], [gx_r 8], t0, n, 0)) rfl (fun _ => rfl) rfl ?_
    refine ex_go (S := (101, [(0, gx_r 0), (1, gx_r 8), (2, .inl 3), (3, .inl c), (4, .inl to)], [gx_r 0, gx_r 8], t0, n, 0)) rfl (fun _ => rfl) rfl ?_
    refine gxo_get (a := 0) rfl g0 rfl rfl k10 rfl ?_
    refine ex_go (S := (105, [(0, gx_r 0), (1, gx_r 8), (2, .inl 3), (3, .inl c), (4, .inl to)], [.inl c, gx_r 257, gx_r 8], t0, n, 0)) rfl (fun _ => rfl) rfl ?_
    obtain ⟨_, r123, y123, t123, rfl, g123, e123, hy123, p123, q123⟩ := sc_bi8_257 (d + 3) n g0 hC hw hb hS hc
    refine gx_callo (a := 8) rfl rfl g0 rfl rfl rfl r123 rfl ?_
    have k24 : ai_hv t123 0 10 = some (gx_r 257) := (e123 0 10 (by first | decide | omega)).trans k10
    show en_ex _ _ _ _ (108, [(0, gx_r 0), (1, gx_r 8), (2, .inl 3), (3, .inl c), (4, .inl to)], [.inl y123], t123, n, 0) _
    by_cases hc25 : y123 = 0
    · refine gx_1t (c := .eq) rfl (by first | decide | omega) hc25 rfl ?_
      refine ex_go (S := (116, [(0, gx_r 0), (1, gx_r 8), (2, .inl 3), (3, .inl c), (4, .inl to)], [.inl 4294967295], t123, n, 0)) rfl (fun _ => rfl) rfl ?_
      refine ex_ret (r := (some (.inl 4294967295), t123, n, 0)) rfl (fun _ => rfl) ?_
      have h9 := q123 (by first | decide | omega)
      exact ⟨_, rfl, _, _, rfl, g123, (fun c i h => e123 c i (by first | decide | omega)), (fun z => absurd z h9.1), fun _ => ⟨rfl, h9.2⟩⟩
    · refine gx_1f (c := .eq) rfl (by first | decide | omega) hc25 rfl ?_
      refine ex_go (S := (112, [(0, gx_r 0), (1, gx_r 8), (2, .inl 3), (3, .inl c), (4, .inl to)], [.inl 0], t123, n, 0)) rfl (fun _ => rfl) rfl ?_
      refine ex_go (S := (116, [(0, gx_r 0), (1, gx_r 8), (2, .inl 3), (3, .inl c), (4, .inl to)], [.inl 0], t123, n, 0)) rfl (fun _ => rfl) rfl ?_
      refine ex_ret (r := (some (.inl 0), t123, n, 0)) rfl (fun _ => rfl) ?_
      exact ⟨_, rfl, 0, _, rfl, g123, (fun c i h => e123 c i (by first | decide | omega)), (fun _ => ⟨rfl, (p123 (by first | decide | omega)).2⟩), fun z => absurd (p123 (by first | decide | omega)).1 z⟩
  · refine gx_1f (c := .ne) rfl (by first | decide | omega) hc22 rfl ?_
    refine ex_go (S := (56, [(0, gx_r 0), (1, gx_r 8), (2, .inl 3), (3, .inl c), (4, .inl to)], [.inl 4294967295], t0, n, 0)) rfl (fun _ => rfl) rfl ?_
    refine ex_ret (r := (some (.inl 4294967295), t0, n, 0)) rfl (fun _ => rfl) ?_
    exact absurd hc (by first | decide | omega)
theorem sc_by1_257 (d n : Nat) {t0 : en_H} {w : Nat → Nat → Nat} {L : List Nat} {σ F v : Nat → Nat} {τ μ : Nat → Nat → Nat} {u q : Nat} {c : Nat} (g0 : ai_HG ah_G t0) (hC : CW t0 257 w L) (hw : WS w) (hb : sbd σ) (k10 : ai_hv t0 0 10 = some (gx_r 257)) (hS : CS t0 (w 0 2) (w 0 4) σ u τ F μ q v) (hu : u ≤ 16) {to : Nat} (hX : CX t0 257 w) (hB : σ 0 ≤ 900000) (ht : to < 64) (hc : c < w 0 4) : ∃ r, en_u (d + 6) 114 [gx_r 0, .inl 1, .inl c, .inl to] t0 n = some r ∧ ∃ y t', r = (some (.inl y), t', n, 0) ∧ ai_HG ah_G t' ∧ (∀ c i, ¬ (c = 297 ∨ (8 ≤ c ∧ c ≤ 21) ∨ (c = 22 ∧ 1 ≤ i) ∨ (24 ≤ c ∧ c ≤ 135)) → ai_hv t' c i = ai_hv t0 c i) ∧ (mayH w σ c to → y = 0 ∧ CS t' (w 0 2) (w 0 4) (sgH σ c to) (kpu u) (kpt u σ τ) F μ q v) ∧ (¬ mayH w σ c to → y = 4294967295 ∧ CS t' (w 0 2) (w 0 4) σ u τ F μ q v) := by
  have hS0 := hS
  obtain ⟨hS8, hq, ⟨o, ho, ko, ku, hτ⟩, hm⟩ := hS
  refine en_u_ex (d := d + 5) rfl ?_
  show en_ex _ _ _ _ (0, [(0, gx_r 0), (1, .inl 1), (2, .inl c), (3, .inl to)], [], t0, n, 0) _
  refine ex_go (S := (1, [(0, gx_r 0), (1, .inl 1), (2, .inl c), (3, .inl to)], [gx_r 0], t0, n, 0)) rfl (fun _ => rfl) rfl ?_
  refine gxo_ref (a := 0) (c := 15) rfl g0 rfl rfl rfl rfl rfl ?_
  refine ex_go (S := (5, [(0, gx_r 0), (1, .inl 1), (2, .inl c), (3, .inl to)], [gx_r 0, gx_r 15], t0, n, 0)) rfl (fun _ => rfl) rfl ?_
  refine gxo_ref (a := 0) (c := 8) rfl g0 rfl rfl rfl rfl rfl ?_
  obtain ⟨_, r121, t121, rfl, g121, e121, y121a, y121b, y121c⟩ := sc_take (d + 4) n (A := 15) (B := 8) g0 StA_15 StA_8 (by unfold StD; omega)
  refine gx_callo (a := 15) rfl rfl g0 rfl rfl rfl r121 rfl ?_
  have k22 : ai_hv t121 0 10 = some (gx_r 257) := (e121 0 10 (by first | decide | omega)).trans k10
  show en_ex _ _ _ _ (11, [(0, gx_r 0), (1, .inl 1), (2, .inl c), (3, .inl to)], [], t121, n, 0) _
  refine ex_go (S := (12, [(0, gx_r 0), (1, .inl 1), (2, .inl c), (3, .inl to)], [gx_r 0], t121, n, 0)) rfl (fun _ => rfl) rfl ?_
  refine ex_go (S := (13, [(0, gx_r 0), (1, .inl 1), (2, .inl c), (3, .inl to)], [gx_r 0, gx_r 0], t121, n, 0)) rfl (fun _ => rfl) rfl ?_
  refine gxo_ref (a := 0) (c := 8) rfl g121 rfl rfl rfl rfl rfl ?_
  refine ex_go (S := (17, [(0, gx_r 0), (1, .inl 1), (2, .inl c), (3, .inl to)], [.inl 1, gx_r 8, gx_r 0], t121, n, 0)) rfl (fun _ => rfl) rfl ?_
  refine ex_go (S := (18, [(0, gx_r 0), (1, .inl 1), (2, .inl c), (3, .inl to)], [.inl c, .inl 1, gx_r 8, gx_r 0], t121, n, 0)) rfl (fun _ => rfl) rfl ?_
  refine ex_go (S := (19, [(0, gx_r 0), (1, .inl 1), (2, .inl c), (3, .inl to)], [.inl to, .inl c, .inl 1, gx_r 8, gx_r 0], t121, n, 0)) rfl (fun _ => rfl) rfl ?_
  obtain ⟨_, r123, y123, t123, rfl, g123, e123, p123, q123⟩ := sc_act1_8_257 d n (σ := σ) (c := c) (to := to) g121 (CW_keep hC (fun c i h => e121 c i (by first | decide | omega))) hw hb (SC_keep hS8 (fun c i h1 h2 => e121 c i (by first | decide | omega))) ((e121 0 10 (by first | decide | omega)).trans (k10)) (CX_keep hX (fun c i h => e121 c i (by first | decide | omega))) hB ht hc
  refine gx_callo (a := 0) rfl rfl g121 rfl rfl rfl r123 rfl ?_
  have k24 : ai_hv t123 0 10 = some (gx_r 257) := (e123 0 10 (by first | decide | omega)).trans k22
  show en_ex _ _ _ _ (22, [(0, gx_r 0), (1, .inl 1), (2, .inl c), (3, .inl to)], [.inl y123], t123, n, 0) _
  refine ex_go (S := (24, [(4, .inl y123), (0, gx_r 0), (1, .inl 1), (2, .inl c), (3, .inl to)], [], t123, n, 0)) rfl (fun _ => rfl) rfl ?_
  by_cases hc9 : mayH w σ c to
  · obtain ⟨hy9, hs9⟩ := p123 hc9
    refine ex_go (S := (26, [(4, .inl y123), (0, gx_r 0), (1, .inl 1), (2, .inl c), (3, .inl to)], [.inl y123], t123, n, 0)) rfl (fun _ => rfl) rfl ?_
    refine ex_go (S := (27, [(4, .inl y123), (0, gx_r 0), (1, .inl 1), (2, .inl c), (3, .inl to)], [.inl 4294967295, .inl y123], t123, n, 0)) rfl (fun _ => rfl) rfl ?_
    refine gx_2mf (c := .eq) rfl (by first | decide | omega) rfl rfl ?_
    show en_ex _ _ _ _ (30, [(4, .inl y123), (0, gx_r 0), (1, .inl 1), (2, .inl c), (3, .inl to)], [], t123, n, 0) _
    refine ex_go (S := (31, [(4, .inl y123), (0, gx_r 0), (1, .inl 1), (2, .inl c), (3, .inl to)], [gx_r 0], t123, n, 0)) rfl (fun _ => rfl) rfl ?_
    refine gxo_ref (a := 0) (c := 22) rfl g123 rfl rfl rfl rfl rfl ?_
    refine ex_go (S := (35, [(4, .inl y123), (0, gx_r 0), (1, .inl 1), (2, .inl c), (3, .inl to)], [gx_r 0, gx_r 22], t123, n, 0)) rfl (fun _ => rfl) rfl ?_
    refine gxo_ref (a := 0) (c := 15) rfl g123 rfl rfl rfl rfl rfl ?_
    obtain ⟨_, r125, t125, rfl, g125, e125, o125, ho125, ka125, kb125, kc125⟩ := sc_keep (d + 3) n (u := u) (o := o) (T := w 0 2) (K := w 0 4) (σ := σ) (τ := τ) g123 hu ho hw.1.2.2.1 hw.1.2.2.2.2.1 ((e123 22 2 (by first | decide | omega)).trans ((e121 22 2 (by first | decide | omega)).trans (ku))) ((e123 22 1 (by first | decide | omega)).trans ((e121 22 1 (by first | decide | omega)).trans (ko))) (SC_keep (SC_take hS8 hw.1.2.2.1 hw.1.2.2.2.2.1 y121a y121b y121c) (fun c i h1 h2 => e123 c i (by first | decide | omega))) (fun k hk => SC_keep (hτ k hk) (fun c i h1 h2 => (e123 c i (by first | decide | omega)).trans (e121 c i (by first | decide | omega))))
    refine gx_callo (a := 22) rfl rfl g123 rfl rfl rfl r125 rfl ?_
    have k26 : ai_hv t125 0 10 = some (gx_r 257) := (e125 0 10 (by first | decide | omega)).trans k24
    show en_ex _ _ _ _ (41, [(4, .inl y123), (0, gx_r 0), (1, .inl 1), (2, .inl c), (3, .inl to)], [], t125, n, 0) _
    refine ex_go (S := (43, [(4, .inl y123), (0, gx_r 0), (1, .inl 1), (2, .inl c), (3, .inl to)], [.inl y123], t125, n, 0)) rfl (fun _ => rfl) rfl ?_
    refine ex_ret (r := (some (.inl y123), t125, n, 0)) rfl (fun _ => rfl) ?_
    exact ⟨_, rfl, _, t125, rfl, g125, (fun c i h => (e125 c i (by first | decide | omega)).trans ((e123 c i (by first | decide | omega)).trans (e121 c i (by first | decide | omega)))), (fun _ => ⟨hy9, CS_new hS0 (SC_keep hs9 (fun c i h1 h2 => e125 c i (by first | decide | omega))) ⟨o125, ho125, ka125, kb125, kc125⟩ (fun c i h => (e125 c i (by first | decide | omega)).trans ((e123 c i (by first | decide | omega)).trans (e121 c i (by first | decide | omega))))⟩), fun z => absurd hc9 z⟩
  · obtain ⟨hy9, hs9⟩ := q123 hc9
    refine ex_go (S := (26, [(4, .inl y123), (0, gx_r 0), (1, .inl 1), (2, .inl c), (3, .inl to)], [.inl y123], t123, n, 0)) rfl (fun _ => rfl) rfl ?_
    refine ex_go (S := (27, [(4, .inl y123), (0, gx_r 0), (1, .inl 1), (2, .inl c), (3, .inl to)], [.inl 4294967295, .inl y123], t123, n, 0)) rfl (fun _ => rfl) rfl ?_
    refine gs_same rfl (by first | decide | omega) rfl ?_
    show en_ex _ _ _ _ (41, [(4, .inl y123), (0, gx_r 0), (1, .inl 1), (2, .inl c), (3, .inl to)], [], t123, n, 0) _
    refine ex_go (S := (43, [(4, .inl y123), (0, gx_r 0), (1, .inl 1), (2, .inl c), (3, .inl to)], [.inl y123], t123, n, 0)) rfl (fun _ => rfl) rfl ?_
    refine ex_ret (r := (some (.inl y123), t123, n, 0)) rfl (fun _ => rfl) ?_
    exact ⟨_, rfl, _, t123, rfl, g123, (fun c i h => (e123 c i (by first | decide | omega)).trans (e121 c i (by first | decide | omega))), (fun z => absurd z hc9), fun _ => ⟨hy9, by rw [hs9]; exact CS_keep hS0 (fun c i h => by unfold CSC at h; exact e121 c i (by first | decide | omega))⟩⟩
theorem sc_by2_257 (d n : Nat) {t0 : en_H} {w : Nat → Nat → Nat} {L : List Nat} {σ F v : Nat → Nat} {τ μ : Nat → Nat → Nat} {u q : Nat} {c : Nat} (g0 : ai_HG ah_G t0) (hC : CW t0 257 w L) (hw : WS w) (hb : sbd σ) (k10 : ai_hv t0 0 10 = some (gx_r 257)) (hS : CS t0 (w 0 2) (w 0 4) σ u τ F μ q v) (hu : u ≤ 16) {x : Nat} (hsum : σ 7 + σ 8 ≤ 19998) (hx : x ≤ 999) (hc : c < w 0 4) : ∃ r, en_u (d + 6) 114 [gx_r 0, .inl 2, .inl c, .inl x] t0 n = some r ∧ ∃ y t', r = (some (.inl y), t', n, 0) ∧ ai_HG ah_G t' ∧ (∀ c i, ¬ (c = 297 ∨ (8 ≤ c ∧ c ≤ 21) ∨ (c = 22 ∧ 1 ≤ i) ∨ (24 ≤ c ∧ c ≤ 135)) → ai_hv t' c i = ai_hv t0 c i) ∧ (mayL w σ c → y = lnv σ c x ∧ CS t' (w 0 2) (w 0 4) (sgL σ c x) (kpu u) (kpt u σ τ) F μ q v) ∧ (¬ mayL w σ c → y = 4294967295 ∧ CS t' (w 0 2) (w 0 4) σ u τ F μ q v) := by
  have hS0 := hS
  obtain ⟨hS8, hq, ⟨o, ho, ko, ku, hτ⟩, hm⟩ := hS
  refine en_u_ex (d := d + 5) rfl ?_
  show en_ex _ _ _ _ (0, [(0, gx_r 0), (1, .inl 2), (2, .inl c), (3, .inl x)], [], t0, n, 0) _
  refine ex_go (S := (1, [(0, gx_r 0), (1, .inl 2), (2, .inl c), (3, .inl x)], [gx_r 0], t0, n, 0)) rfl (fun _ => rfl) rfl ?_
  refine gxo_ref (a := 0) (c := 15) rfl g0 rfl rfl rfl rfl rfl ?_
  refine ex_go (S := (5, [(0, gx_r 0), (1, .inl 2), (2, .inl c), (3, .inl x)], [gx_r 0, gx_r 15], t0, n, 0)) rfl (fun _ => rfl) rfl ?_
  refine gxo_ref (a := 0) (c := 8) rfl g0 rfl rfl rfl rfl rfl ?_
  obtain ⟨_, r121, t121, rfl, g121, e121, y121a, y121b, y121c⟩ := sc_take (d + 4) n (A := 15) (B := 8) g0 StA_15 StA_8 (by unfold StD; omega)
  refine gx_callo (a := 15) rfl rfl g0 rfl rfl rfl r121 rfl ?_
  have k22 : ai_hv t121 0 10 = some (gx_r 257) := (e121 0 10 (by first | decide | omega)).trans k10
  show en_ex _ _ _ _ (11, [(0, gx_r 0), (1, .inl 2), (2, .inl c), (3, .inl x)], [], t121, n, 0) _
  refine ex_go (S := (12, [(0, gx_r 0), (1, .inl 2), (2, .inl c), (3, .inl x)], [gx_r 0], t121, n, 0)) rfl (fun _ => rfl) rfl ?_
  refine ex_go (S := (13, [(0, gx_r 0), (1, .inl 2), (2, .inl c), (3, .inl x)], [gx_r 0, gx_r 0], t121, n, 0)) rfl (fun _ => rfl) rfl ?_
  refine gxo_ref (a := 0) (c := 8) rfl g121 rfl rfl rfl rfl rfl ?_
  refine ex_go (S := (17, [(0, gx_r 0), (1, .inl 2), (2, .inl c), (3, .inl x)], [.inl 2, gx_r 8, gx_r 0], t121, n, 0)) rfl (fun _ => rfl) rfl ?_
  refine ex_go (S := (18, [(0, gx_r 0), (1, .inl 2), (2, .inl c), (3, .inl x)], [.inl c, .inl 2, gx_r 8, gx_r 0], t121, n, 0)) rfl (fun _ => rfl) rfl ?_
  refine ex_go (S := (19, [(0, gx_r 0), (1, .inl 2), (2, .inl c), (3, .inl x)], [.inl x, .inl c, .inl 2, gx_r 8, gx_r 0], t121, n, 0)) rfl (fun _ => rfl) rfl ?_
  obtain ⟨_, r123, y123, t123, rfl, g123, e123, p123, q123⟩ := sc_act2_8_257 d n (σ := σ) (c := c) (v := x) g121 (CW_keep hC (fun c i h => e121 c i (by first | decide | omega))) hw hb (SC_keep hS8 (fun c i h1 h2 => e121 c i (by first | decide | omega))) ((e121 0 10 (by first | decide | omega)).trans (k10)) hsum hx hc
  refine gx_callo (a := 0) rfl rfl g121 rfl rfl rfl r123 rfl ?_
  have k24 : ai_hv t123 0 10 = some (gx_r 257) := (e123 0 10 (by first | decide | omega)).trans k22
  show en_ex _ _ _ _ (22, [(0, gx_r 0), (1, .inl 2), (2, .inl c), (3, .inl x)], [.inl y123], t123, n, 0) _
  refine ex_go (S := (24, [(4, .inl y123), (0, gx_r 0), (1, .inl 2), (2, .inl c), (3, .inl x)], [], t123, n, 0)) rfl (fun _ => rfl) rfl ?_
  by_cases hc9 : mayL w σ c
  · obtain ⟨hy9, hs9⟩ := p123 hc9
    have hln : lnv σ c x ≤ 999 := Nat.le_trans (Nat.min_le_left _ _) hx
    refine ex_go (S := (26, [(4, .inl y123), (0, gx_r 0), (1, .inl 2), (2, .inl c), (3, .inl x)], [.inl y123], t123, n, 0)) rfl (fun _ => rfl) rfl ?_
    refine ex_go (S := (27, [(4, .inl y123), (0, gx_r 0), (1, .inl 2), (2, .inl c), (3, .inl x)], [.inl 4294967295, .inl y123], t123, n, 0)) rfl (fun _ => rfl) rfl ?_
    refine gx_2mf (c := .eq) rfl (by first | decide | omega) rfl rfl ?_
    show en_ex _ _ _ _ (30, [(4, .inl y123), (0, gx_r 0), (1, .inl 2), (2, .inl c), (3, .inl x)], [], t123, n, 0) _
    refine ex_go (S := (31, [(4, .inl y123), (0, gx_r 0), (1, .inl 2), (2, .inl c), (3, .inl x)], [gx_r 0], t123, n, 0)) rfl (fun _ => rfl) rfl ?_
    refine gxo_ref (a := 0) (c := 22) rfl g123 rfl rfl rfl rfl rfl ?_
    refine ex_go (S := (35, [(4, .inl y123), (0, gx_r 0), (1, .inl 2), (2, .inl c), (3, .inl x)], [gx_r 0, gx_r 22], t123, n, 0)) rfl (fun _ => rfl) rfl ?_
    refine gxo_ref (a := 0) (c := 15) rfl g123 rfl rfl rfl rfl rfl ?_
    obtain ⟨_, r125, t125, rfl, g125, e125, o125, ho125, ka125, kb125, kc125⟩ := sc_keep (d + 3) n (u := u) (o := o) (T := w 0 2) (K := w 0 4) (σ := σ) (τ := τ) g123 hu ho hw.1.2.2.1 hw.1.2.2.2.2.1 ((e123 22 2 (by first | decide | omega)).trans ((e121 22 2 (by first | decide | omega)).trans (ku))) ((e123 22 1 (by first | decide | omega)).trans ((e121 22 1 (by first | decide | omega)).trans (ko))) (SC_keep (SC_take hS8 hw.1.2.2.1 hw.1.2.2.2.2.1 y121a y121b y121c) (fun c i h1 h2 => e123 c i (by first | decide | omega))) (fun k hk => SC_keep (hτ k hk) (fun c i h1 h2 => (e123 c i (by first | decide | omega)).trans (e121 c i (by first | decide | omega))))
    refine gx_callo (a := 22) rfl rfl g123 rfl rfl rfl r125 rfl ?_
    have k26 : ai_hv t125 0 10 = some (gx_r 257) := (e125 0 10 (by first | decide | omega)).trans k24
    show en_ex _ _ _ _ (41, [(4, .inl y123), (0, gx_r 0), (1, .inl 2), (2, .inl c), (3, .inl x)], [], t125, n, 0) _
    refine ex_go (S := (43, [(4, .inl y123), (0, gx_r 0), (1, .inl 2), (2, .inl c), (3, .inl x)], [.inl y123], t125, n, 0)) rfl (fun _ => rfl) rfl ?_
    refine ex_ret (r := (some (.inl y123), t125, n, 0)) rfl (fun _ => rfl) ?_
    exact ⟨_, rfl, _, t125, rfl, g125, (fun c i h => (e125 c i (by first | decide | omega)).trans ((e123 c i (by first | decide | omega)).trans (e121 c i (by first | decide | omega)))), (fun _ => ⟨hy9, CS_new hS0 (SC_keep hs9 (fun c i h1 h2 => e125 c i (by first | decide | omega))) ⟨o125, ho125, ka125, kb125, kc125⟩ (fun c i h => (e125 c i (by first | decide | omega)).trans ((e123 c i (by first | decide | omega)).trans (e121 c i (by first | decide | omega))))⟩), fun z => absurd hc9 z⟩
  · obtain ⟨hy9, hs9⟩ := q123 hc9
    refine ex_go (S := (26, [(4, .inl y123), (0, gx_r 0), (1, .inl 2), (2, .inl c), (3, .inl x)], [.inl y123], t123, n, 0)) rfl (fun _ => rfl) rfl ?_
    refine ex_go (S := (27, [(4, .inl y123), (0, gx_r 0), (1, .inl 2), (2, .inl c), (3, .inl x)], [.inl 4294967295, .inl y123], t123, n, 0)) rfl (fun _ => rfl) rfl ?_
    refine gs_same rfl (by first | decide | omega) rfl ?_
    show en_ex _ _ _ _ (41, [(4, .inl y123), (0, gx_r 0), (1, .inl 2), (2, .inl c), (3, .inl x)], [], t123, n, 0) _
    refine ex_go (S := (43, [(4, .inl y123), (0, gx_r 0), (1, .inl 2), (2, .inl c), (3, .inl x)], [.inl y123], t123, n, 0)) rfl (fun _ => rfl) rfl ?_
    refine ex_ret (r := (some (.inl y123), t123, n, 0)) rfl (fun _ => rfl) ?_
    exact ⟨_, rfl, _, t123, rfl, g123, (fun c i h => (e123 c i (by first | decide | omega)).trans (e121 c i (by first | decide | omega))), (fun z => absurd z hc9), fun _ => ⟨hy9, by rw [hs9]; exact CS_keep hS0 (fun c i h => by unfold CSC at h; exact e121 c i (by first | decide | omega))⟩⟩
theorem sc_by3_257 (d n : Nat) {t0 : en_H} {w : Nat → Nat → Nat} {L : List Nat} {σ F v : Nat → Nat} {τ μ : Nat → Nat → Nat} {u q : Nat} {c : Nat} (g0 : ai_HG ah_G t0) (hC : CW t0 257 w L) (hw : WS w) (hb : sbd σ) (k10 : ai_hv t0 0 10 = some (gx_r 257)) (hS : CS t0 (w 0 2) (w 0 4) σ u τ F μ q v) (hu : u ≤ 16) {to : Nat} (hc : c < w 0 4) : ∃ r, en_u (d + 6) 114 [gx_r 0, .inl 3, .inl c, .inl to] t0 n = some r ∧ ∃ y t', r = (some (.inl y), t', n, 0) ∧ ai_HG ah_G t' ∧ (∀ c i, ¬ (c = 297 ∨ (8 ≤ c ∧ c ≤ 21) ∨ (c = 22 ∧ 1 ≤ i) ∨ (24 ≤ c ∧ c ≤ 135)) → ai_hv t' c i = ai_hv t0 c i) ∧ (mayM w σ c → y = 0 ∧ CS t' (w 0 2) (w 0 4) (sgM' σ c) (kpu u) (kpt u σ τ) F μ q v) ∧ (¬ mayM w σ c → y = 4294967295 ∧ CS t' (w 0 2) (w 0 4) σ u τ F μ q v) := by
  have hS0 := hS
  obtain ⟨hS8, hq, ⟨o, ho, ko, ku, hτ⟩, hm⟩ := hS
  refine en_u_ex (d := d + 5) rfl ?_
  show en_ex _ _ _ _ (0, [(0, gx_r 0), (1, .inl 3), (2, .inl c), (3, .inl to)], [], t0, n, 0) _
  refine ex_go (S := (1, [(0, gx_r 0), (1, .inl 3), (2, .inl c), (3, .inl to)], [gx_r 0], t0, n, 0)) rfl (fun _ => rfl) rfl ?_
  refine gxo_ref (a := 0) (c := 15) rfl g0 rfl rfl rfl rfl rfl ?_
  refine ex_go (S := (5, [(0, gx_r 0), (1, .inl 3), (2, .inl c), (3, .inl to)], [gx_r 0, gx_r 15], t0, n, 0)) rfl (fun _ => rfl) rfl ?_
  refine gxo_ref (a := 0) (c := 8) rfl g0 rfl rfl rfl rfl rfl ?_
  obtain ⟨_, r121, t121, rfl, g121, e121, y121a, y121b, y121c⟩ := sc_take (d + 4) n (A := 15) (B := 8) g0 StA_15 StA_8 (by unfold StD; omega)
  refine gx_callo (a := 15) rfl rfl g0 rfl rfl rfl r121 rfl ?_
  have k22 : ai_hv t121 0 10 = some (gx_r 257) := (e121 0 10 (by first | decide | omega)).trans k10
  show en_ex _ _ _ _ (11, [(0, gx_r 0), (1, .inl 3), (2, .inl c), (3, .inl to)], [], t121, n, 0) _
  refine ex_go (S := (12, [(0, gx_r 0), (1, .inl 3), (2, .inl c), (3, .inl to)], [gx_r 0], t121, n, 0)) rfl (fun _ => rfl) rfl ?_
  refine ex_go (S := (13, [(0, gx_r 0), (1, .inl 3), (2, .inl c), (3, .inl to)], [gx_r 0, gx_r 0], t121, n, 0)) rfl (fun _ => rfl) rfl ?_
  refine gxo_ref (a := 0) (c := 8) rfl g121 rfl rfl rfl rfl rfl ?_
  refine ex_go (S := (17, [(0, gx_r 0), (1, .inl 3), (2, .inl c), (3, .inl to)], [.inl 3, gx_r 8, gx_r 0], t121, n, 0)) rfl (fun _ => rfl) rfl ?_
  refine ex_go (S := (18, [(0, gx_r 0), (1, .inl 3), (2, .inl c), (3, .inl to)], [.inl c, .inl 3, gx_r 8, gx_r 0], t121, n, 0)) rfl (fun _ => rfl) rfl ?_
  refine ex_go (S := (19, [(0, gx_r 0), (1, .inl 3), (2, .inl c), (3, .inl to)], [.inl to, .inl c, .inl 3, gx_r 8, gx_r 0], t121, n, 0)) rfl (fun _ => rfl) rfl ?_
  obtain ⟨_, r123, y123, t123, rfl, g123, e123, p123, q123⟩ := sc_act3_8_257 d n (σ := σ) (c := c) (to := to) g121 (CW_keep hC (fun c i h => e121 c i (by first | decide | omega))) hw hb (SC_keep hS8 (fun c i h1 h2 => e121 c i (by first | decide | omega))) ((e121 0 10 (by first | decide | omega)).trans (k10)) hc
  refine gx_callo (a := 0) rfl rfl g121 rfl rfl rfl r123 rfl ?_
  have k24 : ai_hv t123 0 10 = some (gx_r 257) := (e123 0 10 (by first | decide | omega)).trans k22
  show en_ex _ _ _ _ (22, [(0, gx_r 0), (1, .inl 3), (2, .inl c), (3, .inl to)], [.inl y123], t123, n, 0) _
  refine ex_go (S := (24, [(4, .inl y123), (0, gx_r 0), (1, .inl 3), (2, .inl c), (3, .inl to)], [], t123, n, 0)) rfl (fun _ => rfl) rfl ?_
  by_cases hc9 : mayM w σ c
  · obtain ⟨hy9, hs9⟩ := p123 hc9
    refine ex_go (S := (26, [(4, .inl y123), (0, gx_r 0), (1, .inl 3), (2, .inl c), (3, .inl to)], [.inl y123], t123, n, 0)) rfl (fun _ => rfl) rfl ?_
    refine ex_go (S := (27, [(4, .inl y123), (0, gx_r 0), (1, .inl 3), (2, .inl c), (3, .inl to)], [.inl 4294967295, .inl y123], t123, n, 0)) rfl (fun _ => rfl) rfl ?_
    refine gx_2mf (c := .eq) rfl (by first | decide | omega) rfl rfl ?_
    show en_ex _ _ _ _ (30, [(4, .inl y123), (0, gx_r 0), (1, .inl 3), (2, .inl c), (3, .inl to)], [], t123, n, 0) _
    refine ex_go (S := (31, [(4, .inl y123), (0, gx_r 0), (1, .inl 3), (2, .inl c), (3, .inl to)], [gx_r 0], t123, n, 0)) rfl (fun _ => rfl) rfl ?_
    refine gxo_ref (a := 0) (c := 22) rfl g123 rfl rfl rfl rfl rfl ?_
    refine ex_go (S := (35, [(4, .inl y123), (0, gx_r 0), (1, .inl 3), (2, .inl c), (3, .inl to)], [gx_r 0, gx_r 22], t123, n, 0)) rfl (fun _ => rfl) rfl ?_
    refine gxo_ref (a := 0) (c := 15) rfl g123 rfl rfl rfl rfl rfl ?_
    obtain ⟨_, r125, t125, rfl, g125, e125, o125, ho125, ka125, kb125, kc125⟩ := sc_keep (d + 3) n (u := u) (o := o) (T := w 0 2) (K := w 0 4) (σ := σ) (τ := τ) g123 hu ho hw.1.2.2.1 hw.1.2.2.2.2.1 ((e123 22 2 (by first | decide | omega)).trans ((e121 22 2 (by first | decide | omega)).trans (ku))) ((e123 22 1 (by first | decide | omega)).trans ((e121 22 1 (by first | decide | omega)).trans (ko))) (SC_keep (SC_take hS8 hw.1.2.2.1 hw.1.2.2.2.2.1 y121a y121b y121c) (fun c i h1 h2 => e123 c i (by first | decide | omega))) (fun k hk => SC_keep (hτ k hk) (fun c i h1 h2 => (e123 c i (by first | decide | omega)).trans (e121 c i (by first | decide | omega))))
    refine gx_callo (a := 22) rfl rfl g123 rfl rfl rfl r125 rfl ?_
    have k26 : ai_hv t125 0 10 = some (gx_r 257) := (e125 0 10 (by first | decide | omega)).trans k24
    show en_ex _ _ _ _ (41, [(4, .inl y123), (0, gx_r 0), (1, .inl 3), (2, .inl c), (3, .inl to)], [], t125, n, 0) _
    refine ex_go (S := (43, [(4, .inl y123), (0, gx_r 0), (1, .inl 3), (2, .inl c), (3, .inl to)], [.inl y123], t125, n, 0)) rfl (fun _ => rfl) rfl ?_
    refine ex_ret (r := (some (.inl y123), t125, n, 0)) rfl (fun _ => rfl) ?_
    exact ⟨_, rfl, _, t125, rfl, g125, (fun c i h => (e125 c i (by first | decide | omega)).trans ((e123 c i (by first | decide | omega)).trans (e121 c i (by first | decide | omega)))), (fun _ => ⟨hy9, CS_new hS0 (SC_keep hs9 (fun c i h1 h2 => e125 c i (by first | decide | omega))) ⟨o125, ho125, ka125, kb125, kc125⟩ (fun c i h => (e125 c i (by first | decide | omega)).trans ((e123 c i (by first | decide | omega)).trans (e121 c i (by first | decide | omega))))⟩), fun z => absurd hc9 z⟩
  · obtain ⟨hy9, hs9⟩ := q123 hc9
    refine ex_go (S := (26, [(4, .inl y123), (0, gx_r 0), (1, .inl 3), (2, .inl c), (3, .inl to)], [.inl y123], t123, n, 0)) rfl (fun _ => rfl) rfl ?_
    refine ex_go (S := (27, [(4, .inl y123), (0, gx_r 0), (1, .inl 3), (2, .inl c), (3, .inl to)], [.inl 4294967295, .inl y123], t123, n, 0)) rfl (fun _ => rfl) rfl ?_
    refine gs_same rfl (by first | decide | omega) rfl ?_
    show en_ex _ _ _ _ (41, [(4, .inl y123), (0, gx_r 0), (1, .inl 3), (2, .inl c), (3, .inl to)], [], t123, n, 0) _
    refine ex_go (S := (43, [(4, .inl y123), (0, gx_r 0), (1, .inl 3), (2, .inl c), (3, .inl to)], [.inl y123], t123, n, 0)) rfl (fun _ => rfl) rfl ?_
    refine ex_ret (r := (some (.inl y123), t123, n, 0)) rfl (fun _ => rfl) ?_
    exact ⟨_, rfl, _, t123, rfl, g123, (fun c i h => (e123 c i (by first | decide | omega)).trans (e121 c i (by first | decide | omega))), (fun z => absurd z hc9), fun _ => ⟨hy9, by rw [hs9]; exact CS_keep hS0 (fun c i h => by unfold CSC at h; exact e121 c i (by first | decide | omega))⟩⟩
theorem sc_haul257 (d n : Nat) {t0 : en_H} {w : Nat → Nat → Nat} {L : List Nat} {σ F v : Nat → Nat} {τ μ : Nat → Nat → Nat} {u q : Nat} {c x y : Nat} (g0 : ai_HG ah_G t0) (hC : CW t0 257 w L) (hw : WS w) (hb : sbd σ) (k10 : ai_hv t0 0 10 = some (gx_r 257)) (hS : CS t0 (w 0 2) (w 0 4) σ u τ F μ q v) (hu : u ≤ 16) (hX : CX t0 257 w) (hB : σ 0 ≤ 900000) (hc : c < 4294967296) (hx : x < 4294967296) (hy : y < 4294967296) : ∃ r, en_u (d + 7) 44 [gx_r 0, .inl c, .inl x, .inl y] t0 n = some r ∧ ∃ z t', r = (some (.inl z), t', n, 0) ∧ ai_HG ah_G t' ∧ (∀ c i, ¬ (c = 297 ∨ (8 ≤ c ∧ c ≤ 21) ∨ (c = 22 ∧ 1 ≤ i) ∨ (24 ≤ c ∧ c ≤ 135)) → ai_hv t' c i = ai_hv t0 c i) ∧ z ≤ 1 ∧ (z = 1 → (c < w 0 4 ∧ x < w 0 0 ∧ y < w 0 1 ∧ mayH w σ c (8 * y + x)) ∧ CS t' (w 0 2) (w 0 4) (sgH σ c (8 * y + x)) (kpu u) (kpt u σ τ) F μ q v) ∧ (z = 0 → ¬ (c < w 0 4 ∧ x < w 0 0 ∧ y < w 0 1 ∧ mayH w σ c (8 * y + x)) ∧ CS t' (w 0 2) (w 0 4) σ u τ F μ q v) := by
  have hO := hw.1.1
  have hD := hw.1.2.1
  have hK := hw.1.2.2.2.2.1
  refine en_u_ex (d := d + 6) rfl ?_
  show en_ex _ _ _ _ (0, [(0, gx_r 0), (1, .inl c), (2, .inl x), (3, .inl y)], [], t0, n, 0) _
  refine ex_go (S := (1, [(0, gx_r 0), (1, .inl c), (2, .inl x), (3, .inl y)], [gx_r 0], t0, n, 0)) rfl (fun _ => rfl) rfl ?_
  refine gxo_get (a := 0) rfl g0 rfl rfl k10 rfl ?_
  refine gxo_ref (a := 257) (c := 272) rfl g0 rfl rfl rfl rfl rfl ?_
  refine ex_go (S := (8, [(0, gx_r 0), (1, .inl c), (2, .inl x), (3, .inl y)], [.inl c, gx_r 272], t0, n, 0)) rfl (fun _ => rfl) rfl ?_
  obtain ⟨_, r121, b121, rfl, hb121, hi121⟩ := pz_holds272 (d + 5) n (x := c) (K := w 0 4) g0 (by first | decide | omega) hC.1.2.2.2.2.2 (by first | decide | omega)
  refine gx_callo (a := 272) rfl rfl g0 rfl rfl rfl r121 rfl ?_
  show en_ex _ _ _ _ (11, [(0, gx_r 0), (1, .inl c), (2, .inl x), (3, .inl y)], [.inl b121], t0, n, 0) _
  by_cases hc22 : b121 = 0
  · refine gx_1t (c := .eq) rfl (by first | decide | omega) hc22 rfl ?_
    refine ex_go (S := (27, [(0, gx_r 0), (1, .inl c), (2, .inl x), (3, .inl y)], [.inl 0], t0, n, 0)) rfl (fun _ => rfl) rfl ?_
    refine ex_ret (r := (some (.inl 0), t0, n, 0)) rfl (fun _ => rfl) ?_
    exact ⟨_, rfl, 0, t0, rfl, g0, (fun _ _ _ => rfl), by decide, (fun z => absurd z (by decide)), fun _ => ⟨(fun z => by obtain ⟨z0, z1, z2, -⟩ := z; omega), hS⟩⟩
  · refine gx_1f (c := .eq) rfl (by first | decide | omega) hc22 rfl ?_
    refine ex_go (S := (15, [(0, gx_r 0), (1, .inl c), (2, .inl x), (3, .inl y)], [gx_r 0], t0, n, 0)) rfl (fun _ => rfl) rfl ?_
    refine gxo_get (a := 0) rfl g0 rfl rfl k10 rfl ?_
    refine ex_go (S := (19, [(0, gx_r 0), (1, .inl c), (2, .inl x), (3, .inl y)], [.inl x, gx_r 257], t0, n, 0)) rfl (fun _ => rfl) rfl ?_
    refine ex_go (S := (20, [(0, gx_r 0), (1, .inl c), (2, .inl x), (3, .inl y)], [.inl y, .inl x, gx_r 257], t0, n, 0)) rfl (fun _ => rfl) rfl ?_
    obtain ⟨_, r123, b123, rfl, hb123, hi123⟩ := pc_isPlace257 (d + 5) n (x := x) (y := y) (o := w 0 0) (e := w 0 1) g0 hC.1.1 hC.1.2.1 (by first | decide | omega) (by first | decide | omega) hO hD
    refine gx_callo (a := 257) rfl rfl g0 rfl rfl rfl r123 rfl ?_
    show en_ex _ _ _ _ (23, [(0, gx_r 0), (1, .inl c), (2, .inl x), (3, .inl y)], [.inl b123], t0, n, 0) _
    by_cases hc24 : b123 ≠ 0
    · refine gx_1t (c := .ne) rfl (by first | decide | omega) hc24 rfl ?_
      refine ex_go (S := (29, [(0, gx_r 0), (1, .inl c), (2, .inl x), (3, .inl y)], [gx_r 0], t0, n, 0)) rfl (fun _ => rfl) rfl ?_
      refine ex_go (S := (30, [(0, gx_r 0), (1, .inl c), (2, .inl x), (3, .inl y)], [.inl 1, gx_r 0], t0, n, 0)) rfl (fun _ => rfl) rfl ?_
      refine ex_go (S := (31, [(0, gx_r 0), (1, .inl c), (2, .inl x), (3, .inl y)], [.inl c, .inl 1, gx_r 0], t0, n, 0)) rfl (fun _ => rfl) rfl ?_
      refine ex_go (S := (32, [(0, gx_r 0), (1, .inl c), (2, .inl x), (3, .inl y)], [.inl x, .inl c, .inl 1, gx_r 0], t0, n, 0)) rfl (fun _ => rfl) rfl ?_
      refine ex_go (S := (33, [(0, gx_r 0), (1, .inl c), (2, .inl x), (3, .inl y)], [.inl y, .inl x, .inl c, .inl 1, gx_r 0], t0, n, 0)) rfl (fun _ => rfl) rfl ?_
      obtain ⟨_, r25, rfl⟩ := pc_placeOf2 (d + 5) n (t0 := t0) (x := x) (y := y) (by first | decide | omega) (by first | decide | omega)
      rw [Nat.add_comm x (8 * y)] at r25
      refine ex_stat rfl rfl rfl rfl rfl r25 (Nat.le_refl _) rfl ?_
      show en_ex _ _ _ _ (36, [(0, gx_r 0), (1, .inl c), (2, .inl x), (3, .inl y)], [.inl (8 * y + x), .inl c, .inl 1, gx_r 0], t0, n, 0) _
      obtain ⟨_, r126, y126, t126, rfl, g126, e126, p126, q126⟩ := sc_by1_257 d n (c := c) (to := 8 * y + x) g0 hC hw hb k10 hS hu hX hB (by first | decide | omega) (by first | decide | omega)
      refine gx_callo (a := 0) rfl rfl g0 rfl rfl rfl r126 rfl ?_
      have k27 : ai_hv t126 0 10 = some (gx_r 257) := (e126 0 10 (by first | decide | omega)).trans k10
      show en_ex _ _ _ _ (39, [(0, gx_r 0), (1, .inl c), (2, .inl x), (3, .inl y)], [.inl y126], t126, n, 0) _
      refine ex_go (S := (40, [(0, gx_r 0), (1, .inl c), (2, .inl x), (3, .inl y)], [.inl 4294967295, .inl y126], t126, n, 0)) rfl (fun _ => rfl) rfl ?_
      by_cases hc9 : mayH w σ c (8 * y + x)
      · obtain ⟨hy9, hs9⟩ := p126 hc9
        refine gx_2mf (c := .eq) rfl (by first | decide | omega) rfl rfl ?_
        show en_ex _ _ _ _ (43, [(0, gx_r 0), (1, .inl c), (2, .inl x), (3, .inl y)], [], t126, n, 0) _
        refine ex_go (S := (44, [(0, gx_r 0), (1, .inl c), (2, .inl x), (3, .inl y)], [.inl 1], t126, n, 0)) rfl (fun _ => rfl) rfl ?_
        refine ex_go (S := (48, [(0, gx_r 0), (1, .inl c), (2, .inl x), (3, .inl y)], [.inl 1], t126, n, 0)) rfl (fun _ => rfl) rfl ?_
        refine ex_ret (r := (some (.inl 1), t126, n, 0)) rfl (fun _ => rfl) ?_
        exact ⟨_, rfl, 1, t126, rfl, g126, e126, by decide, (fun _ => ⟨⟨by omega, by omega, by omega, hc9⟩, hs9⟩), fun z => absurd z (by decide)⟩
      · obtain ⟨hy9, hs9⟩ := q126 hc9
        refine gs_same rfl (by first | decide | omega) rfl ?_
        show en_ex _ _ _ _ (47, [(0, gx_r 0), (1, .inl c), (2, .inl x), (3, .inl y)], [], t126, n, 0) _
        refine ex_go (S := (48, [(0, gx_r 0), (1, .inl c), (2, .inl x), (3, .inl y)], [.inl 0], t126, n, 0)) rfl (fun _ => rfl) rfl ?_
        refine ex_ret (r := (some (.inl 0), t126, n, 0)) rfl (fun _ => rfl) ?_
        exact ⟨_, rfl, 0, t126, rfl, g126, e126, by decide, (fun z => absurd z (by decide)), fun _ => ⟨fun z => hc9 z.2.2.2, hs9⟩⟩
    · refine gx_1f (c := .ne) rfl (by first | decide | omega) hc24 rfl ?_
      refine ex_go (S := (27, [(0, gx_r 0), (1, .inl c), (2, .inl x), (3, .inl y)], [.inl 0], t0, n, 0)) rfl (fun _ => rfl) rfl ?_
      refine ex_ret (r := (some (.inl 0), t0, n, 0)) rfl (fun _ => rfl) ?_
      exact ⟨_, rfl, 0, t0, rfl, g0, (fun _ _ _ => rfl), by decide, (fun z => absurd z (by decide)), fun _ => ⟨(fun z => by obtain ⟨z0, z1, z2, -⟩ := z; omega), hS⟩⟩
theorem sc_lend257 (d n : Nat) {t0 : en_H} {w : Nat → Nat → Nat} {L : List Nat} {σ F v : Nat → Nat} {τ μ : Nat → Nat → Nat} {u q : Nat} {c x : Nat} (g0 : ai_HG ah_G t0) (hC : CW t0 257 w L) (hw : WS w) (hb : sbd σ) (k10 : ai_hv t0 0 10 = some (gx_r 257)) (hS : CS t0 (w 0 2) (w 0 4) σ u τ F μ q v) (hu : u ≤ 16) (hsum : σ 7 + σ 8 ≤ 19998) (hc : c < 4294967296) (hx : x < 4294967296) : ∃ r, en_u (d + 7) 46 [gx_r 0, .inl c, .inl x] t0 n = some r ∧ ∃ z t', r = (some (.inl z), t', n, 0) ∧ ai_HG ah_G t' ∧ (∀ c i, ¬ (c = 297 ∨ (8 ≤ c ∧ c ≤ 21) ∨ (c = 22 ∧ 1 ≤ i) ∨ (24 ≤ c ∧ c ≤ 135)) → ai_hv t' c i = ai_hv t0 c i) ∧ ((c < w 0 4 ∧ (1 ≤ x ∧ x ≤ 999) ∧ mayL w σ c) → z = lnv σ c x ∧ CS t' (w 0 2) (w 0 4) (sgL σ c x) (kpu u) (kpt u σ τ) F μ q v) ∧ (¬ (c < w 0 4 ∧ (1 ≤ x ∧ x ≤ 999) ∧ mayL w σ c) → z = 4294967295 ∧ CS t' (w 0 2) (w 0 4) σ u τ F μ q v) := by
  have hK := hw.1.2.2.2.2.1
  refine en_u_ex (d := d + 6) rfl ?_
  show en_ex _ _ _ _ (0, [(0, gx_r 0), (1, .inl c), (2, .inl x)], [], t0, n, 0) _
  refine ex_go (S := (1, [(0, gx_r 0), (1, .inl c), (2, .inl x)], [gx_r 0], t0, n, 0)) rfl (fun _ => rfl) rfl ?_
  refine gxo_get (a := 0) rfl g0 rfl rfl k10 rfl ?_
  refine gxo_ref (a := 257) (c := 272) rfl g0 rfl rfl rfl rfl rfl ?_
  refine ex_go (S := (8, [(0, gx_r 0), (1, .inl c), (2, .inl x)], [.inl c, gx_r 272], t0, n, 0)) rfl (fun _ => rfl) rfl ?_
  obtain ⟨_, r121, b121, rfl, hb121, hi121⟩ := pz_holds272 (d + 5) n (x := c) (K := w 0 4) g0 (by first | decide | omega) hC.1.2.2.2.2.2 (by first | decide | omega)
  refine gx_callo (a := 272) rfl rfl g0 rfl rfl rfl r121 rfl ?_
  show en_ex _ _ _ _ (11, [(0, gx_r 0), (1, .inl c), (2, .inl x)], [.inl b121], t0, n, 0) _
  by_cases hc22 : b121 = 0
  · refine gx_1t (c := .eq) rfl (by first | decide | omega) hc22 rfl ?_
    refine ex_go (S := (26, [(0, gx_r 0), (1, .inl c), (2, .inl x)], [.inl 4294967295], t0, n, 0)) rfl (fun _ => rfl) rfl ?_
    refine ex_ret (r := (some (.inl 4294967295), t0, n, 0)) rfl (fun _ => rfl) ?_
    exact ⟨_, rfl, _, t0, rfl, g0, (fun _ _ _ => rfl), (fun z => by obtain ⟨z1, z2, -⟩ := z; omega), fun _ => ⟨rfl, hS⟩⟩
  · refine gx_1f (c := .eq) rfl (by first | decide | omega) hc22 rfl ?_
    refine ex_go (S := (15, [(0, gx_r 0), (1, .inl c), (2, .inl x)], [.inl x], t0, n, 0)) rfl (fun _ => rfl) rfl ?_
    refine ex_go (S := (16, [(0, gx_r 0), (1, .inl c), (2, .inl x)], [.inl 1, .inl x], t0, n, 0)) rfl (fun _ => rfl) rfl ?_
    refine ex_go (S := (19, [(0, gx_r 0), (1, .inl c), (2, .inl x)], [.inl 999, .inl 1, .inl x], t0, n, 0)) rfl (fun _ => rfl) rfl ?_
    obtain ⟨_, r23, b24, rfl, b24b, q25⟩ := pz_isWithin (d + 5) n (t0 := t0) (x := x) (lo := 1) (hi := 999) (by first | decide | omega) (by first | decide | omega) (by first | decide | omega)
    refine ex_stat rfl rfl rfl rfl rfl r23 (Nat.le_refl _) rfl ?_
    show en_ex _ _ _ _ (22, [(0, gx_r 0), (1, .inl c), (2, .inl x)], [.inl b24], t0, n, 0) _
    by_cases hc26 : b24 ≠ 0
    · refine gx_1t (c := .ne) rfl (by first | decide | omega) hc26 rfl ?_
      refine ex_go (S := (28, [(0, gx_r 0), (1, .inl c), (2, .inl x)], [gx_r 0], t0, n, 0)) rfl (fun _ => rfl) rfl ?_
      refine ex_go (S := (29, [(0, gx_r 0), (1, .inl c), (2, .inl x)], [.inl 2, gx_r 0], t0, n, 0)) rfl (fun _ => rfl) rfl ?_
      refine ex_go (S := (30, [(0, gx_r 0), (1, .inl c), (2, .inl x)], [.inl c, .inl 2, gx_r 0], t0, n, 0)) rfl (fun _ => rfl) rfl ?_
      refine ex_go (S := (31, [(0, gx_r 0), (1, .inl c), (2, .inl x)], [.inl x, .inl c, .inl 2, gx_r 0], t0, n, 0)) rfl (fun _ => rfl) rfl ?_
      obtain ⟨_, r127, y127, t127, rfl, g127, e127, p127, q127⟩ := sc_by2_257 d n (c := c) (x := x) g0 hC hw hb k10 hS hu hsum (by first | decide | omega) (by first | decide | omega)
      refine gx_callo (a := 0) rfl rfl g0 rfl rfl rfl r127 rfl ?_
      have k28 : ai_hv t127 0 10 = some (gx_r 257) := (e127 0 10 (by first | decide | omega)).trans k10
      show en_ex _ _ _ _ (34, [(0, gx_r 0), (1, .inl c), (2, .inl x)], [.inl y127], t127, n, 0) _
      refine ex_ret (r := (some (.inl y127), t127, n, 0)) rfl (fun _ => rfl) ?_
      exact ⟨_, rfl, _, _, rfl, g127, e127, (fun z => p127 z.2.2), fun z => q127 (fun z9 => z ⟨by omega, by omega, z9⟩)⟩
    · refine gx_1f (c := .ne) rfl (by first | decide | omega) hc26 rfl ?_
      refine ex_go (S := (26, [(0, gx_r 0), (1, .inl c), (2, .inl x)], [.inl 4294967295], t0, n, 0)) rfl (fun _ => rfl) rfl ?_
      refine ex_ret (r := (some (.inl 4294967295), t0, n, 0)) rfl (fun _ => rfl) ?_
      exact ⟨_, rfl, _, t0, rfl, g0, (fun _ _ _ => rfl), (fun z => by obtain ⟨z1, z2, -⟩ := z; omega), fun _ => ⟨rfl, hS⟩⟩
theorem sc_home257 (d n : Nat) {t0 : en_H} {w : Nat → Nat → Nat} {L : List Nat} {σ F v : Nat → Nat} {τ μ : Nat → Nat → Nat} {u q : Nat} {c : Nat} (g0 : ai_HG ah_G t0) (hC : CW t0 257 w L) (hw : WS w) (hb : sbd σ) (k10 : ai_hv t0 0 10 = some (gx_r 257)) (hS : CS t0 (w 0 2) (w 0 4) σ u τ F μ q v) (hu : u ≤ 16) (hc : c < 4294967296) : ∃ r, en_u (d + 7) 48 [gx_r 0, .inl c] t0 n = some r ∧ ∃ z t', r = (some (.inl z), t', n, 0) ∧ ai_HG ah_G t' ∧ (∀ c i, ¬ (c = 297 ∨ (8 ≤ c ∧ c ≤ 21) ∨ (c = 22 ∧ 1 ≤ i) ∨ (24 ≤ c ∧ c ≤ 135)) → ai_hv t' c i = ai_hv t0 c i) ∧ z ≤ 1 ∧ (z = 1 → (c < w 0 4 ∧ mayM w σ c) ∧ CS t' (w 0 2) (w 0 4) (sgM' σ c) (kpu u) (kpt u σ τ) F μ q v) ∧ (z = 0 → ¬ (c < w 0 4 ∧ mayM w σ c) ∧ CS t' (w 0 2) (w 0 4) σ u τ F μ q v) := by
  have hK := hw.1.2.2.2.2.1
  refine en_u_ex (d := d + 6) rfl ?_
  show en_ex _ _ _ _ (0, [(0, gx_r 0), (1, .inl c)], [], t0, n, 0) _
  refine ex_go (S := (1, [(0, gx_r 0), (1, .inl c)], [gx_r 0], t0, n, 0)) rfl (fun _ => rfl) rfl ?_
  refine gxo_get (a := 0) rfl g0 rfl rfl k10 rfl ?_
  refine gxo_ref (a := 257) (c := 272) rfl g0 rfl rfl rfl rfl rfl ?_
  refine ex_go (S := (8, [(0, gx_r 0), (1, .inl c)], [.inl c, gx_r 272], t0, n, 0)) rfl (fun _ => rfl) rfl ?_
  obtain ⟨_, r121, b121, rfl, hb121, hi121⟩ := pz_holds272 (d + 5) n (x := c) (K := w 0 4) g0 (by first | decide | omega) hC.1.2.2.2.2.2 (by first | decide | omega)
  refine gx_callo (a := 272) rfl rfl g0 rfl rfl rfl r121 rfl ?_
  show en_ex _ _ _ _ (11, [(0, gx_r 0), (1, .inl c)], [.inl b121], t0, n, 0) _
  by_cases hc22 : b121 ≠ 0
  · refine gx_1t (c := .ne) rfl (by first | decide | omega) hc22 rfl ?_
    refine ex_go (S := (17, [(0, gx_r 0), (1, .inl c)], [gx_r 0], t0, n, 0)) rfl (fun _ => rfl) rfl ?_
    refine ex_go (S := (18, [(0, gx_r 0), (1, .inl c)], [.inl 3, gx_r 0], t0, n, 0)) rfl (fun _ => rfl) rfl ?_
    refine ex_go (S := (19, [(0, gx_r 0), (1, .inl c)], [.inl c, .inl 3, gx_r 0], t0, n, 0)) rfl (fun _ => rfl) rfl ?_
    refine ex_go (S := (20, [(0, gx_r 0), (1, .inl c)], [.inl 0, .inl c, .inl 3, gx_r 0], t0, n, 0)) rfl (fun _ => rfl) rfl ?_
    obtain ⟨_, r123, y123, t123, rfl, g123, e123, p123, q123⟩ := sc_by3_257 d n (c := c) (to := 0) g0 hC hw hb k10 hS hu (by first | decide | omega)
    refine gx_callo (a := 0) rfl rfl g0 rfl rfl rfl r123 rfl ?_
    have k24 : ai_hv t123 0 10 = some (gx_r 257) := (e123 0 10 (by first | decide | omega)).trans k10
    show en_ex _ _ _ _ (23, [(0, gx_r 0), (1, .inl c)], [.inl y123], t123, n, 0) _
    refine ex_go (S := (24, [(0, gx_r 0), (1, .inl c)], [.inl 4294967295, .inl y123], t123, n, 0)) rfl (fun _ => rfl) rfl ?_
    by_cases hc9 : mayM w σ c
    · obtain ⟨hy9, hs9⟩ := p123 hc9
      refine gx_2mf (c := .eq) rfl (by first | decide | omega) rfl rfl ?_
      show en_ex _ _ _ _ (27, [(0, gx_r 0), (1, .inl c)], [], t123, n, 0) _
      refine ex_go (S := (28, [(0, gx_r 0), (1, .inl c)], [.inl 1], t123, n, 0)) rfl (fun _ => rfl) rfl ?_
      refine ex_go (S := (32, [(0, gx_r 0), (1, .inl c)], [.inl 1], t123, n, 0)) rfl (fun _ => rfl) rfl ?_
      refine ex_ret (r := (some (.inl 1), t123, n, 0)) rfl (fun _ => rfl) ?_
      exact ⟨_, rfl, 1, t123, rfl, g123, e123, by decide, (fun _ => ⟨⟨by omega, hc9⟩, hs9⟩), fun z => absurd z (by decide)⟩
    · obtain ⟨hy9, hs9⟩ := q123 hc9
      refine gs_same rfl (by first | decide | omega) rfl ?_
      show en_ex _ _ _ _ (31, [(0, gx_r 0), (1, .inl c)], [], t123, n, 0) _
      refine ex_go (S := (32, [(0, gx_r 0), (1, .inl c)], [.inl 0], t123, n, 0)) rfl (fun _ => rfl) rfl ?_
      refine ex_ret (r := (some (.inl 0), t123, n, 0)) rfl (fun _ => rfl) ?_
      exact ⟨_, rfl, 0, t123, rfl, g123, e123, by decide, (fun z => absurd z (by decide)), fun _ => ⟨fun z => hc9 z.2, hs9⟩⟩
  · refine gx_1f (c := .ne) rfl (by first | decide | omega) hc22 rfl ?_
    refine ex_go (S := (15, [(0, gx_r 0), (1, .inl c)], [.inl 0], t0, n, 0)) rfl (fun _ => rfl) rfl ?_
    refine ex_ret (r := (some (.inl 0), t0, n, 0)) rfl (fun _ => rfl) ?_
    exact ⟨_, rfl, 0, t0, rfl, g0, (fun _ _ _ => rfl), by decide, (fun z => absurd z (by decide)), fun _ => ⟨(fun z => by obtain ⟨z0, -⟩ := z; omega), hS⟩⟩
theorem sc_see257 (d n : Nat) {t0 : en_H} {w : Nat → Nat → Nat} {L : List Nat} {σ F v : Nat → Nat} {τ μ : Nat → Nat → Nat} {u q : Nat} {x y z : Nat} (g0 : ai_HG ah_G t0) (hC : CW t0 257 w L) (hw : WS w) (hb : sbd σ) (k10 : ai_hv t0 0 10 = some (gx_r 257)) (hS : CS t0 (w 0 2) (w 0 4) σ u τ F μ q v) (hu : u ≤ 16) (hB : σ 0 ≤ 900000) (hq8 : q ≤ 8) (hx : x < 4294967296) (hy : y < 4294967296) (hz : z < 4294967296) : ∃ r, en_u (d + 2) 62 [gx_r 0, .inl x, .inl y, .inl z] t0 n = some r ∧ ∃ o t', r = (some (.inl o), t', n, 0) ∧ ai_HG ah_G t' ∧ (∀ c i, ¬ (139 ≤ c ∧ c ≤ 142) → ai_hv t' c i = ai_hv t0 c i) ∧ ((x < w 0 2 ∧ y ≤ 40 ∧ z ≤ 8 ∧ q < 8) → o = 1 ∧ CS t' (w 0 2) (w 0 4) σ u τ F μ (q + 1) v) ∧ (¬ (x < w 0 2 ∧ y ≤ 40 ∧ z ≤ 8 ∧ q < 8) → o = 0 ∧ CS t' (w 0 2) (w 0 4) σ u τ F μ q v) := by
  have hT := hw.1.2.2.1
  refine en_u_ex (d := d + 1) rfl ?_
  show en_ex _ _ _ _ (0, [(0, gx_r 0), (1, .inl x), (2, .inl y), (3, .inl z)], [], t0, n, 0) _
  refine ex_go (S := (1, [(0, gx_r 0), (1, .inl x), (2, .inl y), (3, .inl z)], [gx_r 0], t0, n, 0)) rfl (fun _ => rfl) rfl ?_
  refine gxo_get (a := 0) rfl g0 rfl rfl k10 rfl ?_
  refine gxo_ref (a := 257) (c := 260) rfl g0 rfl rfl rfl rfl rfl ?_
  refine ex_go (S := (8, [(0, gx_r 0), (1, .inl x), (2, .inl y), (3, .inl z)], [.inl x, gx_r 260], t0, n, 0)) rfl (fun _ => rfl) rfl ?_
  obtain ⟨_, r121, b121, rfl, hb121, hi121⟩ := pz_holds260 (d) n (x := x) (K := w 0 2) g0 (by first | decide | omega) hC.1.2.2.2.1 (by first | decide | omega)
  refine gx_callo (a := 260) rfl rfl g0 rfl rfl rfl r121 rfl ?_
  show en_ex _ _ _ _ (11, [(0, gx_r 0), (1, .inl x), (2, .inl y), (3, .inl z)], [.inl b121], t0, n, 0) _
  by_cases hc22 : b121 = 0
  · refine gx_1t (c := .eq) rfl (by first | decide | omega) hc22 rfl ?_
    refine ex_go (S := (35, [(0, gx_r 0), (1, .inl x), (2, .inl y), (3, .inl z)], [.inl 0], t0, n, 0)) rfl (fun _ => rfl) rfl ?_
    refine ex_ret (r := (some (.inl 0), t0, n, 0)) rfl (fun _ => rfl) ?_
    exact ⟨_, rfl, 0, t0, rfl, g0, (fun _ _ _ => rfl), (fun z => by omega), fun _ => ⟨rfl, hS⟩⟩
  · refine gx_1f (c := .eq) rfl (by first | decide | omega) hc22 rfl ?_
    refine ex_go (S := (15, [(0, gx_r 0), (1, .inl x), (2, .inl y), (3, .inl z)], [.inl y], t0, n, 0)) rfl (fun _ => rfl) rfl ?_
    refine ex_go (S := (16, [(0, gx_r 0), (1, .inl x), (2, .inl y), (3, .inl z)], [.inl 0, .inl y], t0, n, 0)) rfl (fun _ => rfl) rfl ?_
    refine ex_go (S := (18, [(0, gx_r 0), (1, .inl x), (2, .inl y), (3, .inl z)], [.inl 40, .inl 0, .inl y], t0, n, 0)) rfl (fun _ => rfl) rfl ?_
    obtain ⟨_, r23, b24, rfl, b24b, q25⟩ := pz_isWithin (d) n (t0 := t0) (x := y) (lo := 0) (hi := 40) (by first | decide | omega) (by first | decide | omega) (by first | decide | omega)
    refine ex_stat rfl rfl rfl rfl rfl r23 (Nat.le_refl _) rfl ?_
    show en_ex _ _ _ _ (21, [(0, gx_r 0), (1, .inl x), (2, .inl y), (3, .inl z)], [.inl b24], t0, n, 0) _
    by_cases hc26 : b24 = 0
    · refine gx_1t (c := .eq) rfl (by first | decide | omega) hc26 rfl ?_
      refine ex_go (S := (35, [(0, gx_r 0), (1, .inl x), (2, .inl y), (3, .inl z)], [.inl 0], t0, n, 0)) rfl (fun _ => rfl) rfl ?_
      refine ex_ret (r := (some (.inl 0), t0, n, 0)) rfl (fun _ => rfl) ?_
      exact ⟨_, rfl, 0, t0, rfl, g0, (fun _ _ _ => rfl), (fun z => by omega), fun _ => ⟨rfl, hS⟩⟩
    · refine gx_1f (c := .eq) rfl (by first | decide | omega) hc26 rfl ?_
      refine ex_go (S := (25, [(0, gx_r 0), (1, .inl x), (2, .inl y), (3, .inl z)], [.inl z], t0, n, 0)) rfl (fun _ => rfl) rfl ?_
      refine ex_go (S := (26, [(0, gx_r 0), (1, .inl x), (2, .inl y), (3, .inl z)], [.inl 0, .inl z], t0, n, 0)) rfl (fun _ => rfl) rfl ?_
      refine ex_go (S := (28, [(0, gx_r 0), (1, .inl x), (2, .inl y), (3, .inl z)], [.inl 8, .inl 0, .inl z], t0, n, 0)) rfl (fun _ => rfl) rfl ?_
      obtain ⟨_, r27, b28, rfl, b28b, q29⟩ := pz_isWithin (d) n (t0 := t0) (x := z) (lo := 0) (hi := 8) (by first | decide | omega) (by first | decide | omega) (by first | decide | omega)
      refine ex_stat rfl rfl rfl rfl rfl r27 (Nat.le_refl _) rfl ?_
      show en_ex _ _ _ _ (31, [(0, gx_r 0), (1, .inl x), (2, .inl y), (3, .inl z)], [.inl b28], t0, n, 0) _
      by_cases hc30 : b28 ≠ 0
      · refine gx_1t (c := .ne) rfl (by first | decide | omega) hc30 rfl ?_
        refine ex_go (S := (37, [(0, gx_r 0), (1, .inl x), (2, .inl y), (3, .inl z)], [gx_r 0], t0, n, 0)) rfl (fun _ => rfl) rfl ?_
        refine gxo_ref (a := 0) (c := 139) rfl g0 rfl rfl rfl rfl rfl ?_
        refine ex_go (S := (41, [(0, gx_r 0), (1, .inl x), (2, .inl y), (3, .inl z)], [.inl x, gx_r 139], t0, n, 0)) rfl (fun _ => rfl) rfl ?_
        refine ex_go (S := (42, [(0, gx_r 0), (1, .inl x), (2, .inl y), (3, .inl z)], [gx_r 0, .inl x, gx_r 139], t0, n, 0)) rfl (fun _ => rfl) rfl ?_
        refine gxo_ref (a := 0) (c := 8) rfl g0 rfl rfl rfl rfl rfl ?_
        refine gxo_get (a := 8) rfl g0 rfl rfl hS.1.1 rfl ?_
        refine ex_go (S := (49, [(0, gx_r 0), (1, .inl x), (2, .inl y), (3, .inl z)], [.inl y, .inl (σ 0), .inl x, gx_r 139], t0, n, 0)) rfl (fun _ => rfl) rfl ?_
        refine ex_iadd rfl (by first | decide | omega) rfl ?_
        refine ex_go (S := (51, [(0, gx_r 0), (1, .inl x), (2, .inl y), (3, .inl z)], [.inl z, .inl ((σ 0) + y), .inl x, gx_r 139], t0, n, 0)) rfl (fun _ => rfl) rfl ?_
        obtain ⟨_, r131, o131, t131, rfl, g131, e131, p131, q131⟩ := sc_note d n (q := q) (x := x) (s := (σ 0) + y) (z := z) g0 hS.2.1 (by first | decide | omega) (by first | decide | omega) (by first | decide | omega) (by first | decide | omega)
        refine gx_callo (a := 139) rfl rfl g0 rfl rfl rfl r131 rfl ?_
        have k32 : ai_hv t131 0 10 = some (gx_r 257) := (e131 0 10 (by first | decide | omega)).trans k10
        have k33 : ai_hv t131 8 0 = some (.inl (σ 0)) := (e131 8 0 (by first | decide | omega)).trans hS.1.1
        show en_ex _ _ _ _ (54, [(0, gx_r 0), (1, .inl x), (2, .inl y), (3, .inl z)], [.inl o131], t131, n, 0) _
        refine gx_retb rfl (by first | decide | omega) ?_
        have hcs : ∀ q9, ai_hv t131 139 0 = some (.inl q9) → CS t131 (w 0 2) (w 0 4) σ u τ F μ q9 v := fun q9 h9 => by
          obtain ⟨h1, h2, ⟨o, h3, h4, h5, h6⟩, h7⟩ := hS
          exact ⟨SC_keep h1 (fun c i a b => e131 c i (by first | decide | omega)), h9, ⟨o, h3, (e131 _ _ (by first | decide | omega)).trans h4, (e131 _ _ (by first | decide | omega)).trans h5, fun k hk => SC_keep (h6 k hk) (fun c i a b => e131 c i (by first | decide | omega))⟩, fun m hm => ⟨(e131 _ _ (by first | decide | omega)).trans (h7 m hm).1, fun z => ⟨SC_keep ((h7 m hm).2 z).1 (fun c i a b => e131 _ _ (by first | decide | omega)), (e131 _ _ (by first | decide | omega)).trans ((h7 m hm).2 z).2⟩⟩⟩
        exact ⟨_, rfl, _, _, rfl, g131, e131, (fun z => ⟨(p131 z.2.2.2).1, hcs _ (p131 z.2.2.2).2⟩), fun z => ⟨(q131 (fun z9 => z ⟨by omega, by omega, by omega, z9⟩)).1, hcs _ (q131 (fun z9 => z ⟨by omega, by omega, by omega, z9⟩)).2⟩⟩
      · refine gx_1f (c := .ne) rfl (by first | decide | omega) hc30 rfl ?_
        refine ex_go (S := (35, [(0, gx_r 0), (1, .inl x), (2, .inl y), (3, .inl z)], [.inl 0], t0, n, 0)) rfl (fun _ => rfl) rfl ?_
        refine ex_ret (r := (some (.inl 0), t0, n, 0)) rfl (fun _ => rfl) ?_
        exact ⟨_, rfl, 0, t0, rfl, g0, (fun _ _ _ => rfl), (fun z => by omega), fun _ => ⟨rfl, hS⟩⟩
theorem sc_act1_15_191 (d n : Nat) {t0 : en_H} {w : Nat → Nat → Nat} {L : List Nat} {σ : Nat → Nat} {c : Nat} (g0 : ai_HG ah_G t0) (hC : CW t0 191 w L) (hw : WS w) (hb : sbd σ) (hS : SC t0 15 (w 0 2) (w 0 4) σ) (k10 : ai_hv t0 0 10 = some (gx_r 191)) {to : Nat} (hX : CX t0 191 w) (hB : σ 0 ≤ 900000) (ht : to < 64) (hc : c < w 0 4) : ∃ r, en_u (d + 5) 124 [gx_r 0, gx_r 15, .inl 1, .inl c, .inl to] t0 n = some r ∧ ∃ y t', r = (some (.inl y), t', n, 0) ∧ ai_HG ah_G t' ∧ (∀ c i, ¬ (17 ≤ c ∧ c ≤ 21) → ai_hv t' c i = ai_hv t0 c i) ∧ (mayH w σ c to → y = 0 ∧ SC t' 15 (w 0 2) (w 0 4) (sgH σ c to)) ∧ (¬ mayH w σ c to → y = 4294967295 ∧ t' = t0) := by
  have hK := hw.1.2.2.2.2.1
  refine en_u_ex (d := d + 4) rfl ?_
  show en_ex _ _ _ _ (0, [(0, gx_r 0), (1, gx_r 15), (2, .inl 1), (3, .inl c), (4, .inl to)], [], t0, n, 0) _
  refine ex_go (S := (1, [(0, gx_r 0), (1, gx_r 15), (2, .inl 1), (3, .inl c), (4, .inl to)], [.inl 1], t0, n, 0)) rfl (fun _ => rfl) rfl ?_
  refine ex_go (S := (41, [(0, gx_r 0), (1, gx_r 15), (2, .inl 1), (3, .inl c), (4, .inl to)], [], t0, n, 0)) rfl (fun _ => rfl) rfl ?_
  refine ex_go (S := (42, [(0, gx_r 0), (1, gx_r 15), (2, .inl 1), (3, .inl c), (4, .inl to)], [gx_r 0], t0, n, 0)) rfl (fun _ => rfl) rfl ?_
  refine gxo_get (a := 0) rfl g0 rfl rfl k10 rfl ?_
  refine gxo_ref (a := 191) (c := 206) rfl g0 rfl rfl rfl rfl rfl ?_
  refine ex_go (S := (49, [(0, gx_r 0), (1, gx_r 15), (2, .inl 1), (3, .inl c), (4, .inl to)], [.inl c, gx_r 206], t0, n, 0)) rfl (fun _ => rfl) rfl ?_
  obtain ⟨_, r121, b121, rfl, hb121, hi121⟩ := pz_holds206 (d + 3) n (x := c) (K := w 0 4) g0 (by first | decide | omega) hC.1.2.2.2.2.2 (by first | decide | omega)
  refine gx_callo (a := 206) rfl rfl g0 rfl rfl rfl r121 rfl ?_
  show en_ex _ _ _ _ (52, [(0, gx_r 0), (1, gx_r 15), (2, .inl 1), (3, .inl c), (4, .inl to)], [.inl b121], t0, n, 0) _
  by_cases hc22 : b121 ≠ 0
  · refine gx_1t (c := .ne) rfl (by first | decide | omega) hc22 rfl ?_
    refine ex_go (S := (58, [(0, gx_r 0), (1, gx_r 15), (2, .inl 1), (3, .inl c), (4, .inl to)], [.inl 1], t0, n, 0)) rfl (fun _ => rfl) rfl ?_
    refine ex_go (S := (59, [(0, gx_r 0), (1, gx_r 15), (2, .inl 1), (3, .inl c), (4, .inl to)], [.inl 1, .inl 1], t0, n, 0)) rfl (fun _ => rfl) rfl ?_
    refine ex_go (S := (62, [(0, gx_r 0), (1, gx_r 15), (2, .inl 1), (3, .inl c), (4, .inl to)], [], t0, n, 0)) rfl (fun _ => rfl) rfl ?_
    refine ex_go (S := (63, [(0, gx_r 0), (1, gx_r 15), (2, .inl 1), (3, .inl c), (4, .inl to)], [gx_r 15], t0, n, 0)) rfl (fun _ => rfl) rfl ?_
    refine ex_go (S := (64, [(0, gx_r 0), (1, gx_r 15), (2, .inl 1), (3, .inl c), (4, .inl to)], [gx_r 0, gx_r 15], t0, n, 0)) rfl (fun _ => rfl) rfl ?_
    refine gxo_get (a := 0) rfl g0 rfl rfl k10 rfl ?_
    refine ex_go (S := (68, [(0, gx_r 0), (1, gx_r 15), (2, .inl 1), (3, .inl c), (4, .inl to)], [.inl c, gx_r 191, gx_r 15], t0, n, 0)) rfl (fun _ => rfl) rfl ?_
    refine ex_go (S := (70, [(0, gx_r 0), (1, gx_r 15), (2, .inl 1), (3, .inl c), (4, .inl to)], [.inl to, .inl c, gx_r 191, gx_r 15], t0, n, 0)) rfl (fun _ => rfl) rfl ?_
    obtain ⟨_, r123, y123, t123, rfl, g123, e123, hy123, p123, q123⟩ := sc_hs15_191 d n g0 hC hw hb hS hX hB hc ht
    refine gx_callo (a := 15) rfl rfl g0 rfl rfl rfl r123 rfl ?_
    have k24 : ai_hv t123 0 10 = some (gx_r 191) := (e123 0 10 (by first | decide | omega)).trans k10
    show en_ex _ _ _ _ (73, [(0, gx_r 0), (1, gx_r 15), (2, .inl 1), (3, .inl c), (4, .inl to)], [.inl y123], t123, n, 0) _
    by_cases hc25 : y123 = 0
    · refine gx_1t (c := .eq) rfl (by first | decide | omega) hc25 rfl ?_
      refine ex_go (S := (81, [(0, gx_r 0), (1, gx_r 15), (2, .inl 1), (3, .inl c), (4, .inl to)], [.inl 4294967295], t123, n, 0)) rfl (fun _ => rfl) rfl ?_
      refine ex_ret (r := (some (.inl 4294967295), t123, n, 0)) rfl (fun _ => rfl) ?_
      have h9 := q123 (by first | decide | omega)
      exact ⟨_, rfl, _, _, rfl, g123, (fun c i h => e123 c i (by first | decide | omega)), (fun z => absurd z h9.1), fun _ => ⟨rfl, h9.2⟩⟩
    · refine gx_1f (c := .eq) rfl (by first | decide | omega) hc25 rfl ?_
      refine ex_go (S := (77, [(0, gx_r 0), (1, gx_r 15), (2, .inl 1), (3, .inl c), (4, .inl to)], [.inl 0], t123, n, 0)) rfl (fun _ => rfl) rfl ?_
      refine ex_go (S := (81, [(0, gx_r 0), (1, gx_r 15), (2, .inl 1), (3, .inl c), (4, .inl to)], [.inl 0], t123, n, 0)) rfl (fun _ => rfl) rfl ?_
      refine ex_ret (r := (some (.inl 0), t123, n, 0)) rfl (fun _ => rfl) ?_
      exact ⟨_, rfl, 0, _, rfl, g123, (fun c i h => e123 c i (by first | decide | omega)), (fun _ => ⟨rfl, (p123 (by first | decide | omega)).2⟩), fun z => absurd (p123 (by first | decide | omega)).1 z⟩
  · refine gx_1f (c := .ne) rfl (by first | decide | omega) hc22 rfl ?_
    refine ex_go (S := (56, [(0, gx_r 0), (1, gx_r 15), (2, .inl 1), (3, .inl c), (4, .inl to)], [.inl 4294967295], t0, n, 0)) rfl (fun _ => rfl) rfl ?_
    refine ex_ret (r := (some (.inl 4294967295), t0, n, 0)) rfl (fun _ => rfl) ?_
    exact absurd hc (by first | decide | omega)
theorem sc_act2_15_191 (d n : Nat) {t0 : en_H} {w : Nat → Nat → Nat} {L : List Nat} {σ : Nat → Nat} {c : Nat} (g0 : ai_HG ah_G t0) (hC : CW t0 191 w L) (hw : WS w) (hb : sbd σ) (hS : SC t0 15 (w 0 2) (w 0 4) σ) (k10 : ai_hv t0 0 10 = some (gx_r 191)) {v : Nat} (hsum : σ 7 + σ 8 ≤ 19998) (hv : v ≤ 999) (hc : c < w 0 4) : ∃ r, en_u (d + 5) 124 [gx_r 0, gx_r 15, .inl 2, .inl c, .inl v] t0 n = some r ∧ ∃ y t', r = (some (.inl y), t', n, 0) ∧ ai_HG ah_G t' ∧ (∀ c i, ¬ (17 ≤ c ∧ c ≤ 21) → ai_hv t' c i = ai_hv t0 c i) ∧ (mayL w σ c → y = lnv σ c v ∧ SC t' 15 (w 0 2) (w 0 4) (sgL σ c v)) ∧ (¬ mayL w σ c → y = 4294967295 ∧ t' = t0) := by
  have hK := hw.1.2.2.2.2.1
  refine en_u_ex (d := d + 4) rfl ?_
  show en_ex _ _ _ _ (0, [(0, gx_r 0), (1, gx_r 15), (2, .inl 2), (3, .inl c), (4, .inl v)], [], t0, n, 0) _
  refine ex_go (S := (1, [(0, gx_r 0), (1, gx_r 15), (2, .inl 2), (3, .inl c), (4, .inl v)], [.inl 2], t0, n, 0)) rfl (fun _ => rfl) rfl ?_
  refine ex_go (S := (41, [(0, gx_r 0), (1, gx_r 15), (2, .inl 2), (3, .inl c), (4, .inl v)], [], t0, n, 0)) rfl (fun _ => rfl) rfl ?_
  refine ex_go (S := (42, [(0, gx_r 0), (1, gx_r 15), (2, .inl 2), (3, .inl c), (4, .inl v)], [gx_r 0], t0, n, 0)) rfl (fun _ => rfl) rfl ?_
  refine gxo_get (a := 0) rfl g0 rfl rfl k10 rfl ?_
  refine gxo_ref (a := 191) (c := 206) rfl g0 rfl rfl rfl rfl rfl ?_
  refine ex_go (S := (49, [(0, gx_r 0), (1, gx_r 15), (2, .inl 2), (3, .inl c), (4, .inl v)], [.inl c, gx_r 206], t0, n, 0)) rfl (fun _ => rfl) rfl ?_
  obtain ⟨_, r121, b121, rfl, hb121, hi121⟩ := pz_holds206 (d + 3) n (x := c) (K := w 0 4) g0 (by first | decide | omega) hC.1.2.2.2.2.2 (by first | decide | omega)
  refine gx_callo (a := 206) rfl rfl g0 rfl rfl rfl r121 rfl ?_
  show en_ex _ _ _ _ (52, [(0, gx_r 0), (1, gx_r 15), (2, .inl 2), (3, .inl c), (4, .inl v)], [.inl b121], t0, n, 0) _
  by_cases hc22 : b121 ≠ 0
  · refine gx_1t (c := .ne) rfl (by first | decide | omega) hc22 rfl ?_
    refine ex_go (S := (58, [(0, gx_r 0), (1, gx_r 15), (2, .inl 2), (3, .inl c), (4, .inl v)], [.inl 2], t0, n, 0)) rfl (fun _ => rfl) rfl ?_
    refine ex_go (S := (59, [(0, gx_r 0), (1, gx_r 15), (2, .inl 2), (3, .inl c), (4, .inl v)], [.inl 1, .inl 2], t0, n, 0)) rfl (fun _ => rfl) rfl ?_
    refine ex_go (S := (82, [(0, gx_r 0), (1, gx_r 15), (2, .inl 2), (3, .inl c), (4, .inl v)], [], t0, n, 0)) rfl (fun _ => rfl) rfl ?_
    refine ex_go (S := (83, [(0, gx_r 0), (1, gx_r 15), (2, .inl 2), (3, .inl c), (4, .inl v)], [.inl 2], t0, n, 0)) rfl (fun _ => rfl) rfl ?_
    refine ex_go (S := (84, [(0, gx_r 0), (1, gx_r 15), (2, .inl 2), (3, .inl c), (4, .inl v)], [.inl 2, .inl 2], t0, n, 0)) rfl (fun _ => rfl) rfl ?_
    refine ex_go (S := (87, [(0, gx_r 0), (1, gx_r 15), (2, .inl 2), (3, .inl c), (4, .inl v)], [], t0, n, 0)) rfl (fun _ => rfl) rfl ?_
    refine ex_go (S := (88, [(0, gx_r 0), (1, gx_r 15), (2, .inl 2), (3, .inl c), (4, .inl v)], [gx_r 15], t0, n, 0)) rfl (fun _ => rfl) rfl ?_
    refine ex_go (S := (89, [(0, gx_r 0), (1, gx_r 15), (2, .inl 2), (3, .inl c), (4, .inl v)], [gx_r 0, gx_r 15], t0, n, 0)) rfl (fun _ => rfl) rfl ?_
    refine gxo_get (a := 0) rfl g0 rfl rfl k10 rfl ?_
    refine ex_go (S := (93, [(0, gx_r 0), (1, gx_r 15), (2, .inl 2), (3, .inl c), (4, .inl v)], [.inl c, gx_r 191, gx_r 15], t0, n, 0)) rfl (fun _ => rfl) rfl ?_
    refine ex_go (S := (95, [(0, gx_r 0), (1, gx_r 15), (2, .inl 2), (3, .inl c), (4, .inl v)], [.inl v, .inl c, gx_r 191, gx_r 15], t0, n, 0)) rfl (fun _ => rfl) rfl ?_
    obtain ⟨_, r123, y123, t123, rfl, g123, e123, p123, q123⟩ := sc_lb15_191 (d + 2) n g0 hC hw hb hS hsum hc hv
    refine gx_callo (a := 15) rfl rfl g0 rfl rfl rfl r123 rfl ?_
    have k24 : ai_hv t123 0 10 = some (gx_r 191) := (e123 0 10 (by first | decide | omega)).trans k10
    show en_ex _ _ _ _ (98, [(0, gx_r 0), (1, gx_r 15), (2, .inl 2), (3, .inl c), (4, .inl v)], [.inl y123], t123, n, 0) _
    refine ex_ret (r := (some (.inl y123), t123, n, 0)) rfl (fun _ => rfl) ?_
    exact ⟨_, rfl, _, _, rfl, g123, (fun c i h => e123 c i (by first | decide | omega)), p123, q123⟩
  · refine gx_1f (c := .ne) rfl (by first | decide | omega) hc22 rfl ?_
    refine ex_go (S := (56, [(0, gx_r 0), (1, gx_r 15), (2, .inl 2), (3, .inl c), (4, .inl v)], [.inl 4294967295], t0, n, 0)) rfl (fun _ => rfl) rfl ?_
    refine ex_ret (r := (some (.inl 4294967295), t0, n, 0)) rfl (fun _ => rfl) ?_
    exact absurd hc (by first | decide | omega)
theorem sc_act3_15_191 (d n : Nat) {t0 : en_H} {w : Nat → Nat → Nat} {L : List Nat} {σ : Nat → Nat} {c : Nat} (g0 : ai_HG ah_G t0) (hC : CW t0 191 w L) (hw : WS w) (hb : sbd σ) (hS : SC t0 15 (w 0 2) (w 0 4) σ) (k10 : ai_hv t0 0 10 = some (gx_r 191)) {to : Nat} (hc : c < w 0 4) : ∃ r, en_u (d + 5) 124 [gx_r 0, gx_r 15, .inl 3, .inl c, .inl to] t0 n = some r ∧ ∃ y t', r = (some (.inl y), t', n, 0) ∧ ai_HG ah_G t' ∧ (∀ c i, ¬ (17 ≤ c ∧ c ≤ 21) → ai_hv t' c i = ai_hv t0 c i) ∧ (mayM w σ c → y = 0 ∧ SC t' 15 (w 0 2) (w 0 4) (sgM' σ c)) ∧ (¬ mayM w σ c → y = 4294967295 ∧ t' = t0) := by
  have hK := hw.1.2.2.2.2.1
  refine en_u_ex (d := d + 4) rfl ?_
  show en_ex _ _ _ _ (0, [(0, gx_r 0), (1, gx_r 15), (2, .inl 3), (3, .inl c), (4, .inl to)], [], t0, n, 0) _
  refine ex_go (S := (1, [(0, gx_r 0), (1, gx_r 15), (2, .inl 3), (3, .inl c), (4, .inl to)], [.inl 3], t0, n, 0)) rfl (fun _ => rfl) rfl ?_
  refine ex_go (S := (41, [(0, gx_r 0), (1, gx_r 15), (2, .inl 3), (3, .inl c), (4, .inl to)], [], t0, n, 0)) rfl (fun _ => rfl) rfl ?_
  refine ex_go (S := (42, [(0, gx_r 0), (1, gx_r 15), (2, .inl 3), (3, .inl c), (4, .inl to)], [gx_r 0], t0, n, 0)) rfl (fun _ => rfl) rfl ?_
  refine gxo_get (a := 0) rfl g0 rfl rfl k10 rfl ?_
  refine gxo_ref (a := 191) (c := 206) rfl g0 rfl rfl rfl rfl rfl ?_
  refine ex_go (S := (49, [(0, gx_r 0), (1, gx_r 15), (2, .inl 3), (3, .inl c), (4, .inl to)], [.inl c, gx_r 206], t0, n, 0)) rfl (fun _ => rfl) rfl ?_
  obtain ⟨_, r121, b121, rfl, hb121, hi121⟩ := pz_holds206 (d + 3) n (x := c) (K := w 0 4) g0 (by first | decide | omega) hC.1.2.2.2.2.2 (by first | decide | omega)
  refine gx_callo (a := 206) rfl rfl g0 rfl rfl rfl r121 rfl ?_
  show en_ex _ _ _ _ (52, [(0, gx_r 0), (1, gx_r 15), (2, .inl 3), (3, .inl c), (4, .inl to)], [.inl b121], t0, n, 0) _
  by_cases hc22 : b121 ≠ 0
  · refine gx_1t (c := .ne) rfl (by first | decide | omega) hc22 rfl ?_
    refine ex_go (S := (58, [(0, gx_r 0), (1, gx_r 15), (2, .inl 3), (3, .inl c), (4, .inl to)], [.inl 3], t0, n, 0)) rfl (fun _ => rfl) rfl ?_
    refine ex_go (S := (59, [(0, gx_r 0), (1, gx_r 15), (2, .inl 3), (3, .inl c), (4, .inl to)], [.inl 1, .inl 3], t0, n, 0)) rfl (fun _ => rfl) rfl ?_
    refine ex_go (S := (82, [(0, gx_r 0), (1, gx_r 15), (2, .inl 3), (3, .inl c), (4, .inl to)], [], t0, n, 0)) rfl (fun _ => rfl) rfl ?_
    refine ex_go (S := (83, [(0, gx_r 0), (1, gx_r 15), (2, .inl 3), (3, .inl c), (4, .inl to)], [.inl 3], t0, n, 0)) rfl (fun _ => rfl) rfl ?_
    refine ex_go (S := (84, [(0, gx_r 0), (1, gx_r 15), (2, .inl 3), (3, .inl c), (4, .inl to)], [.inl 2, .inl 3], t0, n, 0)) rfl (fun _ => rfl) rfl ?_
    refine ex_go (S := (99, [(0, gx_r 0), (1, gx_r 15), (2, .inl 3), (3, .inl c), (4, .inl to)], [], t0, n, 0)) rfl (fun _ => rfl) rfl ?_
    refine ex_go (S := (100, [(0, gx_r 0), (1, gx_r 15), (2, .inl 3), (3, .inl c), (4, .inl to)], [gx_r 15], t0, n, 0)) rfl (fun _ => rfl) rfl ?_
    refine ex_go (S := (101, [(0, gx_r 0), (1, gx_r 15), (2, .inl 3), (3, .inl c), (4, .inl to)], [gx_r 0, gx_r 15], t0, n, 0)) rfl (fun _ => rfl) rfl ?_
    refine gxo_get (a := 0) rfl g0 rfl rfl k10 rfl ?_
    refine ex_go (S := (105, [(0, gx_r 0), (1, gx_r 15), (2, .inl 3), (3, .inl c), (4, .inl to)], [.inl c, gx_r 191, gx_r 15], t0, n, 0)) rfl (fun _ => rfl) rfl ?_
    obtain ⟨_, r123, y123, t123, rfl, g123, e123, hy123, p123, q123⟩ := sc_bi15_191 (d + 3) n g0 hC hw hb hS hc
    refine gx_callo (a := 15) rfl rfl g0 rfl rfl rfl r123 rfl ?_
    have k24 : ai_hv t123 0 10 = some (gx_r 191) := (e123 0 10 (by first | decide | omega)).trans k10
    show en_ex _ _ _ _ (108, [(0, gx_r 0), (1, gx_r 15), (2, .inl 3), (3, .inl c), (4, .inl to)], [.inl y123], t123, n, 0) _
    by_cases hc25 : y123 = 0
    · refine gx_1t (c := .eq) rfl (by first | decide | omega) hc25 rfl ?_
      refine ex_go (S := (116, [(0, gx_r 0), (1, gx_r 15), (2, .inl 3), (3, .inl c), (4, .inl to)], [.inl 4294967295], t123, n, 0)) rfl (fun _ => rfl) rfl ?_
      refine ex_ret (r := (some (.inl 4294967295), t123, n, 0)) rfl (fun _ => rfl) ?_
      have h9 := q123 (by first | decide | omega)
      exact ⟨_, rfl, _, _, rfl, g123, (fun c i h => e123 c i (by first | decide | omega)), (fun z => absurd z h9.1), fun _ => ⟨rfl, h9.2⟩⟩
    · refine gx_1f (c := .eq) rfl (by first | decide | omega) hc25 rfl ?_
      refine ex_go (S := (112, [(0, gx_r 0), (1, gx_r 15), (2, .inl 3), (3, .inl c), (4, .inl to)], [.inl 0], t123, n, 0)) rfl (fun _ => rfl) rfl ?_
      refine ex_go (S := (116, [(0, gx_r 0), (1, gx_r 15), (2, .inl 3), (3, .inl c), (4, .inl to)], [.inl 0], t123, n, 0)) rfl (fun _ => rfl) rfl ?_
      refine ex_ret (r := (some (.inl 0), t123, n, 0)) rfl (fun _ => rfl) ?_
      exact ⟨_, rfl, 0, _, rfl, g123, (fun c i h => e123 c i (by first | decide | omega)), (fun _ => ⟨rfl, (p123 (by first | decide | omega)).2⟩), fun z => absurd (p123 (by first | decide | omega)).1 z⟩
  · refine gx_1f (c := .ne) rfl (by first | decide | omega) hc22 rfl ?_
    refine ex_go (S := (56, [(0, gx_r 0), (1, gx_r 15), (2, .inl 3), (3, .inl c), (4, .inl to)], [.inl 4294967295], t0, n, 0)) rfl (fun _ => rfl) rfl ?_
    refine ex_ret (r := (some (.inl 4294967295), t0, n, 0)) rfl (fun _ => rfl) ?_
    exact absurd hc (by first | decide | omega)
theorem sc_act1_15_257 (d n : Nat) {t0 : en_H} {w : Nat → Nat → Nat} {L : List Nat} {σ : Nat → Nat} {c : Nat} (g0 : ai_HG ah_G t0) (hC : CW t0 257 w L) (hw : WS w) (hb : sbd σ) (hS : SC t0 15 (w 0 2) (w 0 4) σ) (k10 : ai_hv t0 0 10 = some (gx_r 257)) {to : Nat} (hX : CX t0 257 w) (hB : σ 0 ≤ 900000) (ht : to < 64) (hc : c < w 0 4) : ∃ r, en_u (d + 5) 124 [gx_r 0, gx_r 15, .inl 1, .inl c, .inl to] t0 n = some r ∧ ∃ y t', r = (some (.inl y), t', n, 0) ∧ ai_HG ah_G t' ∧ (∀ c i, ¬ (17 ≤ c ∧ c ≤ 21) → ai_hv t' c i = ai_hv t0 c i) ∧ (mayH w σ c to → y = 0 ∧ SC t' 15 (w 0 2) (w 0 4) (sgH σ c to)) ∧ (¬ mayH w σ c to → y = 4294967295 ∧ t' = t0) := by
  have hK := hw.1.2.2.2.2.1
  refine en_u_ex (d := d + 4) rfl ?_
  show en_ex _ _ _ _ (0, [(0, gx_r 0), (1, gx_r 15), (2, .inl 1), (3, .inl c), (4, .inl to)], [], t0, n, 0) _
  refine ex_go (S := (1, [(0, gx_r 0), (1, gx_r 15), (2, .inl 1), (3, .inl c), (4, .inl to)], [.inl 1], t0, n, 0)) rfl (fun _ => rfl) rfl ?_
  refine ex_go (S := (41, [(0, gx_r 0), (1, gx_r 15), (2, .inl 1), (3, .inl c), (4, .inl to)], [], t0, n, 0)) rfl (fun _ => rfl) rfl ?_
  refine ex_go (S := (42, [(0, gx_r 0), (1, gx_r 15), (2, .inl 1), (3, .inl c), (4, .inl to)], [gx_r 0], t0, n, 0)) rfl (fun _ => rfl) rfl ?_
  refine gxo_get (a := 0) rfl g0 rfl rfl k10 rfl ?_
  refine gxo_ref (a := 257) (c := 272) rfl g0 rfl rfl rfl rfl rfl ?_
  refine ex_go (S := (49, [(0, gx_r 0), (1, gx_r 15), (2, .inl 1), (3, .inl c), (4, .inl to)], [.inl c, gx_r 272], t0, n, 0)) rfl (fun _ => rfl) rfl ?_
  obtain ⟨_, r121, b121, rfl, hb121, hi121⟩ := pz_holds272 (d + 3) n (x := c) (K := w 0 4) g0 (by first | decide | omega) hC.1.2.2.2.2.2 (by first | decide | omega)
  refine gx_callo (a := 272) rfl rfl g0 rfl rfl rfl r121 rfl ?_
  show en_ex _ _ _ _ (52, [(0, gx_r 0), (1, gx_r 15), (2, .inl 1), (3, .inl c), (4, .inl to)], [.inl b121], t0, n, 0) _
  by_cases hc22 : b121 ≠ 0
  · refine gx_1t (c := .ne) rfl (by first | decide | omega) hc22 rfl ?_
    refine ex_go (S := (58, [(0, gx_r 0), (1, gx_r 15), (2, .inl 1), (3, .inl c), (4, .inl to)], [.inl 1], t0, n, 0)) rfl (fun _ => rfl) rfl ?_
    refine ex_go (S := (59, [(0, gx_r 0), (1, gx_r 15), (2, .inl 1), (3, .inl c), (4, .inl to)], [.inl 1, .inl 1], t0, n, 0)) rfl (fun _ => rfl) rfl ?_
    refine ex_go (S := (62, [(0, gx_r 0), (1, gx_r 15), (2, .inl 1), (3, .inl c), (4, .inl to)], [], t0, n, 0)) rfl (fun _ => rfl) rfl ?_
    refine ex_go (S := (63, [(0, gx_r 0), (1, gx_r 15), (2, .inl 1), (3, .inl c), (4, .inl to)], [gx_r 15], t0, n, 0)) rfl (fun _ => rfl) rfl ?_
    refine ex_go (S := (64, [(0, gx_r 0), (1, gx_r 15), (2, .inl 1), (3, .inl c), (4, .inl to)], [gx_r 0, gx_r 15], t0, n, 0)) rfl (fun _ => rfl) rfl ?_
    refine gxo_get (a := 0) rfl g0 rfl rfl k10 rfl ?_
    refine ex_go (S := (68, [(0, gx_r 0), (1, gx_r 15), (2, .inl 1), (3, .inl c), (4, .inl to)], [.inl c, gx_r 257, gx_r 15], t0, n, 0)) rfl (fun _ => rfl) rfl ?_
    refine ex_go (S := (70, [(0, gx_r 0), (1, gx_r 15), (2, .inl 1), (3, .inl c), (4, .inl to)], [.inl to, .inl c, gx_r 257, gx_r 15], t0, n, 0)) rfl (fun _ => rfl) rfl ?_
    obtain ⟨_, r123, y123, t123, rfl, g123, e123, hy123, p123, q123⟩ := sc_hs15_257 d n g0 hC hw hb hS hX hB hc ht
    refine gx_callo (a := 15) rfl rfl g0 rfl rfl rfl r123 rfl ?_
    have k24 : ai_hv t123 0 10 = some (gx_r 257) := (e123 0 10 (by first | decide | omega)).trans k10
    show en_ex _ _ _ _ (73, [(0, gx_r 0), (1, gx_r 15), (2, .inl 1), (3, .inl c), (4, .inl to)], [.inl y123], t123, n, 0) _
    by_cases hc25 : y123 = 0
    · refine gx_1t (c := .eq) rfl (by first | decide | omega) hc25 rfl ?_
      refine ex_go (S := (81, [(0, gx_r 0), (1, gx_r 15), (2, .inl 1), (3, .inl c), (4, .inl to)], [.inl 4294967295], t123, n, 0)) rfl (fun _ => rfl) rfl ?_
      refine ex_ret (r := (some (.inl 4294967295), t123, n, 0)) rfl (fun _ => rfl) ?_
      have h9 := q123 (by first | decide | omega)
      exact ⟨_, rfl, _, _, rfl, g123, (fun c i h => e123 c i (by first | decide | omega)), (fun z => absurd z h9.1), fun _ => ⟨rfl, h9.2⟩⟩
    · refine gx_1f (c := .eq) rfl (by first | decide | omega) hc25 rfl ?_
      refine ex_go (S := (77, [(0, gx_r 0), (1, gx_r 15), (2, .inl 1), (3, .inl c), (4, .inl to)], [.inl 0], t123, n, 0)) rfl (fun _ => rfl) rfl ?_
      refine ex_go (S := (81, [(0, gx_r 0), (1, gx_r 15), (2, .inl 1), (3, .inl c), (4, .inl to)], [.inl 0], t123, n, 0)) rfl (fun _ => rfl) rfl ?_
      refine ex_ret (r := (some (.inl 0), t123, n, 0)) rfl (fun _ => rfl) ?_
      exact ⟨_, rfl, 0, _, rfl, g123, (fun c i h => e123 c i (by first | decide | omega)), (fun _ => ⟨rfl, (p123 (by first | decide | omega)).2⟩), fun z => absurd (p123 (by first | decide | omega)).1 z⟩
  · refine gx_1f (c := .ne) rfl (by first | decide | omega) hc22 rfl ?_
    refine ex_go (S := (56, [(0, gx_r 0), (1, gx_r 15), (2, .inl 1), (3, .inl c), (4, .inl to)], [.inl 4294967295], t0, n, 0)) rfl (fun _ => rfl) rfl ?_
    refine ex_ret (r := (some (.inl 4294967295), t0, n, 0)) rfl (fun _ => rfl) ?_
    exact absurd hc (by first | decide | omega)
theorem sc_act2_15_257 (d n : Nat) {t0 : en_H} {w : Nat → Nat → Nat} {L : List Nat} {σ : Nat → Nat} {c : Nat} (g0 : ai_HG ah_G t0) (hC : CW t0 257 w L) (hw : WS w) (hb : sbd σ) (hS : SC t0 15 (w 0 2) (w 0 4) σ) (k10 : ai_hv t0 0 10 = some (gx_r 257)) {v : Nat} (hsum : σ 7 + σ 8 ≤ 19998) (hv : v ≤ 999) (hc : c < w 0 4) : ∃ r, en_u (d + 5) 124 [gx_r 0, gx_r 15, .inl 2, .inl c, .inl v] t0 n = some r ∧ ∃ y t', r = (some (.inl y), t', n, 0) ∧ ai_HG ah_G t' ∧ (∀ c i, ¬ (17 ≤ c ∧ c ≤ 21) → ai_hv t' c i = ai_hv t0 c i) ∧ (mayL w σ c → y = lnv σ c v ∧ SC t' 15 (w 0 2) (w 0 4) (sgL σ c v)) ∧ (¬ mayL w σ c → y = 4294967295 ∧ t' = t0) := by
  have hK := hw.1.2.2.2.2.1
  refine en_u_ex (d := d + 4) rfl ?_
  show en_ex _ _ _ _ (0, [(0, gx_r 0), (1, gx_r 15), (2, .inl 2), (3, .inl c), (4, .inl v)], [], t0, n, 0) _
  refine ex_go (S := (1, [(0, gx_r 0), (1, gx_r 15), (2, .inl 2), (3, .inl c), (4, .inl v)], [.inl 2], t0, n, 0)) rfl (fun _ => rfl) rfl ?_
  refine ex_go (S := (41, [(0, gx_r 0), (1, gx_r 15), (2, .inl 2), (3, .inl c), (4, .inl v)], [], t0, n, 0)) rfl (fun _ => rfl) rfl ?_
  refine ex_go (S := (42, [(0, gx_r 0), (1, gx_r 15), (2, .inl 2), (3, .inl c), (4, .inl v)], [gx_r 0], t0, n, 0)) rfl (fun _ => rfl) rfl ?_
  refine gxo_get (a := 0) rfl g0 rfl rfl k10 rfl ?_
  refine gxo_ref (a := 257) (c := 272) rfl g0 rfl rfl rfl rfl rfl ?_
  refine ex_go (S := (49, [(0, gx_r 0), (1, gx_r 15), (2, .inl 2), (3, .inl c), (4, .inl v)], [.inl c, gx_r 272], t0, n, 0)) rfl (fun _ => rfl) rfl ?_
  obtain ⟨_, r121, b121, rfl, hb121, hi121⟩ := pz_holds272 (d + 3) n (x := c) (K := w 0 4) g0 (by first | decide | omega) hC.1.2.2.2.2.2 (by first | decide | omega)
  refine gx_callo (a := 272) rfl rfl g0 rfl rfl rfl r121 rfl ?_
  show en_ex _ _ _ _ (52, [(0, gx_r 0), (1, gx_r 15), (2, .inl 2), (3, .inl c), (4, .inl v)], [.inl b121], t0, n, 0) _
  by_cases hc22 : b121 ≠ 0
  · refine gx_1t (c := .ne) rfl (by first | decide | omega) hc22 rfl ?_
    refine ex_go (S := (58, [(0, gx_r 0), (1, gx_r 15), (2, .inl 2), (3, .inl c), (4, .inl v)], [.inl 2], t0, n, 0)) rfl (fun _ => rfl) rfl ?_
    refine ex_go (S := (59, [(0, gx_r 0), (1, gx_r 15), (2, .inl 2), (3, .inl c), (4, .inl v)], [.inl 1, .inl 2], t0, n, 0)) rfl (fun _ => rfl) rfl ?_
    refine ex_go (S := (82, [(0, gx_r 0), (1, gx_r 15), (2, .inl 2), (3, .inl c), (4, .inl v)], [], t0, n, 0)) rfl (fun _ => rfl) rfl ?_
    refine ex_go (S := (83, [(0, gx_r 0), (1, gx_r 15), (2, .inl 2), (3, .inl c), (4, .inl v)], [.inl 2], t0, n, 0)) rfl (fun _ => rfl) rfl ?_
    refine ex_go (S := (84, [(0, gx_r 0), (1, gx_r 15), (2, .inl 2), (3, .inl c), (4, .inl v)], [.inl 2, .inl 2], t0, n, 0)) rfl (fun _ => rfl) rfl ?_
    refine ex_go (S := (87, [(0, gx_r 0), (1, gx_r 15), (2, .inl 2), (3, .inl c), (4, .inl v)], [], t0, n, 0)) rfl (fun _ => rfl) rfl ?_
    refine ex_go (S := (88, [(0, gx_r 0), (1, gx_r 15), (2, .inl 2), (3, .inl c), (4, .inl v)], [gx_r 15], t0, n, 0)) rfl (fun _ => rfl) rfl ?_
    refine ex_go (S := (89, [(0, gx_r 0), (1, gx_r 15), (2, .inl 2), (3, .inl c), (4, .inl v)], [gx_r 0, gx_r 15], t0, n, 0)) rfl (fun _ => rfl) rfl ?_
    refine gxo_get (a := 0) rfl g0 rfl rfl k10 rfl ?_
    refine ex_go (S := (93, [(0, gx_r 0), (1, gx_r 15), (2, .inl 2), (3, .inl c), (4, .inl v)], [.inl c, gx_r 257, gx_r 15], t0, n, 0)) rfl (fun _ => rfl) rfl ?_
    refine ex_go (S := (95, [(0, gx_r 0), (1, gx_r 15), (2, .inl 2), (3, .inl c), (4, .inl v)], [.inl v, .inl c, gx_r 257, gx_r 15], t0, n, 0)) rfl (fun _ => rfl) rfl ?_
    obtain ⟨_, r123, y123, t123, rfl, g123, e123, p123, q123⟩ := sc_lb15_257 (d + 2) n g0 hC hw hb hS hsum hc hv
    refine gx_callo (a := 15) rfl rfl g0 rfl rfl rfl r123 rfl ?_
    have k24 : ai_hv t123 0 10 = some (gx_r 257) := (e123 0 10 (by first | decide | omega)).trans k10
    show en_ex _ _ _ _ (98, [(0, gx_r 0), (1, gx_r 15), (2, .inl 2), (3, .inl c), (4, .inl v)], [.inl y123], t123, n, 0) _
    refine ex_ret (r := (some (.inl y123), t123, n, 0)) rfl (fun _ => rfl) ?_
    exact ⟨_, rfl, _, _, rfl, g123, (fun c i h => e123 c i (by first | decide | omega)), p123, q123⟩
  · refine gx_1f (c := .ne) rfl (by first | decide | omega) hc22 rfl ?_
    refine ex_go (S := (56, [(0, gx_r 0), (1, gx_r 15), (2, .inl 2), (3, .inl c), (4, .inl v)], [.inl 4294967295], t0, n, 0)) rfl (fun _ => rfl) rfl ?_
    refine ex_ret (r := (some (.inl 4294967295), t0, n, 0)) rfl (fun _ => rfl) ?_
    exact absurd hc (by first | decide | omega)
theorem sc_act3_15_257 (d n : Nat) {t0 : en_H} {w : Nat → Nat → Nat} {L : List Nat} {σ : Nat → Nat} {c : Nat} (g0 : ai_HG ah_G t0) (hC : CW t0 257 w L) (hw : WS w) (hb : sbd σ) (hS : SC t0 15 (w 0 2) (w 0 4) σ) (k10 : ai_hv t0 0 10 = some (gx_r 257)) {to : Nat} (hc : c < w 0 4) : ∃ r, en_u (d + 5) 124 [gx_r 0, gx_r 15, .inl 3, .inl c, .inl to] t0 n = some r ∧ ∃ y t', r = (some (.inl y), t', n, 0) ∧ ai_HG ah_G t' ∧ (∀ c i, ¬ (17 ≤ c ∧ c ≤ 21) → ai_hv t' c i = ai_hv t0 c i) ∧ (mayM w σ c → y = 0 ∧ SC t' 15 (w 0 2) (w 0 4) (sgM' σ c)) ∧ (¬ mayM w σ c → y = 4294967295 ∧ t' = t0) := by
  have hK := hw.1.2.2.2.2.1
  refine en_u_ex (d := d + 4) rfl ?_
  show en_ex _ _ _ _ (0, [(0, gx_r 0), (1, gx_r 15), (2, .inl 3), (3, .inl c), (4, .inl to)], [], t0, n, 0) _
  refine ex_go (S := (1, [(0, gx_r 0), (1, gx_r 15), (2, .inl 3), (3, .inl c), (4, .inl to)], [.inl 3], t0, n, 0)) rfl (fun _ => rfl) rfl ?_
  refine ex_go (S := (41, [(0, gx_r 0), (1, gx_r 15), (2, .inl 3), (3, .inl c), (4, .inl to)], [], t0, n, 0)) rfl (fun _ => rfl) rfl ?_
  refine ex_go (S := (42, [(0, gx_r 0), (1, gx_r 15), (2, .inl 3), (3, .inl c), (4, .inl to)], [gx_r 0], t0, n, 0)) rfl (fun _ => rfl) rfl ?_
  refine gxo_get (a := 0) rfl g0 rfl rfl k10 rfl ?_
  refine gxo_ref (a := 257) (c := 272) rfl g0 rfl rfl rfl rfl rfl ?_
  refine ex_go (S := (49, [(0, gx_r 0), (1, gx_r 15), (2, .inl 3), (3, .inl c), (4, .inl to)], [.inl c, gx_r 272], t0, n, 0)) rfl (fun _ => rfl) rfl ?_
  obtain ⟨_, r121, b121, rfl, hb121, hi121⟩ := pz_holds272 (d + 3) n (x := c) (K := w 0 4) g0 (by first | decide | omega) hC.1.2.2.2.2.2 (by first | decide | omega)
  refine gx_callo (a := 272) rfl rfl g0 rfl rfl rfl r121 rfl ?_
  show en_ex _ _ _ _ (52, [(0, gx_r 0), (1, gx_r 15), (2, .inl 3), (3, .inl c), (4, .inl to)], [.inl b121], t0, n, 0) _
  by_cases hc22 : b121 ≠ 0
  · refine gx_1t (c := .ne) rfl (by first | decide | omega) hc22 rfl ?_
    refine ex_go (S := (58, [(0, gx_r 0), (1, gx_r 15), (2, .inl 3), (3, .inl c), (4, .inl to)], [.inl 3], t0, n, 0)) rfl (fun _ => rfl) rfl ?_
    refine ex_go (S := (59, [(0, gx_r 0), (1, gx_r 15), (2, .inl 3), (3, .inl c), (4, .inl to)], [.inl 1, .inl 3], t0, n, 0)) rfl (fun _ => rfl) rfl ?_
    refine ex_go (S := (82, [(0, gx_r 0), (1, gx_r 15), (2, .inl 3), (3, .inl c), (4, .inl to)], [], t0, n, 0)) rfl (fun _ => rfl) rfl ?_
    refine ex_go (S := (83, [(0, gx_r 0), (1, gx_r 15), (2, .inl 3), (3, .inl c), (4, .inl to)], [.inl 3], t0, n, 0)) rfl (fun _ => rfl) rfl ?_
    refine ex_go (S := (84, [(0, gx_r 0), (1, gx_r 15), (2, .inl 3), (3, .inl c), (4, .inl to)], [.inl 2, .inl 3], t0, n, 0)) rfl (fun _ => rfl) rfl ?_
    refine ex_go (S := (99, [(0, gx_r 0), (1, gx_r 15), (2, .inl 3), (3, .inl c), (4, .inl to)], [], t0, n, 0)) rfl (fun _ => rfl) rfl ?_
    refine ex_go (S := (100, [(0, gx_r 0), (1, gx_r 15), (2, .inl 3), (3, .inl c), (4, .inl to)], [gx_r 15], t0, n, 0)) rfl (fun _ => rfl) rfl ?_
    refine ex_go (S := (101, [(0, gx_r 0), (1, gx_r 15), (2, .inl 3), (3, .inl c), (4, .inl to)], [gx_r 0, gx_r 15], t0, n, 0)) rfl (fun _ => rfl) rfl ?_
    refine gxo_get (a := 0) rfl g0 rfl rfl k10 rfl ?_
    refine ex_go (S := (105, [(0, gx_r 0), (1, gx_r 15), (2, .inl 3), (3, .inl c), (4, .inl to)], [.inl c, gx_r 257, gx_r 15], t0, n, 0)) rfl (fun _ => rfl) rfl ?_
    obtain ⟨_, r123, y123, t123, rfl, g123, e123, hy123, p123, q123⟩ := sc_bi15_257 (d + 3) n g0 hC hw hb hS hc
    refine gx_callo (a := 15) rfl rfl g0 rfl rfl rfl r123 rfl ?_
    have k24 : ai_hv t123 0 10 = some (gx_r 257) := (e123 0 10 (by first | decide | omega)).trans k10
    show en_ex _ _ _ _ (108, [(0, gx_r 0), (1, gx_r 15), (2, .inl 3), (3, .inl c), (4, .inl to)], [.inl y123], t123, n, 0) _
    by_cases hc25 : y123 = 0
    · refine gx_1t (c := .eq) rfl (by first | decide | omega) hc25 rfl ?_
      refine ex_go (S := (116, [(0, gx_r 0), (1, gx_r 15), (2, .inl 3), (3, .inl c), (4, .inl to)], [.inl 4294967295], t123, n, 0)) rfl (fun _ => rfl) rfl ?_
      refine ex_ret (r := (some (.inl 4294967295), t123, n, 0)) rfl (fun _ => rfl) ?_
      have h9 := q123 (by first | decide | omega)
      exact ⟨_, rfl, _, _, rfl, g123, (fun c i h => e123 c i (by first | decide | omega)), (fun z => absurd z h9.1), fun _ => ⟨rfl, h9.2⟩⟩
    · refine gx_1f (c := .eq) rfl (by first | decide | omega) hc25 rfl ?_
      refine ex_go (S := (112, [(0, gx_r 0), (1, gx_r 15), (2, .inl 3), (3, .inl c), (4, .inl to)], [.inl 0], t123, n, 0)) rfl (fun _ => rfl) rfl ?_
      refine ex_go (S := (116, [(0, gx_r 0), (1, gx_r 15), (2, .inl 3), (3, .inl c), (4, .inl to)], [.inl 0], t123, n, 0)) rfl (fun _ => rfl) rfl ?_
      refine ex_ret (r := (some (.inl 0), t123, n, 0)) rfl (fun _ => rfl) ?_
      exact ⟨_, rfl, 0, _, rfl, g123, (fun c i h => e123 c i (by first | decide | omega)), (fun _ => ⟨rfl, (p123 (by first | decide | omega)).2⟩), fun z => absurd (p123 (by first | decide | omega)).1 z⟩
  · refine gx_1f (c := .ne) rfl (by first | decide | omega) hc22 rfl ?_
    refine ex_go (S := (56, [(0, gx_r 0), (1, gx_r 15), (2, .inl 3), (3, .inl c), (4, .inl to)], [.inl 4294967295], t0, n, 0)) rfl (fun _ => rfl) rfl ?_
    refine ex_ret (r := (some (.inl 4294967295), t0, n, 0)) rfl (fun _ => rfl) ?_
    exact absurd hc (by first | decide | omega)
end SSN2
