section SZN
theorem pe_copies (d n : Nat) {t0 : en_H} {f t m : Nat} (g0 : ai_HG ah_G t0) (hck : ha_all (cp_fit f t) m = true) (hf : f + m ≤ 1035) (ht : t + m ≤ 1035) (hd : f + 45 ≤ t ∨ t + 45 ≤ f) (hm : m ≤ 45) : ∃ r, en_u (d + 1) 123 [gx_r 383, .inl f, .inl t, .inl m] t0 n = some r ∧ ∃ t', r = (none, t', n, 0) ∧ ai_HG ah_G t' ∧ (∀ c i, ¬ c = 399 → ai_hv t' c i = ai_hv t0 c i) ∧ ∀ i, ai_hv t' 399 i = if t ≤ i ∧ i < t + m then ai_hv t0 399 (i - t + f) else ai_hv t0 399 i := by
  refine en_u_ex rfl ?_
  show en_ex _ _ _ _ (0, [(0, gx_r 383), (1, .inl f), (2, .inl t), (3, .inl m)], [], t0, n, 0) _
  refine ex_go (S := (1, [(0, gx_r 383), (1, .inl f), (2, .inl t), (3, .inl m)], [.inl 0], t0, n, 0)) rfl (fun _ => rfl) rfl ?_
  refine ex_go (S := (3, cp_L f t m 0, [], t0, n, 0)) rfl (fun _ => rfl) rfl ?_
  exact cp_loop hck hf ht hd hm (fun t' k1 k2 k3 => ⟨_, rfl, t', rfl, k1, k2, k3⟩) m 0 t0 (by omega) g0 (fun _ _ _ => rfl) (fun i => by rw [if_neg (by omega)])
set_option maxRecDepth 1000000 in
theorem pe_mark (d n : Nat) {t0 : en_H} (g0 : ai_HG ah_G t0) {m b : Nat} {F : Nat → Nat} (hm : m < 4294967296) (hb : b ≤ 1) (hF : ∀ i, i < 4 → ai_hv t0 400 i = some (.inl (F i))) (hF1 : ∀ i, i < 4 → F i ≤ 1) : ∃ r, en_u (d + 2) 84 [gx_r 383, .inl m, .inl b] t0 n = some r ∧ ∃ v t', r = (some (.inl v), t', n, 0) ∧ ((m ≤ 3 ∧ (b = 0 ∨ F m = 1)) → v = 1 ∧ ∀ i, i < 4 → ai_hv t' 400 i = some (.inl (if i = m then 1 else F i))) ∧ (¬ (m ≤ 3 ∧ (b = 0 ∨ F m = 1)) → v = 0 ∧ ∀ i, i < 4 → ai_hv t' 400 i = some (.inl (F i))) := by
  refine en_u_ex (d := d + 1) rfl ?_
  show en_ex _ _ _ _ (0, [(0, gx_r 383), (1, .inl m), (2, .inl b)], [], t0, n, 0) _
  refine ex_go (S := (1, [(0, gx_r 383), (1, .inl m), (2, .inl b)], [gx_r 383], t0, n, 0)) rfl (fun _ => rfl) rfl ?_
  refine ex_go (S := (2, [(0, gx_r 383), (1, .inl m), (2, .inl b)], [.inl 0, gx_r 383], t0, n, 0)) rfl (fun _ => rfl) rfl ?_
  refine gx_put rfl g0 rfl rfl (ai_in_h (by omega) (by omega) (by omega)) rfl (fun t101 g101 k101 e101 => ?_)
  refine ex_go (S := (6, [(0, gx_r 383), (1, .inl m), (2, .inl b)], [.inl m], t101, n, 0)) rfl (fun _ => rfl) rfl ?_
  refine ex_go (S := (7, [(0, gx_r 383), (1, .inl m), (2, .inl b)], [.inl 0, .inl m], t101, n, 0)) rfl (fun _ => rfl) rfl ?_
  refine ex_go (S := (8, [(0, gx_r 383), (1, .inl m), (2, .inl b)], [.inl 3, .inl 0, .inl m], t101, n, 0)) rfl (fun _ => rfl) rfl ?_
  obtain ⟨_, r2, b3, rfl, b3b, q4⟩ := pz_within (d) n (t0 := t101) (x := m) (lo := 0) (hi := 3) (by omega) (by omega) (by omega)
  refine ex_stat rfl rfl rfl rfl rfl r2 (Nat.le_refl _) rfl ?_
  show en_ex _ _ _ _ (11, [(0, gx_r 383), (1, .inl m), (2, .inl b)], [.inl b3], t101, n, 0) _
  by_cases hc5 : b3 = 0
  · refine gx_1t (c := .eq) rfl (by omega) hc5 rfl ?_
    refine ex_go (S := (28, [(0, gx_r 383), (1, .inl m), (2, .inl b)], [.inl 0], t101, n, 0)) rfl (fun _ => rfl) rfl ?_
    refine ex_ret (r := (some (.inl 0), t101, n, 0)) rfl (fun _ => rfl) ?_
    exact ⟨_, rfl, 0, t101, rfl, fun h => absurd h (by omega), fun _ => ⟨rfl, fun i hi => (e101 400 i (by omega)).trans (hF i hi)⟩⟩
  · refine gx_1f (c := .eq) rfl (by omega) hc5 rfl ?_
    refine ex_go (S := (15, [(0, gx_r 383), (1, .inl m), (2, .inl b)], [.inl b], t101, n, 0)) rfl (fun _ => rfl) rfl ?_
    by_cases hc6 : b = 0
    · refine gx_1t (c := .eq) rfl (by omega) hc6 rfl ?_
      rcases (show m = 0 ∨ m = 1 ∨ m = 2 ∨ m = 3 by omega) with rfl | rfl | rfl | rfl
      · refine ex_go (S := (30, [(0, gx_r 383), (1, .inl 0), (2, .inl b)], [gx_r 383], t101, n, 0)) rfl (fun _ => rfl) rfl ?_
        refine gx_ref (c := 400) rfl g101 rfl rfl rfl rfl ?_
        refine ex_go (S := (34, [(0, gx_r 383), (1, .inl 0), (2, .inl b)], [.inl 0, gx_r 400], t101, n, 0)) rfl (fun _ => rfl) rfl ?_
        refine ex_go (S := (35, [(0, gx_r 383), (1, .inl 0), (2, .inl b)], [.inl 1, .inl 0, gx_r 400], t101, n, 0)) rfl (fun _ => rfl) rfl ?_
        refine gx_apv (d := 2) rfl (fun _ => rfl) g101 rfl rfl rfl (show 0 < 4 from by omega) rfl (ai_in_h (by omega) (by omega) (by omega)) rfl (fun t107 g107 k107 e107 => ?_)
        refine ex_go (S := (37, [(0, gx_r 383), (1, .inl 0), (2, .inl b)], [gx_r 383], t107, n, 0)) rfl (fun _ => rfl) rfl ?_
        refine ex_go (S := (38, [(0, gx_r 383), (1, .inl 0), (2, .inl b)], [.inl b, gx_r 383], t107, n, 0)) rfl (fun _ => rfl) rfl ?_
        by_cases hc8 : b = 0
        · refine gx_1t (c := .eq) rfl (by omega) hc8 rfl ?_
          refine ex_go (S := (51, [(0, gx_r 383), (1, .inl 0), (2, .inl b)], [.inl 0, gx_r 383], t107, n, 0)) rfl (fun _ => rfl) rfl ?_
          refine ex_go (S := (52, [(0, gx_r 383), (1, .inl 0), (2, .inl b)], [.inl b, .inl 0, gx_r 383], t107, n, 0)) rfl (fun _ => rfl) rfl ?_
          by_cases hc9 : b = 0
          · refine gx_1t (c := .eq) rfl (by omega) hc9 rfl ?_
            refine ex_go (S := (61, [(0, gx_r 383), (1, .inl 0), (2, .inl b)], [.inl 45, .inl 0, gx_r 383], t107, n, 0)) rfl (fun _ => rfl) rfl ?_
            refine ex_go (S := (62, [(0, gx_r 383), (1, .inl 0), (2, .inl b)], [.inl 1, .inl 45, .inl 0, gx_r 383], t107, n, 0)) rfl (fun _ => rfl) rfl ?_
            refine ex_go (S := (63, [(0, gx_r 383), (1, .inl 0), (2, .inl b)], [.inl 0, .inl 1, .inl 45, .inl 0, gx_r 383], t107, n, 0)) rfl (fun _ => rfl) rfl ?_
            refine ex_go (S := (64, [(0, gx_r 383), (1, .inl 0), (2, .inl b)], [.inl 1, .inl 45, .inl 0, gx_r 383], t107, n, 0)) rfl (fun _ => rfl) rfl ?_
            refine ex_go (S := (65, [(0, gx_r 383), (1, .inl 0), (2, .inl b)], [.inl 45, .inl 0, gx_r 383], t107, n, 0)) rfl (fun _ => rfl) rfl ?_
            refine ex_go (S := (67, [(0, gx_r 383), (1, .inl 0), (2, .inl b)], [.inl 45, .inl 45, .inl 0, gx_r 383], t107, n, 0)) rfl (fun _ => rfl) rfl ?_
            obtain ⟨_, r110, t110, rfl, g110, e110, -⟩ := pe_copies d n (f := 0) (t := 45) (m := 45) g107 (by decide +kernel) (by decide) (by decide) (by decide) (by decide)
            refine gx_call0 rfl rfl g107 rfl rfl r110 rfl ?_
            have k11 : ai_hv t110 400 0 = some (.inl 1) := (e110 400 0 (by omega)).trans k107
            show en_ex _ _ _ _ (70, [(0, gx_r 383), (1, .inl 0), (2, .inl b)], [], t110, n, 0) _
            refine ex_go (S := (71, [(0, gx_r 383), (1, .inl 0), (2, .inl b)], [gx_r 383], t110, n, 0)) rfl (fun _ => rfl) rfl ?_
            refine ex_go (S := (72, [(0, gx_r 383), (1, .inl 0), (2, .inl b)], [.inl b, gx_r 383], t110, n, 0)) rfl (fun _ => rfl) rfl ?_
            by_cases hc12 : b = 0
            · refine gx_1t (c := .eq) rfl (by omega) hc12 rfl ?_
              refine ex_go (S := (80, [(0, gx_r 383), (1, .inl 0), (2, .inl b)], [gx_r 383, gx_r 383], t110, n, 0)) rfl (fun _ => rfl) rfl ?_
              obtain ⟨m13, k14, m13l, m13h⟩ := gx_in (c := 383) (i := 26) (lo := 0) (hi := 16) g110 rfl rfl rfl rfl
              refine gx_get rfl g110 rfl k14 rfl ?_
              refine gx_put rfl g110 rfl rfl (ai_in_h (by omega) (by omega) (by omega)) rfl (fun t115 g115 k115 e115 => ?_)
              have k16 : ai_hv t115 400 0 = some (.inl 1) := (e115 400 0 (by omega)).trans k11
              refine ex_go (S := (87, [(0, gx_r 383), (1, .inl 0), (2, .inl b)], [.inl 1], t115, n, 0)) rfl (fun _ => rfl) rfl ?_
              refine ex_ret (r := (some (.inl 1), t115, n, 0)) rfl (fun _ => rfl) ?_
              refine ⟨_, rfl, 1, t115, rfl, fun _ => ⟨rfl, fun i hi => ?_⟩, fun h => absurd h (by omega)⟩
              rcases (show i = 0 ∨ i = 1 ∨ i = 2 ∨ i = 3 by omega) with rfl | rfl | rfl | rfl
              · rw [if_pos rfl]; exact k16
              · rw [if_neg (by decide)]; exact (e115 400 1 (by omega)).trans ((e110 400 1 (by omega)).trans ((e107 400 1 (by omega)).trans ((e101 400 1 (by omega)).trans (hF 1 (by omega)))))
              · rw [if_neg (by decide)]; exact (e115 400 2 (by omega)).trans ((e110 400 2 (by omega)).trans ((e107 400 2 (by omega)).trans ((e101 400 2 (by omega)).trans (hF 2 (by omega)))))
              · rw [if_neg (by decide)]; exact (e115 400 3 (by omega)).trans ((e110 400 3 (by omega)).trans ((e107 400 3 (by omega)).trans ((e101 400 3 (by omega)).trans (hF 3 (by omega)))))
            · refine gx_1f (c := .eq) rfl (by omega) hc12 rfl ?_
              refine ex_go (S := (76, [(0, gx_r 383), (1, .inl 0), (2, .inl b)], [.inl 0, gx_r 383], t110, n, 0)) rfl (fun _ => rfl) rfl ?_
              refine ex_go (S := (83, [(0, gx_r 383), (1, .inl 0), (2, .inl b)], [.inl 0, gx_r 383], t110, n, 0)) rfl (fun _ => rfl) rfl ?_
              refine gx_put rfl g110 rfl rfl (ai_in_h (by omega) (by omega) (by omega)) rfl (fun t117 g117 k117 e117 => ?_)
              have k18 : ai_hv t117 400 0 = some (.inl 1) := (e117 400 0 (by omega)).trans k11
              refine ex_go (S := (87, [(0, gx_r 383), (1, .inl 0), (2, .inl b)], [.inl 1], t117, n, 0)) rfl (fun _ => rfl) rfl ?_
              refine ex_ret (r := (some (.inl 1), t117, n, 0)) rfl (fun _ => rfl) ?_
              refine ⟨_, rfl, 1, t117, rfl, fun _ => ⟨rfl, fun i hi => ?_⟩, fun h => absurd h (by omega)⟩
              rcases (show i = 0 ∨ i = 1 ∨ i = 2 ∨ i = 3 by omega) with rfl | rfl | rfl | rfl
              · rw [if_pos rfl]; exact k18
              · rw [if_neg (by decide)]; exact (e117 400 1 (by omega)).trans ((e110 400 1 (by omega)).trans ((e107 400 1 (by omega)).trans ((e101 400 1 (by omega)).trans (hF 1 (by omega)))))
              · rw [if_neg (by decide)]; exact (e117 400 2 (by omega)).trans ((e110 400 2 (by omega)).trans ((e107 400 2 (by omega)).trans ((e101 400 2 (by omega)).trans (hF 2 (by omega)))))
              · rw [if_neg (by decide)]; exact (e117 400 3 (by omega)).trans ((e110 400 3 (by omega)).trans ((e107 400 3 (by omega)).trans ((e101 400 3 (by omega)).trans (hF 3 (by omega)))))
          · refine gx_1f (c := .eq) rfl (by omega) hc9 rfl ?_
            refine ex_go (S := (56, [(0, gx_r 383), (1, .inl 0), (2, .inl b)], [.inl 0, .inl 0, gx_r 383], t107, n, 0)) rfl (fun _ => rfl) rfl ?_
            refine ex_go (S := (65, [(0, gx_r 383), (1, .inl 0), (2, .inl b)], [.inl 0, .inl 0, gx_r 383], t107, n, 0)) rfl (fun _ => rfl) rfl ?_
            refine ex_go (S := (67, [(0, gx_r 383), (1, .inl 0), (2, .inl b)], [.inl 45, .inl 0, .inl 0, gx_r 383], t107, n, 0)) rfl (fun _ => rfl) rfl ?_
            obtain ⟨_, r119, t119, rfl, g119, e119, -⟩ := pe_copies d n (f := 0) (t := 0) (m := 45) g107 (by decide +kernel) (by decide) (by decide) (by decide) (by decide)
            refine gx_call0 rfl rfl g107 rfl rfl r119 rfl ?_
            have k20 : ai_hv t119 400 0 = some (.inl 1) := (e119 400 0 (by omega)).trans k107
            show en_ex _ _ _ _ (70, [(0, gx_r 383), (1, .inl 0), (2, .inl b)], [], t119, n, 0) _
            refine ex_go (S := (71, [(0, gx_r 383), (1, .inl 0), (2, .inl b)], [gx_r 383], t119, n, 0)) rfl (fun _ => rfl) rfl ?_
            refine ex_go (S := (72, [(0, gx_r 383), (1, .inl 0), (2, .inl b)], [.inl b, gx_r 383], t119, n, 0)) rfl (fun _ => rfl) rfl ?_
            by_cases hc21 : b = 0
            · refine gx_1t (c := .eq) rfl (by omega) hc21 rfl ?_
              refine ex_go (S := (80, [(0, gx_r 383), (1, .inl 0), (2, .inl b)], [gx_r 383, gx_r 383], t119, n, 0)) rfl (fun _ => rfl) rfl ?_
              obtain ⟨m22, k23, m22l, m22h⟩ := gx_in (c := 383) (i := 26) (lo := 0) (hi := 16) g119 rfl rfl rfl rfl
              refine gx_get rfl g119 rfl k23 rfl ?_
              refine gx_put rfl g119 rfl rfl (ai_in_h (by omega) (by omega) (by omega)) rfl (fun t124 g124 k124 e124 => ?_)
              have k25 : ai_hv t124 400 0 = some (.inl 1) := (e124 400 0 (by omega)).trans k20
              refine ex_go (S := (87, [(0, gx_r 383), (1, .inl 0), (2, .inl b)], [.inl 1], t124, n, 0)) rfl (fun _ => rfl) rfl ?_
              refine ex_ret (r := (some (.inl 1), t124, n, 0)) rfl (fun _ => rfl) ?_
              refine ⟨_, rfl, 1, t124, rfl, fun _ => ⟨rfl, fun i hi => ?_⟩, fun h => absurd h (by omega)⟩
              rcases (show i = 0 ∨ i = 1 ∨ i = 2 ∨ i = 3 by omega) with rfl | rfl | rfl | rfl
              · rw [if_pos rfl]; exact k25
              · rw [if_neg (by decide)]; exact (e124 400 1 (by omega)).trans ((e119 400 1 (by omega)).trans ((e107 400 1 (by omega)).trans ((e101 400 1 (by omega)).trans (hF 1 (by omega)))))
              · rw [if_neg (by decide)]; exact (e124 400 2 (by omega)).trans ((e119 400 2 (by omega)).trans ((e107 400 2 (by omega)).trans ((e101 400 2 (by omega)).trans (hF 2 (by omega)))))
              · rw [if_neg (by decide)]; exact (e124 400 3 (by omega)).trans ((e119 400 3 (by omega)).trans ((e107 400 3 (by omega)).trans ((e101 400 3 (by omega)).trans (hF 3 (by omega)))))
            · refine gx_1f (c := .eq) rfl (by omega) hc21 rfl ?_
              refine ex_go (S := (76, [(0, gx_r 383), (1, .inl 0), (2, .inl b)], [.inl 0, gx_r 383], t119, n, 0)) rfl (fun _ => rfl) rfl ?_
              refine ex_go (S := (83, [(0, gx_r 383), (1, .inl 0), (2, .inl b)], [.inl 0, gx_r 383], t119, n, 0)) rfl (fun _ => rfl) rfl ?_
              refine gx_put rfl g119 rfl rfl (ai_in_h (by omega) (by omega) (by omega)) rfl (fun t126 g126 k126 e126 => ?_)
              have k27 : ai_hv t126 400 0 = some (.inl 1) := (e126 400 0 (by omega)).trans k20
              refine ex_go (S := (87, [(0, gx_r 383), (1, .inl 0), (2, .inl b)], [.inl 1], t126, n, 0)) rfl (fun _ => rfl) rfl ?_
              refine ex_ret (r := (some (.inl 1), t126, n, 0)) rfl (fun _ => rfl) ?_
              refine ⟨_, rfl, 1, t126, rfl, fun _ => ⟨rfl, fun i hi => ?_⟩, fun h => absurd h (by omega)⟩
              rcases (show i = 0 ∨ i = 1 ∨ i = 2 ∨ i = 3 by omega) with rfl | rfl | rfl | rfl
              · rw [if_pos rfl]; exact k27
              · rw [if_neg (by decide)]; exact (e126 400 1 (by omega)).trans ((e119 400 1 (by omega)).trans ((e107 400 1 (by omega)).trans ((e101 400 1 (by omega)).trans (hF 1 (by omega)))))
              · rw [if_neg (by decide)]; exact (e126 400 2 (by omega)).trans ((e119 400 2 (by omega)).trans ((e107 400 2 (by omega)).trans ((e101 400 2 (by omega)).trans (hF 2 (by omega)))))
              · rw [if_neg (by decide)]; exact (e126 400 3 (by omega)).trans ((e119 400 3 (by omega)).trans ((e107 400 3 (by omega)).trans ((e101 400 3 (by omega)).trans (hF 3 (by omega)))))
        · refine gx_1f (c := .eq) rfl (by omega) hc8 rfl ?_
          refine ex_go (S := (43, [(0, gx_r 383), (1, .inl 0), (2, .inl b)], [.inl 45, gx_r 383], t107, n, 0)) rfl (fun _ => rfl) rfl ?_
          refine ex_go (S := (44, [(0, gx_r 383), (1, .inl 0), (2, .inl b)], [.inl 1, .inl 45, gx_r 383], t107, n, 0)) rfl (fun _ => rfl) rfl ?_
          refine ex_go (S := (45, [(0, gx_r 383), (1, .inl 0), (2, .inl b)], [.inl 0, .inl 1, .inl 45, gx_r 383], t107, n, 0)) rfl (fun _ => rfl) rfl ?_
          refine ex_go (S := (46, [(0, gx_r 383), (1, .inl 0), (2, .inl b)], [.inl 1, .inl 45, gx_r 383], t107, n, 0)) rfl (fun _ => rfl) rfl ?_
          refine ex_go (S := (47, [(0, gx_r 383), (1, .inl 0), (2, .inl b)], [.inl 45, gx_r 383], t107, n, 0)) rfl (fun _ => rfl) rfl ?_
          refine ex_go (S := (51, [(0, gx_r 383), (1, .inl 0), (2, .inl b)], [.inl 45, gx_r 383], t107, n, 0)) rfl (fun _ => rfl) rfl ?_
          refine ex_go (S := (52, [(0, gx_r 383), (1, .inl 0), (2, .inl b)], [.inl b, .inl 45, gx_r 383], t107, n, 0)) rfl (fun _ => rfl) rfl ?_
          by_cases hc28 : b = 0
          · refine gx_1t (c := .eq) rfl (by omega) hc28 rfl ?_
            refine ex_go (S := (61, [(0, gx_r 383), (1, .inl 0), (2, .inl b)], [.inl 45, .inl 45, gx_r 383], t107, n, 0)) rfl (fun _ => rfl) rfl ?_
            refine ex_go (S := (62, [(0, gx_r 383), (1, .inl 0), (2, .inl b)], [.inl 1, .inl 45, .inl 45, gx_r 383], t107, n, 0)) rfl (fun _ => rfl) rfl ?_
            refine ex_go (S := (63, [(0, gx_r 383), (1, .inl 0), (2, .inl b)], [.inl 0, .inl 1, .inl 45, .inl 45, gx_r 383], t107, n, 0)) rfl (fun _ => rfl) rfl ?_
            refine ex_go (S := (64, [(0, gx_r 383), (1, .inl 0), (2, .inl b)], [.inl 1, .inl 45, .inl 45, gx_r 383], t107, n, 0)) rfl (fun _ => rfl) rfl ?_
            refine ex_go (S := (65, [(0, gx_r 383), (1, .inl 0), (2, .inl b)], [.inl 45, .inl 45, gx_r 383], t107, n, 0)) rfl (fun _ => rfl) rfl ?_
            refine ex_go (S := (67, [(0, gx_r 383), (1, .inl 0), (2, .inl b)], [.inl 45, .inl 45, .inl 45, gx_r 383], t107, n, 0)) rfl (fun _ => rfl) rfl ?_
            obtain ⟨_, r129, t129, rfl, g129, e129, -⟩ := pe_copies d n (f := 45) (t := 45) (m := 45) g107 (by decide +kernel) (by decide) (by decide) (by decide) (by decide)
            refine gx_call0 rfl rfl g107 rfl rfl r129 rfl ?_
            have k30 : ai_hv t129 400 0 = some (.inl 1) := (e129 400 0 (by omega)).trans k107
            show en_ex _ _ _ _ (70, [(0, gx_r 383), (1, .inl 0), (2, .inl b)], [], t129, n, 0) _
            refine ex_go (S := (71, [(0, gx_r 383), (1, .inl 0), (2, .inl b)], [gx_r 383], t129, n, 0)) rfl (fun _ => rfl) rfl ?_
            refine ex_go (S := (72, [(0, gx_r 383), (1, .inl 0), (2, .inl b)], [.inl b, gx_r 383], t129, n, 0)) rfl (fun _ => rfl) rfl ?_
            by_cases hc31 : b = 0
            · refine gx_1t (c := .eq) rfl (by omega) hc31 rfl ?_
              refine ex_go (S := (80, [(0, gx_r 383), (1, .inl 0), (2, .inl b)], [gx_r 383, gx_r 383], t129, n, 0)) rfl (fun _ => rfl) rfl ?_
              obtain ⟨m32, k33, m32l, m32h⟩ := gx_in (c := 383) (i := 26) (lo := 0) (hi := 16) g129 rfl rfl rfl rfl
              refine gx_get rfl g129 rfl k33 rfl ?_
              refine gx_put rfl g129 rfl rfl (ai_in_h (by omega) (by omega) (by omega)) rfl (fun t134 g134 k134 e134 => ?_)
              have k35 : ai_hv t134 400 0 = some (.inl 1) := (e134 400 0 (by omega)).trans k30
              refine ex_go (S := (87, [(0, gx_r 383), (1, .inl 0), (2, .inl b)], [.inl 1], t134, n, 0)) rfl (fun _ => rfl) rfl ?_
              refine ex_ret (r := (some (.inl 1), t134, n, 0)) rfl (fun _ => rfl) ?_
              refine ⟨_, rfl, 1, t134, rfl, fun _ => ⟨rfl, fun i hi => ?_⟩, fun h => absurd h (by omega)⟩
              rcases (show i = 0 ∨ i = 1 ∨ i = 2 ∨ i = 3 by omega) with rfl | rfl | rfl | rfl
              · rw [if_pos rfl]; exact k35
              · rw [if_neg (by decide)]; exact (e134 400 1 (by omega)).trans ((e129 400 1 (by omega)).trans ((e107 400 1 (by omega)).trans ((e101 400 1 (by omega)).trans (hF 1 (by omega)))))
              · rw [if_neg (by decide)]; exact (e134 400 2 (by omega)).trans ((e129 400 2 (by omega)).trans ((e107 400 2 (by omega)).trans ((e101 400 2 (by omega)).trans (hF 2 (by omega)))))
              · rw [if_neg (by decide)]; exact (e134 400 3 (by omega)).trans ((e129 400 3 (by omega)).trans ((e107 400 3 (by omega)).trans ((e101 400 3 (by omega)).trans (hF 3 (by omega)))))
            · refine gx_1f (c := .eq) rfl (by omega) hc31 rfl ?_
              refine ex_go (S := (76, [(0, gx_r 383), (1, .inl 0), (2, .inl b)], [.inl 0, gx_r 383], t129, n, 0)) rfl (fun _ => rfl) rfl ?_
              refine ex_go (S := (83, [(0, gx_r 383), (1, .inl 0), (2, .inl b)], [.inl 0, gx_r 383], t129, n, 0)) rfl (fun _ => rfl) rfl ?_
              refine gx_put rfl g129 rfl rfl (ai_in_h (by omega) (by omega) (by omega)) rfl (fun t136 g136 k136 e136 => ?_)
              have k37 : ai_hv t136 400 0 = some (.inl 1) := (e136 400 0 (by omega)).trans k30
              refine ex_go (S := (87, [(0, gx_r 383), (1, .inl 0), (2, .inl b)], [.inl 1], t136, n, 0)) rfl (fun _ => rfl) rfl ?_
              refine ex_ret (r := (some (.inl 1), t136, n, 0)) rfl (fun _ => rfl) ?_
              refine ⟨_, rfl, 1, t136, rfl, fun _ => ⟨rfl, fun i hi => ?_⟩, fun h => absurd h (by omega)⟩
              rcases (show i = 0 ∨ i = 1 ∨ i = 2 ∨ i = 3 by omega) with rfl | rfl | rfl | rfl
              · rw [if_pos rfl]; exact k37
              · rw [if_neg (by decide)]; exact (e136 400 1 (by omega)).trans ((e129 400 1 (by omega)).trans ((e107 400 1 (by omega)).trans ((e101 400 1 (by omega)).trans (hF 1 (by omega)))))
              · rw [if_neg (by decide)]; exact (e136 400 2 (by omega)).trans ((e129 400 2 (by omega)).trans ((e107 400 2 (by omega)).trans ((e101 400 2 (by omega)).trans (hF 2 (by omega)))))
              · rw [if_neg (by decide)]; exact (e136 400 3 (by omega)).trans ((e129 400 3 (by omega)).trans ((e107 400 3 (by omega)).trans ((e101 400 3 (by omega)).trans (hF 3 (by omega)))))
          · refine gx_1f (c := .eq) rfl (by omega) hc28 rfl ?_
            refine ex_go (S := (56, [(0, gx_r 383), (1, .inl 0), (2, .inl b)], [.inl 0, .inl 45, gx_r 383], t107, n, 0)) rfl (fun _ => rfl) rfl ?_
            refine ex_go (S := (65, [(0, gx_r 383), (1, .inl 0), (2, .inl b)], [.inl 0, .inl 45, gx_r 383], t107, n, 0)) rfl (fun _ => rfl) rfl ?_
            refine ex_go (S := (67, [(0, gx_r 383), (1, .inl 0), (2, .inl b)], [.inl 45, .inl 0, .inl 45, gx_r 383], t107, n, 0)) rfl (fun _ => rfl) rfl ?_
            obtain ⟨_, r138, t138, rfl, g138, e138, -⟩ := pe_copies d n (f := 45) (t := 0) (m := 45) g107 (by decide +kernel) (by decide) (by decide) (by decide) (by decide)
            refine gx_call0 rfl rfl g107 rfl rfl r138 rfl ?_
            have k39 : ai_hv t138 400 0 = some (.inl 1) := (e138 400 0 (by omega)).trans k107
            show en_ex _ _ _ _ (70, [(0, gx_r 383), (1, .inl 0), (2, .inl b)], [], t138, n, 0) _
            refine ex_go (S := (71, [(0, gx_r 383), (1, .inl 0), (2, .inl b)], [gx_r 383], t138, n, 0)) rfl (fun _ => rfl) rfl ?_
            refine ex_go (S := (72, [(0, gx_r 383), (1, .inl 0), (2, .inl b)], [.inl b, gx_r 383], t138, n, 0)) rfl (fun _ => rfl) rfl ?_
            by_cases hc40 : b = 0
            · refine gx_1t (c := .eq) rfl (by omega) hc40 rfl ?_
              refine ex_go (S := (80, [(0, gx_r 383), (1, .inl 0), (2, .inl b)], [gx_r 383, gx_r 383], t138, n, 0)) rfl (fun _ => rfl) rfl ?_
              obtain ⟨m41, k42, m41l, m41h⟩ := gx_in (c := 383) (i := 26) (lo := 0) (hi := 16) g138 rfl rfl rfl rfl
              refine gx_get rfl g138 rfl k42 rfl ?_
              refine gx_put rfl g138 rfl rfl (ai_in_h (by omega) (by omega) (by omega)) rfl (fun t143 g143 k143 e143 => ?_)
              have k44 : ai_hv t143 400 0 = some (.inl 1) := (e143 400 0 (by omega)).trans k39
              refine ex_go (S := (87, [(0, gx_r 383), (1, .inl 0), (2, .inl b)], [.inl 1], t143, n, 0)) rfl (fun _ => rfl) rfl ?_
              refine ex_ret (r := (some (.inl 1), t143, n, 0)) rfl (fun _ => rfl) ?_
              refine ⟨_, rfl, 1, t143, rfl, fun _ => ⟨rfl, fun i hi => ?_⟩, fun h => absurd h (by omega)⟩
              rcases (show i = 0 ∨ i = 1 ∨ i = 2 ∨ i = 3 by omega) with rfl | rfl | rfl | rfl
              · rw [if_pos rfl]; exact k44
              · rw [if_neg (by decide)]; exact (e143 400 1 (by omega)).trans ((e138 400 1 (by omega)).trans ((e107 400 1 (by omega)).trans ((e101 400 1 (by omega)).trans (hF 1 (by omega)))))
              · rw [if_neg (by decide)]; exact (e143 400 2 (by omega)).trans ((e138 400 2 (by omega)).trans ((e107 400 2 (by omega)).trans ((e101 400 2 (by omega)).trans (hF 2 (by omega)))))
              · rw [if_neg (by decide)]; exact (e143 400 3 (by omega)).trans ((e138 400 3 (by omega)).trans ((e107 400 3 (by omega)).trans ((e101 400 3 (by omega)).trans (hF 3 (by omega)))))
            · refine gx_1f (c := .eq) rfl (by omega) hc40 rfl ?_
              refine ex_go (S := (76, [(0, gx_r 383), (1, .inl 0), (2, .inl b)], [.inl 0, gx_r 383], t138, n, 0)) rfl (fun _ => rfl) rfl ?_
              refine ex_go (S := (83, [(0, gx_r 383), (1, .inl 0), (2, .inl b)], [.inl 0, gx_r 383], t138, n, 0)) rfl (fun _ => rfl) rfl ?_
              refine gx_put rfl g138 rfl rfl (ai_in_h (by omega) (by omega) (by omega)) rfl (fun t145 g145 k145 e145 => ?_)
              have k46 : ai_hv t145 400 0 = some (.inl 1) := (e145 400 0 (by omega)).trans k39
              refine ex_go (S := (87, [(0, gx_r 383), (1, .inl 0), (2, .inl b)], [.inl 1], t145, n, 0)) rfl (fun _ => rfl) rfl ?_
              refine ex_ret (r := (some (.inl 1), t145, n, 0)) rfl (fun _ => rfl) ?_
              refine ⟨_, rfl, 1, t145, rfl, fun _ => ⟨rfl, fun i hi => ?_⟩, fun h => absurd h (by omega)⟩
              rcases (show i = 0 ∨ i = 1 ∨ i = 2 ∨ i = 3 by omega) with rfl | rfl | rfl | rfl
              · rw [if_pos rfl]; exact k46
              · rw [if_neg (by decide)]; exact (e145 400 1 (by omega)).trans ((e138 400 1 (by omega)).trans ((e107 400 1 (by omega)).trans ((e101 400 1 (by omega)).trans (hF 1 (by omega)))))
              · rw [if_neg (by decide)]; exact (e145 400 2 (by omega)).trans ((e138 400 2 (by omega)).trans ((e107 400 2 (by omega)).trans ((e101 400 2 (by omega)).trans (hF 2 (by omega)))))
              · rw [if_neg (by decide)]; exact (e145 400 3 (by omega)).trans ((e138 400 3 (by omega)).trans ((e107 400 3 (by omega)).trans ((e101 400 3 (by omega)).trans (hF 3 (by omega)))))
      · refine ex_go (S := (30, [(0, gx_r 383), (1, .inl 1), (2, .inl b)], [gx_r 383], t101, n, 0)) rfl (fun _ => rfl) rfl ?_
        refine gx_ref (c := 400) rfl g101 rfl rfl rfl rfl ?_
        refine ex_go (S := (34, [(0, gx_r 383), (1, .inl 1), (2, .inl b)], [.inl 1, gx_r 400], t101, n, 0)) rfl (fun _ => rfl) rfl ?_
        refine ex_go (S := (35, [(0, gx_r 383), (1, .inl 1), (2, .inl b)], [.inl 1, .inl 1, gx_r 400], t101, n, 0)) rfl (fun _ => rfl) rfl ?_
        refine gx_apv (d := 2) rfl (fun _ => rfl) g101 rfl rfl rfl (show 1 < 4 from by omega) rfl (ai_in_h (by omega) (by omega) (by omega)) rfl (fun t147 g147 k147 e147 => ?_)
        refine ex_go (S := (37, [(0, gx_r 383), (1, .inl 1), (2, .inl b)], [gx_r 383], t147, n, 0)) rfl (fun _ => rfl) rfl ?_
        refine ex_go (S := (38, [(0, gx_r 383), (1, .inl 1), (2, .inl b)], [.inl b, gx_r 383], t147, n, 0)) rfl (fun _ => rfl) rfl ?_
        by_cases hc48 : b = 0
        · refine gx_1t (c := .eq) rfl (by omega) hc48 rfl ?_
          refine ex_go (S := (51, [(0, gx_r 383), (1, .inl 1), (2, .inl b)], [.inl 0, gx_r 383], t147, n, 0)) rfl (fun _ => rfl) rfl ?_
          refine ex_go (S := (52, [(0, gx_r 383), (1, .inl 1), (2, .inl b)], [.inl b, .inl 0, gx_r 383], t147, n, 0)) rfl (fun _ => rfl) rfl ?_
          by_cases hc49 : b = 0
          · refine gx_1t (c := .eq) rfl (by omega) hc49 rfl ?_
            refine ex_go (S := (61, [(0, gx_r 383), (1, .inl 1), (2, .inl b)], [.inl 45, .inl 0, gx_r 383], t147, n, 0)) rfl (fun _ => rfl) rfl ?_
            refine ex_go (S := (62, [(0, gx_r 383), (1, .inl 1), (2, .inl b)], [.inl 1, .inl 45, .inl 0, gx_r 383], t147, n, 0)) rfl (fun _ => rfl) rfl ?_
            refine ex_go (S := (63, [(0, gx_r 383), (1, .inl 1), (2, .inl b)], [.inl 1, .inl 1, .inl 45, .inl 0, gx_r 383], t147, n, 0)) rfl (fun _ => rfl) rfl ?_
            refine ex_go (S := (64, [(0, gx_r 383), (1, .inl 1), (2, .inl b)], [.inl 2, .inl 45, .inl 0, gx_r 383], t147, n, 0)) rfl (fun _ => rfl) rfl ?_
            refine ex_go (S := (65, [(0, gx_r 383), (1, .inl 1), (2, .inl b)], [.inl 90, .inl 0, gx_r 383], t147, n, 0)) rfl (fun _ => rfl) rfl ?_
            refine ex_go (S := (67, [(0, gx_r 383), (1, .inl 1), (2, .inl b)], [.inl 45, .inl 90, .inl 0, gx_r 383], t147, n, 0)) rfl (fun _ => rfl) rfl ?_
            obtain ⟨_, r150, t150, rfl, g150, e150, -⟩ := pe_copies d n (f := 0) (t := 90) (m := 45) g147 (by decide +kernel) (by decide) (by decide) (by decide) (by decide)
            refine gx_call0 rfl rfl g147 rfl rfl r150 rfl ?_
            have k51 : ai_hv t150 400 1 = some (.inl 1) := (e150 400 1 (by omega)).trans k147
            show en_ex _ _ _ _ (70, [(0, gx_r 383), (1, .inl 1), (2, .inl b)], [], t150, n, 0) _
            refine ex_go (S := (71, [(0, gx_r 383), (1, .inl 1), (2, .inl b)], [gx_r 383], t150, n, 0)) rfl (fun _ => rfl) rfl ?_
            refine ex_go (S := (72, [(0, gx_r 383), (1, .inl 1), (2, .inl b)], [.inl b, gx_r 383], t150, n, 0)) rfl (fun _ => rfl) rfl ?_
            by_cases hc52 : b = 0
            · refine gx_1t (c := .eq) rfl (by omega) hc52 rfl ?_
              refine ex_go (S := (80, [(0, gx_r 383), (1, .inl 1), (2, .inl b)], [gx_r 383, gx_r 383], t150, n, 0)) rfl (fun _ => rfl) rfl ?_
              obtain ⟨m53, k54, m53l, m53h⟩ := gx_in (c := 383) (i := 26) (lo := 0) (hi := 16) g150 rfl rfl rfl rfl
              refine gx_get rfl g150 rfl k54 rfl ?_
              refine gx_put rfl g150 rfl rfl (ai_in_h (by omega) (by omega) (by omega)) rfl (fun t155 g155 k155 e155 => ?_)
              have k56 : ai_hv t155 400 1 = some (.inl 1) := (e155 400 1 (by omega)).trans k51
              refine ex_go (S := (87, [(0, gx_r 383), (1, .inl 1), (2, .inl b)], [.inl 1], t155, n, 0)) rfl (fun _ => rfl) rfl ?_
              refine ex_ret (r := (some (.inl 1), t155, n, 0)) rfl (fun _ => rfl) ?_
              refine ⟨_, rfl, 1, t155, rfl, fun _ => ⟨rfl, fun i hi => ?_⟩, fun h => absurd h (by omega)⟩
              rcases (show i = 0 ∨ i = 1 ∨ i = 2 ∨ i = 3 by omega) with rfl | rfl | rfl | rfl
              · rw [if_neg (by decide)]; exact (e155 400 0 (by omega)).trans ((e150 400 0 (by omega)).trans ((e147 400 0 (by omega)).trans ((e101 400 0 (by omega)).trans (hF 0 (by omega)))))
              · rw [if_pos rfl]; exact k56
              · rw [if_neg (by decide)]; exact (e155 400 2 (by omega)).trans ((e150 400 2 (by omega)).trans ((e147 400 2 (by omega)).trans ((e101 400 2 (by omega)).trans (hF 2 (by omega)))))
              · rw [if_neg (by decide)]; exact (e155 400 3 (by omega)).trans ((e150 400 3 (by omega)).trans ((e147 400 3 (by omega)).trans ((e101 400 3 (by omega)).trans (hF 3 (by omega)))))
            · refine gx_1f (c := .eq) rfl (by omega) hc52 rfl ?_
              refine ex_go (S := (76, [(0, gx_r 383), (1, .inl 1), (2, .inl b)], [.inl 0, gx_r 383], t150, n, 0)) rfl (fun _ => rfl) rfl ?_
              refine ex_go (S := (83, [(0, gx_r 383), (1, .inl 1), (2, .inl b)], [.inl 0, gx_r 383], t150, n, 0)) rfl (fun _ => rfl) rfl ?_
              refine gx_put rfl g150 rfl rfl (ai_in_h (by omega) (by omega) (by omega)) rfl (fun t157 g157 k157 e157 => ?_)
              have k58 : ai_hv t157 400 1 = some (.inl 1) := (e157 400 1 (by omega)).trans k51
              refine ex_go (S := (87, [(0, gx_r 383), (1, .inl 1), (2, .inl b)], [.inl 1], t157, n, 0)) rfl (fun _ => rfl) rfl ?_
              refine ex_ret (r := (some (.inl 1), t157, n, 0)) rfl (fun _ => rfl) ?_
              refine ⟨_, rfl, 1, t157, rfl, fun _ => ⟨rfl, fun i hi => ?_⟩, fun h => absurd h (by omega)⟩
              rcases (show i = 0 ∨ i = 1 ∨ i = 2 ∨ i = 3 by omega) with rfl | rfl | rfl | rfl
              · rw [if_neg (by decide)]; exact (e157 400 0 (by omega)).trans ((e150 400 0 (by omega)).trans ((e147 400 0 (by omega)).trans ((e101 400 0 (by omega)).trans (hF 0 (by omega)))))
              · rw [if_pos rfl]; exact k58
              · rw [if_neg (by decide)]; exact (e157 400 2 (by omega)).trans ((e150 400 2 (by omega)).trans ((e147 400 2 (by omega)).trans ((e101 400 2 (by omega)).trans (hF 2 (by omega)))))
              · rw [if_neg (by decide)]; exact (e157 400 3 (by omega)).trans ((e150 400 3 (by omega)).trans ((e147 400 3 (by omega)).trans ((e101 400 3 (by omega)).trans (hF 3 (by omega)))))
          · refine gx_1f (c := .eq) rfl (by omega) hc49 rfl ?_
            refine ex_go (S := (56, [(0, gx_r 383), (1, .inl 1), (2, .inl b)], [.inl 0, .inl 0, gx_r 383], t147, n, 0)) rfl (fun _ => rfl) rfl ?_
            refine ex_go (S := (65, [(0, gx_r 383), (1, .inl 1), (2, .inl b)], [.inl 0, .inl 0, gx_r 383], t147, n, 0)) rfl (fun _ => rfl) rfl ?_
            refine ex_go (S := (67, [(0, gx_r 383), (1, .inl 1), (2, .inl b)], [.inl 45, .inl 0, .inl 0, gx_r 383], t147, n, 0)) rfl (fun _ => rfl) rfl ?_
            obtain ⟨_, r159, t159, rfl, g159, e159, -⟩ := pe_copies d n (f := 0) (t := 0) (m := 45) g147 (by decide +kernel) (by decide) (by decide) (by decide) (by decide)
            refine gx_call0 rfl rfl g147 rfl rfl r159 rfl ?_
            have k60 : ai_hv t159 400 1 = some (.inl 1) := (e159 400 1 (by omega)).trans k147
            show en_ex _ _ _ _ (70, [(0, gx_r 383), (1, .inl 1), (2, .inl b)], [], t159, n, 0) _
            refine ex_go (S := (71, [(0, gx_r 383), (1, .inl 1), (2, .inl b)], [gx_r 383], t159, n, 0)) rfl (fun _ => rfl) rfl ?_
            refine ex_go (S := (72, [(0, gx_r 383), (1, .inl 1), (2, .inl b)], [.inl b, gx_r 383], t159, n, 0)) rfl (fun _ => rfl) rfl ?_
            by_cases hc61 : b = 0
            · refine gx_1t (c := .eq) rfl (by omega) hc61 rfl ?_
              refine ex_go (S := (80, [(0, gx_r 383), (1, .inl 1), (2, .inl b)], [gx_r 383, gx_r 383], t159, n, 0)) rfl (fun _ => rfl) rfl ?_
              obtain ⟨m62, k63, m62l, m62h⟩ := gx_in (c := 383) (i := 26) (lo := 0) (hi := 16) g159 rfl rfl rfl rfl
              refine gx_get rfl g159 rfl k63 rfl ?_
              refine gx_put rfl g159 rfl rfl (ai_in_h (by omega) (by omega) (by omega)) rfl (fun t164 g164 k164 e164 => ?_)
              have k65 : ai_hv t164 400 1 = some (.inl 1) := (e164 400 1 (by omega)).trans k60
              refine ex_go (S := (87, [(0, gx_r 383), (1, .inl 1), (2, .inl b)], [.inl 1], t164, n, 0)) rfl (fun _ => rfl) rfl ?_
              refine ex_ret (r := (some (.inl 1), t164, n, 0)) rfl (fun _ => rfl) ?_
              refine ⟨_, rfl, 1, t164, rfl, fun _ => ⟨rfl, fun i hi => ?_⟩, fun h => absurd h (by omega)⟩
              rcases (show i = 0 ∨ i = 1 ∨ i = 2 ∨ i = 3 by omega) with rfl | rfl | rfl | rfl
              · rw [if_neg (by decide)]; exact (e164 400 0 (by omega)).trans ((e159 400 0 (by omega)).trans ((e147 400 0 (by omega)).trans ((e101 400 0 (by omega)).trans (hF 0 (by omega)))))
              · rw [if_pos rfl]; exact k65
              · rw [if_neg (by decide)]; exact (e164 400 2 (by omega)).trans ((e159 400 2 (by omega)).trans ((e147 400 2 (by omega)).trans ((e101 400 2 (by omega)).trans (hF 2 (by omega)))))
              · rw [if_neg (by decide)]; exact (e164 400 3 (by omega)).trans ((e159 400 3 (by omega)).trans ((e147 400 3 (by omega)).trans ((e101 400 3 (by omega)).trans (hF 3 (by omega)))))
            · refine gx_1f (c := .eq) rfl (by omega) hc61 rfl ?_
              refine ex_go (S := (76, [(0, gx_r 383), (1, .inl 1), (2, .inl b)], [.inl 0, gx_r 383], t159, n, 0)) rfl (fun _ => rfl) rfl ?_
              refine ex_go (S := (83, [(0, gx_r 383), (1, .inl 1), (2, .inl b)], [.inl 0, gx_r 383], t159, n, 0)) rfl (fun _ => rfl) rfl ?_
              refine gx_put rfl g159 rfl rfl (ai_in_h (by omega) (by omega) (by omega)) rfl (fun t166 g166 k166 e166 => ?_)
              have k67 : ai_hv t166 400 1 = some (.inl 1) := (e166 400 1 (by omega)).trans k60
              refine ex_go (S := (87, [(0, gx_r 383), (1, .inl 1), (2, .inl b)], [.inl 1], t166, n, 0)) rfl (fun _ => rfl) rfl ?_
              refine ex_ret (r := (some (.inl 1), t166, n, 0)) rfl (fun _ => rfl) ?_
              refine ⟨_, rfl, 1, t166, rfl, fun _ => ⟨rfl, fun i hi => ?_⟩, fun h => absurd h (by omega)⟩
              rcases (show i = 0 ∨ i = 1 ∨ i = 2 ∨ i = 3 by omega) with rfl | rfl | rfl | rfl
              · rw [if_neg (by decide)]; exact (e166 400 0 (by omega)).trans ((e159 400 0 (by omega)).trans ((e147 400 0 (by omega)).trans ((e101 400 0 (by omega)).trans (hF 0 (by omega)))))
              · rw [if_pos rfl]; exact k67
              · rw [if_neg (by decide)]; exact (e166 400 2 (by omega)).trans ((e159 400 2 (by omega)).trans ((e147 400 2 (by omega)).trans ((e101 400 2 (by omega)).trans (hF 2 (by omega)))))
              · rw [if_neg (by decide)]; exact (e166 400 3 (by omega)).trans ((e159 400 3 (by omega)).trans ((e147 400 3 (by omega)).trans ((e101 400 3 (by omega)).trans (hF 3 (by omega)))))
        · refine gx_1f (c := .eq) rfl (by omega) hc48 rfl ?_
          refine ex_go (S := (43, [(0, gx_r 383), (1, .inl 1), (2, .inl b)], [.inl 45, gx_r 383], t147, n, 0)) rfl (fun _ => rfl) rfl ?_
          refine ex_go (S := (44, [(0, gx_r 383), (1, .inl 1), (2, .inl b)], [.inl 1, .inl 45, gx_r 383], t147, n, 0)) rfl (fun _ => rfl) rfl ?_
          refine ex_go (S := (45, [(0, gx_r 383), (1, .inl 1), (2, .inl b)], [.inl 1, .inl 1, .inl 45, gx_r 383], t147, n, 0)) rfl (fun _ => rfl) rfl ?_
          refine ex_go (S := (46, [(0, gx_r 383), (1, .inl 1), (2, .inl b)], [.inl 2, .inl 45, gx_r 383], t147, n, 0)) rfl (fun _ => rfl) rfl ?_
          refine ex_go (S := (47, [(0, gx_r 383), (1, .inl 1), (2, .inl b)], [.inl 90, gx_r 383], t147, n, 0)) rfl (fun _ => rfl) rfl ?_
          refine ex_go (S := (51, [(0, gx_r 383), (1, .inl 1), (2, .inl b)], [.inl 90, gx_r 383], t147, n, 0)) rfl (fun _ => rfl) rfl ?_
          refine ex_go (S := (52, [(0, gx_r 383), (1, .inl 1), (2, .inl b)], [.inl b, .inl 90, gx_r 383], t147, n, 0)) rfl (fun _ => rfl) rfl ?_
          by_cases hc68 : b = 0
          · refine gx_1t (c := .eq) rfl (by omega) hc68 rfl ?_
            refine ex_go (S := (61, [(0, gx_r 383), (1, .inl 1), (2, .inl b)], [.inl 45, .inl 90, gx_r 383], t147, n, 0)) rfl (fun _ => rfl) rfl ?_
            refine ex_go (S := (62, [(0, gx_r 383), (1, .inl 1), (2, .inl b)], [.inl 1, .inl 45, .inl 90, gx_r 383], t147, n, 0)) rfl (fun _ => rfl) rfl ?_
            refine ex_go (S := (63, [(0, gx_r 383), (1, .inl 1), (2, .inl b)], [.inl 1, .inl 1, .inl 45, .inl 90, gx_r 383], t147, n, 0)) rfl (fun _ => rfl) rfl ?_
            refine ex_go (S := (64, [(0, gx_r 383), (1, .inl 1), (2, .inl b)], [.inl 2, .inl 45, .inl 90, gx_r 383], t147, n, 0)) rfl (fun _ => rfl) rfl ?_
            refine ex_go (S := (65, [(0, gx_r 383), (1, .inl 1), (2, .inl b)], [.inl 90, .inl 90, gx_r 383], t147, n, 0)) rfl (fun _ => rfl) rfl ?_
            refine ex_go (S := (67, [(0, gx_r 383), (1, .inl 1), (2, .inl b)], [.inl 45, .inl 90, .inl 90, gx_r 383], t147, n, 0)) rfl (fun _ => rfl) rfl ?_
            obtain ⟨_, r169, t169, rfl, g169, e169, -⟩ := pe_copies d n (f := 90) (t := 90) (m := 45) g147 (by decide +kernel) (by decide) (by decide) (by decide) (by decide)
            refine gx_call0 rfl rfl g147 rfl rfl r169 rfl ?_
            have k70 : ai_hv t169 400 1 = some (.inl 1) := (e169 400 1 (by omega)).trans k147
            show en_ex _ _ _ _ (70, [(0, gx_r 383), (1, .inl 1), (2, .inl b)], [], t169, n, 0) _
            refine ex_go (S := (71, [(0, gx_r 383), (1, .inl 1), (2, .inl b)], [gx_r 383], t169, n, 0)) rfl (fun _ => rfl) rfl ?_
            refine ex_go (S := (72, [(0, gx_r 383), (1, .inl 1), (2, .inl b)], [.inl b, gx_r 383], t169, n, 0)) rfl (fun _ => rfl) rfl ?_
            by_cases hc71 : b = 0
            · refine gx_1t (c := .eq) rfl (by omega) hc71 rfl ?_
              refine ex_go (S := (80, [(0, gx_r 383), (1, .inl 1), (2, .inl b)], [gx_r 383, gx_r 383], t169, n, 0)) rfl (fun _ => rfl) rfl ?_
              obtain ⟨m72, k73, m72l, m72h⟩ := gx_in (c := 383) (i := 26) (lo := 0) (hi := 16) g169 rfl rfl rfl rfl
              refine gx_get rfl g169 rfl k73 rfl ?_
              refine gx_put rfl g169 rfl rfl (ai_in_h (by omega) (by omega) (by omega)) rfl (fun t174 g174 k174 e174 => ?_)
              have k75 : ai_hv t174 400 1 = some (.inl 1) := (e174 400 1 (by omega)).trans k70
              refine ex_go (S := (87, [(0, gx_r 383), (1, .inl 1), (2, .inl b)], [.inl 1], t174, n, 0)) rfl (fun _ => rfl) rfl ?_
              refine ex_ret (r := (some (.inl 1), t174, n, 0)) rfl (fun _ => rfl) ?_
              refine ⟨_, rfl, 1, t174, rfl, fun _ => ⟨rfl, fun i hi => ?_⟩, fun h => absurd h (by omega)⟩
              rcases (show i = 0 ∨ i = 1 ∨ i = 2 ∨ i = 3 by omega) with rfl | rfl | rfl | rfl
              · rw [if_neg (by decide)]; exact (e174 400 0 (by omega)).trans ((e169 400 0 (by omega)).trans ((e147 400 0 (by omega)).trans ((e101 400 0 (by omega)).trans (hF 0 (by omega)))))
              · rw [if_pos rfl]; exact k75
              · rw [if_neg (by decide)]; exact (e174 400 2 (by omega)).trans ((e169 400 2 (by omega)).trans ((e147 400 2 (by omega)).trans ((e101 400 2 (by omega)).trans (hF 2 (by omega)))))
              · rw [if_neg (by decide)]; exact (e174 400 3 (by omega)).trans ((e169 400 3 (by omega)).trans ((e147 400 3 (by omega)).trans ((e101 400 3 (by omega)).trans (hF 3 (by omega)))))
            · refine gx_1f (c := .eq) rfl (by omega) hc71 rfl ?_
              refine ex_go (S := (76, [(0, gx_r 383), (1, .inl 1), (2, .inl b)], [.inl 0, gx_r 383], t169, n, 0)) rfl (fun _ => rfl) rfl ?_
              refine ex_go (S := (83, [(0, gx_r 383), (1, .inl 1), (2, .inl b)], [.inl 0, gx_r 383], t169, n, 0)) rfl (fun _ => rfl) rfl ?_
              refine gx_put rfl g169 rfl rfl (ai_in_h (by omega) (by omega) (by omega)) rfl (fun t176 g176 k176 e176 => ?_)
              have k77 : ai_hv t176 400 1 = some (.inl 1) := (e176 400 1 (by omega)).trans k70
              refine ex_go (S := (87, [(0, gx_r 383), (1, .inl 1), (2, .inl b)], [.inl 1], t176, n, 0)) rfl (fun _ => rfl) rfl ?_
              refine ex_ret (r := (some (.inl 1), t176, n, 0)) rfl (fun _ => rfl) ?_
              refine ⟨_, rfl, 1, t176, rfl, fun _ => ⟨rfl, fun i hi => ?_⟩, fun h => absurd h (by omega)⟩
              rcases (show i = 0 ∨ i = 1 ∨ i = 2 ∨ i = 3 by omega) with rfl | rfl | rfl | rfl
              · rw [if_neg (by decide)]; exact (e176 400 0 (by omega)).trans ((e169 400 0 (by omega)).trans ((e147 400 0 (by omega)).trans ((e101 400 0 (by omega)).trans (hF 0 (by omega)))))
              · rw [if_pos rfl]; exact k77
              · rw [if_neg (by decide)]; exact (e176 400 2 (by omega)).trans ((e169 400 2 (by omega)).trans ((e147 400 2 (by omega)).trans ((e101 400 2 (by omega)).trans (hF 2 (by omega)))))
              · rw [if_neg (by decide)]; exact (e176 400 3 (by omega)).trans ((e169 400 3 (by omega)).trans ((e147 400 3 (by omega)).trans ((e101 400 3 (by omega)).trans (hF 3 (by omega)))))
          · refine gx_1f (c := .eq) rfl (by omega) hc68 rfl ?_
            refine ex_go (S := (56, [(0, gx_r 383), (1, .inl 1), (2, .inl b)], [.inl 0, .inl 90, gx_r 383], t147, n, 0)) rfl (fun _ => rfl) rfl ?_
            refine ex_go (S := (65, [(0, gx_r 383), (1, .inl 1), (2, .inl b)], [.inl 0, .inl 90, gx_r 383], t147, n, 0)) rfl (fun _ => rfl) rfl ?_
            refine ex_go (S := (67, [(0, gx_r 383), (1, .inl 1), (2, .inl b)], [.inl 45, .inl 0, .inl 90, gx_r 383], t147, n, 0)) rfl (fun _ => rfl) rfl ?_
            obtain ⟨_, r178, t178, rfl, g178, e178, -⟩ := pe_copies d n (f := 90) (t := 0) (m := 45) g147 (by decide +kernel) (by decide) (by decide) (by decide) (by decide)
            refine gx_call0 rfl rfl g147 rfl rfl r178 rfl ?_
            have k79 : ai_hv t178 400 1 = some (.inl 1) := (e178 400 1 (by omega)).trans k147
            show en_ex _ _ _ _ (70, [(0, gx_r 383), (1, .inl 1), (2, .inl b)], [], t178, n, 0) _
            refine ex_go (S := (71, [(0, gx_r 383), (1, .inl 1), (2, .inl b)], [gx_r 383], t178, n, 0)) rfl (fun _ => rfl) rfl ?_
            refine ex_go (S := (72, [(0, gx_r 383), (1, .inl 1), (2, .inl b)], [.inl b, gx_r 383], t178, n, 0)) rfl (fun _ => rfl) rfl ?_
            by_cases hc80 : b = 0
            · refine gx_1t (c := .eq) rfl (by omega) hc80 rfl ?_
              refine ex_go (S := (80, [(0, gx_r 383), (1, .inl 1), (2, .inl b)], [gx_r 383, gx_r 383], t178, n, 0)) rfl (fun _ => rfl) rfl ?_
              obtain ⟨m81, k82, m81l, m81h⟩ := gx_in (c := 383) (i := 26) (lo := 0) (hi := 16) g178 rfl rfl rfl rfl
              refine gx_get rfl g178 rfl k82 rfl ?_
              refine gx_put rfl g178 rfl rfl (ai_in_h (by omega) (by omega) (by omega)) rfl (fun t183 g183 k183 e183 => ?_)
              have k84 : ai_hv t183 400 1 = some (.inl 1) := (e183 400 1 (by omega)).trans k79
              refine ex_go (S := (87, [(0, gx_r 383), (1, .inl 1), (2, .inl b)], [.inl 1], t183, n, 0)) rfl (fun _ => rfl) rfl ?_
              refine ex_ret (r := (some (.inl 1), t183, n, 0)) rfl (fun _ => rfl) ?_
              refine ⟨_, rfl, 1, t183, rfl, fun _ => ⟨rfl, fun i hi => ?_⟩, fun h => absurd h (by omega)⟩
              rcases (show i = 0 ∨ i = 1 ∨ i = 2 ∨ i = 3 by omega) with rfl | rfl | rfl | rfl
              · rw [if_neg (by decide)]; exact (e183 400 0 (by omega)).trans ((e178 400 0 (by omega)).trans ((e147 400 0 (by omega)).trans ((e101 400 0 (by omega)).trans (hF 0 (by omega)))))
              · rw [if_pos rfl]; exact k84
              · rw [if_neg (by decide)]; exact (e183 400 2 (by omega)).trans ((e178 400 2 (by omega)).trans ((e147 400 2 (by omega)).trans ((e101 400 2 (by omega)).trans (hF 2 (by omega)))))
              · rw [if_neg (by decide)]; exact (e183 400 3 (by omega)).trans ((e178 400 3 (by omega)).trans ((e147 400 3 (by omega)).trans ((e101 400 3 (by omega)).trans (hF 3 (by omega)))))
            · refine gx_1f (c := .eq) rfl (by omega) hc80 rfl ?_
              refine ex_go (S := (76, [(0, gx_r 383), (1, .inl 1), (2, .inl b)], [.inl 0, gx_r 383], t178, n, 0)) rfl (fun _ => rfl) rfl ?_
              refine ex_go (S := (83, [(0, gx_r 383), (1, .inl 1), (2, .inl b)], [.inl 0, gx_r 383], t178, n, 0)) rfl (fun _ => rfl) rfl ?_
              refine gx_put rfl g178 rfl rfl (ai_in_h (by omega) (by omega) (by omega)) rfl (fun t185 g185 k185 e185 => ?_)
              have k86 : ai_hv t185 400 1 = some (.inl 1) := (e185 400 1 (by omega)).trans k79
              refine ex_go (S := (87, [(0, gx_r 383), (1, .inl 1), (2, .inl b)], [.inl 1], t185, n, 0)) rfl (fun _ => rfl) rfl ?_
              refine ex_ret (r := (some (.inl 1), t185, n, 0)) rfl (fun _ => rfl) ?_
              refine ⟨_, rfl, 1, t185, rfl, fun _ => ⟨rfl, fun i hi => ?_⟩, fun h => absurd h (by omega)⟩
              rcases (show i = 0 ∨ i = 1 ∨ i = 2 ∨ i = 3 by omega) with rfl | rfl | rfl | rfl
              · rw [if_neg (by decide)]; exact (e185 400 0 (by omega)).trans ((e178 400 0 (by omega)).trans ((e147 400 0 (by omega)).trans ((e101 400 0 (by omega)).trans (hF 0 (by omega)))))
              · rw [if_pos rfl]; exact k86
              · rw [if_neg (by decide)]; exact (e185 400 2 (by omega)).trans ((e178 400 2 (by omega)).trans ((e147 400 2 (by omega)).trans ((e101 400 2 (by omega)).trans (hF 2 (by omega)))))
              · rw [if_neg (by decide)]; exact (e185 400 3 (by omega)).trans ((e178 400 3 (by omega)).trans ((e147 400 3 (by omega)).trans ((e101 400 3 (by omega)).trans (hF 3 (by omega)))))
      · refine ex_go (S := (30, [(0, gx_r 383), (1, .inl 2), (2, .inl b)], [gx_r 383], t101, n, 0)) rfl (fun _ => rfl) rfl ?_
        refine gx_ref (c := 400) rfl g101 rfl rfl rfl rfl ?_
        refine ex_go (S := (34, [(0, gx_r 383), (1, .inl 2), (2, .inl b)], [.inl 2, gx_r 400], t101, n, 0)) rfl (fun _ => rfl) rfl ?_
        refine ex_go (S := (35, [(0, gx_r 383), (1, .inl 2), (2, .inl b)], [.inl 1, .inl 2, gx_r 400], t101, n, 0)) rfl (fun _ => rfl) rfl ?_
        refine gx_apv (d := 2) rfl (fun _ => rfl) g101 rfl rfl rfl (show 2 < 4 from by omega) rfl (ai_in_h (by omega) (by omega) (by omega)) rfl (fun t187 g187 k187 e187 => ?_)
        refine ex_go (S := (37, [(0, gx_r 383), (1, .inl 2), (2, .inl b)], [gx_r 383], t187, n, 0)) rfl (fun _ => rfl) rfl ?_
        refine ex_go (S := (38, [(0, gx_r 383), (1, .inl 2), (2, .inl b)], [.inl b, gx_r 383], t187, n, 0)) rfl (fun _ => rfl) rfl ?_
        by_cases hc88 : b = 0
        · refine gx_1t (c := .eq) rfl (by omega) hc88 rfl ?_
          refine ex_go (S := (51, [(0, gx_r 383), (1, .inl 2), (2, .inl b)], [.inl 0, gx_r 383], t187, n, 0)) rfl (fun _ => rfl) rfl ?_
          refine ex_go (S := (52, [(0, gx_r 383), (1, .inl 2), (2, .inl b)], [.inl b, .inl 0, gx_r 383], t187, n, 0)) rfl (fun _ => rfl) rfl ?_
          by_cases hc89 : b = 0
          · refine gx_1t (c := .eq) rfl (by omega) hc89 rfl ?_
            refine ex_go (S := (61, [(0, gx_r 383), (1, .inl 2), (2, .inl b)], [.inl 45, .inl 0, gx_r 383], t187, n, 0)) rfl (fun _ => rfl) rfl ?_
            refine ex_go (S := (62, [(0, gx_r 383), (1, .inl 2), (2, .inl b)], [.inl 1, .inl 45, .inl 0, gx_r 383], t187, n, 0)) rfl (fun _ => rfl) rfl ?_
            refine ex_go (S := (63, [(0, gx_r 383), (1, .inl 2), (2, .inl b)], [.inl 2, .inl 1, .inl 45, .inl 0, gx_r 383], t187, n, 0)) rfl (fun _ => rfl) rfl ?_
            refine ex_go (S := (64, [(0, gx_r 383), (1, .inl 2), (2, .inl b)], [.inl 3, .inl 45, .inl 0, gx_r 383], t187, n, 0)) rfl (fun _ => rfl) rfl ?_
            refine ex_go (S := (65, [(0, gx_r 383), (1, .inl 2), (2, .inl b)], [.inl 135, .inl 0, gx_r 383], t187, n, 0)) rfl (fun _ => rfl) rfl ?_
            refine ex_go (S := (67, [(0, gx_r 383), (1, .inl 2), (2, .inl b)], [.inl 45, .inl 135, .inl 0, gx_r 383], t187, n, 0)) rfl (fun _ => rfl) rfl ?_
            obtain ⟨_, r190, t190, rfl, g190, e190, -⟩ := pe_copies d n (f := 0) (t := 135) (m := 45) g187 (by decide +kernel) (by decide) (by decide) (by decide) (by decide)
            refine gx_call0 rfl rfl g187 rfl rfl r190 rfl ?_
            have k91 : ai_hv t190 400 2 = some (.inl 1) := (e190 400 2 (by omega)).trans k187
            show en_ex _ _ _ _ (70, [(0, gx_r 383), (1, .inl 2), (2, .inl b)], [], t190, n, 0) _
            refine ex_go (S := (71, [(0, gx_r 383), (1, .inl 2), (2, .inl b)], [gx_r 383], t190, n, 0)) rfl (fun _ => rfl) rfl ?_
            refine ex_go (S := (72, [(0, gx_r 383), (1, .inl 2), (2, .inl b)], [.inl b, gx_r 383], t190, n, 0)) rfl (fun _ => rfl) rfl ?_
            by_cases hc92 : b = 0
            · refine gx_1t (c := .eq) rfl (by omega) hc92 rfl ?_
              refine ex_go (S := (80, [(0, gx_r 383), (1, .inl 2), (2, .inl b)], [gx_r 383, gx_r 383], t190, n, 0)) rfl (fun _ => rfl) rfl ?_
              obtain ⟨m93, k94, m93l, m93h⟩ := gx_in (c := 383) (i := 26) (lo := 0) (hi := 16) g190 rfl rfl rfl rfl
              refine gx_get rfl g190 rfl k94 rfl ?_
              refine gx_put rfl g190 rfl rfl (ai_in_h (by omega) (by omega) (by omega)) rfl (fun t195 g195 k195 e195 => ?_)
              have k96 : ai_hv t195 400 2 = some (.inl 1) := (e195 400 2 (by omega)).trans k91
              refine ex_go (S := (87, [(0, gx_r 383), (1, .inl 2), (2, .inl b)], [.inl 1], t195, n, 0)) rfl (fun _ => rfl) rfl ?_
              refine ex_ret (r := (some (.inl 1), t195, n, 0)) rfl (fun _ => rfl) ?_
              refine ⟨_, rfl, 1, t195, rfl, fun _ => ⟨rfl, fun i hi => ?_⟩, fun h => absurd h (by omega)⟩
              rcases (show i = 0 ∨ i = 1 ∨ i = 2 ∨ i = 3 by omega) with rfl | rfl | rfl | rfl
              · rw [if_neg (by decide)]; exact (e195 400 0 (by omega)).trans ((e190 400 0 (by omega)).trans ((e187 400 0 (by omega)).trans ((e101 400 0 (by omega)).trans (hF 0 (by omega)))))
              · rw [if_neg (by decide)]; exact (e195 400 1 (by omega)).trans ((e190 400 1 (by omega)).trans ((e187 400 1 (by omega)).trans ((e101 400 1 (by omega)).trans (hF 1 (by omega)))))
              · rw [if_pos rfl]; exact k96
              · rw [if_neg (by decide)]; exact (e195 400 3 (by omega)).trans ((e190 400 3 (by omega)).trans ((e187 400 3 (by omega)).trans ((e101 400 3 (by omega)).trans (hF 3 (by omega)))))
            · refine gx_1f (c := .eq) rfl (by omega) hc92 rfl ?_
              refine ex_go (S := (76, [(0, gx_r 383), (1, .inl 2), (2, .inl b)], [.inl 0, gx_r 383], t190, n, 0)) rfl (fun _ => rfl) rfl ?_
              refine ex_go (S := (83, [(0, gx_r 383), (1, .inl 2), (2, .inl b)], [.inl 0, gx_r 383], t190, n, 0)) rfl (fun _ => rfl) rfl ?_
              refine gx_put rfl g190 rfl rfl (ai_in_h (by omega) (by omega) (by omega)) rfl (fun t197 g197 k197 e197 => ?_)
              have k98 : ai_hv t197 400 2 = some (.inl 1) := (e197 400 2 (by omega)).trans k91
              refine ex_go (S := (87, [(0, gx_r 383), (1, .inl 2), (2, .inl b)], [.inl 1], t197, n, 0)) rfl (fun _ => rfl) rfl ?_
              refine ex_ret (r := (some (.inl 1), t197, n, 0)) rfl (fun _ => rfl) ?_
              refine ⟨_, rfl, 1, t197, rfl, fun _ => ⟨rfl, fun i hi => ?_⟩, fun h => absurd h (by omega)⟩
              rcases (show i = 0 ∨ i = 1 ∨ i = 2 ∨ i = 3 by omega) with rfl | rfl | rfl | rfl
              · rw [if_neg (by decide)]; exact (e197 400 0 (by omega)).trans ((e190 400 0 (by omega)).trans ((e187 400 0 (by omega)).trans ((e101 400 0 (by omega)).trans (hF 0 (by omega)))))
              · rw [if_neg (by decide)]; exact (e197 400 1 (by omega)).trans ((e190 400 1 (by omega)).trans ((e187 400 1 (by omega)).trans ((e101 400 1 (by omega)).trans (hF 1 (by omega)))))
              · rw [if_pos rfl]; exact k98
              · rw [if_neg (by decide)]; exact (e197 400 3 (by omega)).trans ((e190 400 3 (by omega)).trans ((e187 400 3 (by omega)).trans ((e101 400 3 (by omega)).trans (hF 3 (by omega)))))
          · refine gx_1f (c := .eq) rfl (by omega) hc89 rfl ?_
            refine ex_go (S := (56, [(0, gx_r 383), (1, .inl 2), (2, .inl b)], [.inl 0, .inl 0, gx_r 383], t187, n, 0)) rfl (fun _ => rfl) rfl ?_
            refine ex_go (S := (65, [(0, gx_r 383), (1, .inl 2), (2, .inl b)], [.inl 0, .inl 0, gx_r 383], t187, n, 0)) rfl (fun _ => rfl) rfl ?_
            refine ex_go (S := (67, [(0, gx_r 383), (1, .inl 2), (2, .inl b)], [.inl 45, .inl 0, .inl 0, gx_r 383], t187, n, 0)) rfl (fun _ => rfl) rfl ?_
            obtain ⟨_, r199, t199, rfl, g199, e199, -⟩ := pe_copies d n (f := 0) (t := 0) (m := 45) g187 (by decide +kernel) (by decide) (by decide) (by decide) (by decide)
            refine gx_call0 rfl rfl g187 rfl rfl r199 rfl ?_
            have k100 : ai_hv t199 400 2 = some (.inl 1) := (e199 400 2 (by omega)).trans k187
            show en_ex _ _ _ _ (70, [(0, gx_r 383), (1, .inl 2), (2, .inl b)], [], t199, n, 0) _
            refine ex_go (S := (71, [(0, gx_r 383), (1, .inl 2), (2, .inl b)], [gx_r 383], t199, n, 0)) rfl (fun _ => rfl) rfl ?_
            refine ex_go (S := (72, [(0, gx_r 383), (1, .inl 2), (2, .inl b)], [.inl b, gx_r 383], t199, n, 0)) rfl (fun _ => rfl) rfl ?_
            by_cases hc101 : b = 0
            · refine gx_1t (c := .eq) rfl (by omega) hc101 rfl ?_
              refine ex_go (S := (80, [(0, gx_r 383), (1, .inl 2), (2, .inl b)], [gx_r 383, gx_r 383], t199, n, 0)) rfl (fun _ => rfl) rfl ?_
              obtain ⟨m102, k103, m102l, m102h⟩ := gx_in (c := 383) (i := 26) (lo := 0) (hi := 16) g199 rfl rfl rfl rfl
              refine gx_get rfl g199 rfl k103 rfl ?_
              refine gx_put rfl g199 rfl rfl (ai_in_h (by omega) (by omega) (by omega)) rfl (fun t204 g204 k204 e204 => ?_)
              have k105 : ai_hv t204 400 2 = some (.inl 1) := (e204 400 2 (by omega)).trans k100
              refine ex_go (S := (87, [(0, gx_r 383), (1, .inl 2), (2, .inl b)], [.inl 1], t204, n, 0)) rfl (fun _ => rfl) rfl ?_
              refine ex_ret (r := (some (.inl 1), t204, n, 0)) rfl (fun _ => rfl) ?_
              refine ⟨_, rfl, 1, t204, rfl, fun _ => ⟨rfl, fun i hi => ?_⟩, fun h => absurd h (by omega)⟩
              rcases (show i = 0 ∨ i = 1 ∨ i = 2 ∨ i = 3 by omega) with rfl | rfl | rfl | rfl
              · rw [if_neg (by decide)]; exact (e204 400 0 (by omega)).trans ((e199 400 0 (by omega)).trans ((e187 400 0 (by omega)).trans ((e101 400 0 (by omega)).trans (hF 0 (by omega)))))
              · rw [if_neg (by decide)]; exact (e204 400 1 (by omega)).trans ((e199 400 1 (by omega)).trans ((e187 400 1 (by omega)).trans ((e101 400 1 (by omega)).trans (hF 1 (by omega)))))
              · rw [if_pos rfl]; exact k105
              · rw [if_neg (by decide)]; exact (e204 400 3 (by omega)).trans ((e199 400 3 (by omega)).trans ((e187 400 3 (by omega)).trans ((e101 400 3 (by omega)).trans (hF 3 (by omega)))))
            · refine gx_1f (c := .eq) rfl (by omega) hc101 rfl ?_
              refine ex_go (S := (76, [(0, gx_r 383), (1, .inl 2), (2, .inl b)], [.inl 0, gx_r 383], t199, n, 0)) rfl (fun _ => rfl) rfl ?_
              refine ex_go (S := (83, [(0, gx_r 383), (1, .inl 2), (2, .inl b)], [.inl 0, gx_r 383], t199, n, 0)) rfl (fun _ => rfl) rfl ?_
              refine gx_put rfl g199 rfl rfl (ai_in_h (by omega) (by omega) (by omega)) rfl (fun t206 g206 k206 e206 => ?_)
              have k107 : ai_hv t206 400 2 = some (.inl 1) := (e206 400 2 (by omega)).trans k100
              refine ex_go (S := (87, [(0, gx_r 383), (1, .inl 2), (2, .inl b)], [.inl 1], t206, n, 0)) rfl (fun _ => rfl) rfl ?_
              refine ex_ret (r := (some (.inl 1), t206, n, 0)) rfl (fun _ => rfl) ?_
              refine ⟨_, rfl, 1, t206, rfl, fun _ => ⟨rfl, fun i hi => ?_⟩, fun h => absurd h (by omega)⟩
              rcases (show i = 0 ∨ i = 1 ∨ i = 2 ∨ i = 3 by omega) with rfl | rfl | rfl | rfl
              · rw [if_neg (by decide)]; exact (e206 400 0 (by omega)).trans ((e199 400 0 (by omega)).trans ((e187 400 0 (by omega)).trans ((e101 400 0 (by omega)).trans (hF 0 (by omega)))))
              · rw [if_neg (by decide)]; exact (e206 400 1 (by omega)).trans ((e199 400 1 (by omega)).trans ((e187 400 1 (by omega)).trans ((e101 400 1 (by omega)).trans (hF 1 (by omega)))))
              · rw [if_pos rfl]; exact k107
              · rw [if_neg (by decide)]; exact (e206 400 3 (by omega)).trans ((e199 400 3 (by omega)).trans ((e187 400 3 (by omega)).trans ((e101 400 3 (by omega)).trans (hF 3 (by omega)))))
        · refine gx_1f (c := .eq) rfl (by omega) hc88 rfl ?_
          refine ex_go (S := (43, [(0, gx_r 383), (1, .inl 2), (2, .inl b)], [.inl 45, gx_r 383], t187, n, 0)) rfl (fun _ => rfl) rfl ?_
          refine ex_go (S := (44, [(0, gx_r 383), (1, .inl 2), (2, .inl b)], [.inl 1, .inl 45, gx_r 383], t187, n, 0)) rfl (fun _ => rfl) rfl ?_
          refine ex_go (S := (45, [(0, gx_r 383), (1, .inl 2), (2, .inl b)], [.inl 2, .inl 1, .inl 45, gx_r 383], t187, n, 0)) rfl (fun _ => rfl) rfl ?_
          refine ex_go (S := (46, [(0, gx_r 383), (1, .inl 2), (2, .inl b)], [.inl 3, .inl 45, gx_r 383], t187, n, 0)) rfl (fun _ => rfl) rfl ?_
          refine ex_go (S := (47, [(0, gx_r 383), (1, .inl 2), (2, .inl b)], [.inl 135, gx_r 383], t187, n, 0)) rfl (fun _ => rfl) rfl ?_
          refine ex_go (S := (51, [(0, gx_r 383), (1, .inl 2), (2, .inl b)], [.inl 135, gx_r 383], t187, n, 0)) rfl (fun _ => rfl) rfl ?_
          refine ex_go (S := (52, [(0, gx_r 383), (1, .inl 2), (2, .inl b)], [.inl b, .inl 135, gx_r 383], t187, n, 0)) rfl (fun _ => rfl) rfl ?_
          by_cases hc108 : b = 0
          · refine gx_1t (c := .eq) rfl (by omega) hc108 rfl ?_
            refine ex_go (S := (61, [(0, gx_r 383), (1, .inl 2), (2, .inl b)], [.inl 45, .inl 135, gx_r 383], t187, n, 0)) rfl (fun _ => rfl) rfl ?_
            refine ex_go (S := (62, [(0, gx_r 383), (1, .inl 2), (2, .inl b)], [.inl 1, .inl 45, .inl 135, gx_r 383], t187, n, 0)) rfl (fun _ => rfl) rfl ?_
            refine ex_go (S := (63, [(0, gx_r 383), (1, .inl 2), (2, .inl b)], [.inl 2, .inl 1, .inl 45, .inl 135, gx_r 383], t187, n, 0)) rfl (fun _ => rfl) rfl ?_
            refine ex_go (S := (64, [(0, gx_r 383), (1, .inl 2), (2, .inl b)], [.inl 3, .inl 45, .inl 135, gx_r 383], t187, n, 0)) rfl (fun _ => rfl) rfl ?_
            refine ex_go (S := (65, [(0, gx_r 383), (1, .inl 2), (2, .inl b)], [.inl 135, .inl 135, gx_r 383], t187, n, 0)) rfl (fun _ => rfl) rfl ?_
            refine ex_go (S := (67, [(0, gx_r 383), (1, .inl 2), (2, .inl b)], [.inl 45, .inl 135, .inl 135, gx_r 383], t187, n, 0)) rfl (fun _ => rfl) rfl ?_
            obtain ⟨_, r209, t209, rfl, g209, e209, -⟩ := pe_copies d n (f := 135) (t := 135) (m := 45) g187 (by decide +kernel) (by decide) (by decide) (by decide) (by decide)
            refine gx_call0 rfl rfl g187 rfl rfl r209 rfl ?_
            have k110 : ai_hv t209 400 2 = some (.inl 1) := (e209 400 2 (by omega)).trans k187
            show en_ex _ _ _ _ (70, [(0, gx_r 383), (1, .inl 2), (2, .inl b)], [], t209, n, 0) _
            refine ex_go (S := (71, [(0, gx_r 383), (1, .inl 2), (2, .inl b)], [gx_r 383], t209, n, 0)) rfl (fun _ => rfl) rfl ?_
            refine ex_go (S := (72, [(0, gx_r 383), (1, .inl 2), (2, .inl b)], [.inl b, gx_r 383], t209, n, 0)) rfl (fun _ => rfl) rfl ?_
            by_cases hc111 : b = 0
            · refine gx_1t (c := .eq) rfl (by omega) hc111 rfl ?_
              refine ex_go (S := (80, [(0, gx_r 383), (1, .inl 2), (2, .inl b)], [gx_r 383, gx_r 383], t209, n, 0)) rfl (fun _ => rfl) rfl ?_
              obtain ⟨m112, k113, m112l, m112h⟩ := gx_in (c := 383) (i := 26) (lo := 0) (hi := 16) g209 rfl rfl rfl rfl
              refine gx_get rfl g209 rfl k113 rfl ?_
              refine gx_put rfl g209 rfl rfl (ai_in_h (by omega) (by omega) (by omega)) rfl (fun t214 g214 k214 e214 => ?_)
              have k115 : ai_hv t214 400 2 = some (.inl 1) := (e214 400 2 (by omega)).trans k110
              refine ex_go (S := (87, [(0, gx_r 383), (1, .inl 2), (2, .inl b)], [.inl 1], t214, n, 0)) rfl (fun _ => rfl) rfl ?_
              refine ex_ret (r := (some (.inl 1), t214, n, 0)) rfl (fun _ => rfl) ?_
              refine ⟨_, rfl, 1, t214, rfl, fun _ => ⟨rfl, fun i hi => ?_⟩, fun h => absurd h (by omega)⟩
              rcases (show i = 0 ∨ i = 1 ∨ i = 2 ∨ i = 3 by omega) with rfl | rfl | rfl | rfl
              · rw [if_neg (by decide)]; exact (e214 400 0 (by omega)).trans ((e209 400 0 (by omega)).trans ((e187 400 0 (by omega)).trans ((e101 400 0 (by omega)).trans (hF 0 (by omega)))))
              · rw [if_neg (by decide)]; exact (e214 400 1 (by omega)).trans ((e209 400 1 (by omega)).trans ((e187 400 1 (by omega)).trans ((e101 400 1 (by omega)).trans (hF 1 (by omega)))))
              · rw [if_pos rfl]; exact k115
              · rw [if_neg (by decide)]; exact (e214 400 3 (by omega)).trans ((e209 400 3 (by omega)).trans ((e187 400 3 (by omega)).trans ((e101 400 3 (by omega)).trans (hF 3 (by omega)))))
            · refine gx_1f (c := .eq) rfl (by omega) hc111 rfl ?_
              refine ex_go (S := (76, [(0, gx_r 383), (1, .inl 2), (2, .inl b)], [.inl 0, gx_r 383], t209, n, 0)) rfl (fun _ => rfl) rfl ?_
              refine ex_go (S := (83, [(0, gx_r 383), (1, .inl 2), (2, .inl b)], [.inl 0, gx_r 383], t209, n, 0)) rfl (fun _ => rfl) rfl ?_
              refine gx_put rfl g209 rfl rfl (ai_in_h (by omega) (by omega) (by omega)) rfl (fun t216 g216 k216 e216 => ?_)
              have k117 : ai_hv t216 400 2 = some (.inl 1) := (e216 400 2 (by omega)).trans k110
              refine ex_go (S := (87, [(0, gx_r 383), (1, .inl 2), (2, .inl b)], [.inl 1], t216, n, 0)) rfl (fun _ => rfl) rfl ?_
              refine ex_ret (r := (some (.inl 1), t216, n, 0)) rfl (fun _ => rfl) ?_
              refine ⟨_, rfl, 1, t216, rfl, fun _ => ⟨rfl, fun i hi => ?_⟩, fun h => absurd h (by omega)⟩
              rcases (show i = 0 ∨ i = 1 ∨ i = 2 ∨ i = 3 by omega) with rfl | rfl | rfl | rfl
              · rw [if_neg (by decide)]; exact (e216 400 0 (by omega)).trans ((e209 400 0 (by omega)).trans ((e187 400 0 (by omega)).trans ((e101 400 0 (by omega)).trans (hF 0 (by omega)))))
              · rw [if_neg (by decide)]; exact (e216 400 1 (by omega)).trans ((e209 400 1 (by omega)).trans ((e187 400 1 (by omega)).trans ((e101 400 1 (by omega)).trans (hF 1 (by omega)))))
              · rw [if_pos rfl]; exact k117
              · rw [if_neg (by decide)]; exact (e216 400 3 (by omega)).trans ((e209 400 3 (by omega)).trans ((e187 400 3 (by omega)).trans ((e101 400 3 (by omega)).trans (hF 3 (by omega)))))
          · refine gx_1f (c := .eq) rfl (by omega) hc108 rfl ?_
            refine ex_go (S := (56, [(0, gx_r 383), (1, .inl 2), (2, .inl b)], [.inl 0, .inl 135, gx_r 383], t187, n, 0)) rfl (fun _ => rfl) rfl ?_
            refine ex_go (S := (65, [(0, gx_r 383), (1, .inl 2), (2, .inl b)], [.inl 0, .inl 135, gx_r 383], t187, n, 0)) rfl (fun _ => rfl) rfl ?_
            refine ex_go (S := (67, [(0, gx_r 383), (1, .inl 2), (2, .inl b)], [.inl 45, .inl 0, .inl 135, gx_r 383], t187, n, 0)) rfl (fun _ => rfl) rfl ?_
            obtain ⟨_, r218, t218, rfl, g218, e218, -⟩ := pe_copies d n (f := 135) (t := 0) (m := 45) g187 (by decide +kernel) (by decide) (by decide) (by decide) (by decide)
            refine gx_call0 rfl rfl g187 rfl rfl r218 rfl ?_
            have k119 : ai_hv t218 400 2 = some (.inl 1) := (e218 400 2 (by omega)).trans k187
            show en_ex _ _ _ _ (70, [(0, gx_r 383), (1, .inl 2), (2, .inl b)], [], t218, n, 0) _
            refine ex_go (S := (71, [(0, gx_r 383), (1, .inl 2), (2, .inl b)], [gx_r 383], t218, n, 0)) rfl (fun _ => rfl) rfl ?_
            refine ex_go (S := (72, [(0, gx_r 383), (1, .inl 2), (2, .inl b)], [.inl b, gx_r 383], t218, n, 0)) rfl (fun _ => rfl) rfl ?_
            by_cases hc120 : b = 0
            · refine gx_1t (c := .eq) rfl (by omega) hc120 rfl ?_
              refine ex_go (S := (80, [(0, gx_r 383), (1, .inl 2), (2, .inl b)], [gx_r 383, gx_r 383], t218, n, 0)) rfl (fun _ => rfl) rfl ?_
              obtain ⟨m121, k122, m121l, m121h⟩ := gx_in (c := 383) (i := 26) (lo := 0) (hi := 16) g218 rfl rfl rfl rfl
              refine gx_get rfl g218 rfl k122 rfl ?_
              refine gx_put rfl g218 rfl rfl (ai_in_h (by omega) (by omega) (by omega)) rfl (fun t223 g223 k223 e223 => ?_)
              have k124 : ai_hv t223 400 2 = some (.inl 1) := (e223 400 2 (by omega)).trans k119
              refine ex_go (S := (87, [(0, gx_r 383), (1, .inl 2), (2, .inl b)], [.inl 1], t223, n, 0)) rfl (fun _ => rfl) rfl ?_
              refine ex_ret (r := (some (.inl 1), t223, n, 0)) rfl (fun _ => rfl) ?_
              refine ⟨_, rfl, 1, t223, rfl, fun _ => ⟨rfl, fun i hi => ?_⟩, fun h => absurd h (by omega)⟩
              rcases (show i = 0 ∨ i = 1 ∨ i = 2 ∨ i = 3 by omega) with rfl | rfl | rfl | rfl
              · rw [if_neg (by decide)]; exact (e223 400 0 (by omega)).trans ((e218 400 0 (by omega)).trans ((e187 400 0 (by omega)).trans ((e101 400 0 (by omega)).trans (hF 0 (by omega)))))
              · rw [if_neg (by decide)]; exact (e223 400 1 (by omega)).trans ((e218 400 1 (by omega)).trans ((e187 400 1 (by omega)).trans ((e101 400 1 (by omega)).trans (hF 1 (by omega)))))
              · rw [if_pos rfl]; exact k124
              · rw [if_neg (by decide)]; exact (e223 400 3 (by omega)).trans ((e218 400 3 (by omega)).trans ((e187 400 3 (by omega)).trans ((e101 400 3 (by omega)).trans (hF 3 (by omega)))))
            · refine gx_1f (c := .eq) rfl (by omega) hc120 rfl ?_
              refine ex_go (S := (76, [(0, gx_r 383), (1, .inl 2), (2, .inl b)], [.inl 0, gx_r 383], t218, n, 0)) rfl (fun _ => rfl) rfl ?_
              refine ex_go (S := (83, [(0, gx_r 383), (1, .inl 2), (2, .inl b)], [.inl 0, gx_r 383], t218, n, 0)) rfl (fun _ => rfl) rfl ?_
              refine gx_put rfl g218 rfl rfl (ai_in_h (by omega) (by omega) (by omega)) rfl (fun t225 g225 k225 e225 => ?_)
              have k126 : ai_hv t225 400 2 = some (.inl 1) := (e225 400 2 (by omega)).trans k119
              refine ex_go (S := (87, [(0, gx_r 383), (1, .inl 2), (2, .inl b)], [.inl 1], t225, n, 0)) rfl (fun _ => rfl) rfl ?_
              refine ex_ret (r := (some (.inl 1), t225, n, 0)) rfl (fun _ => rfl) ?_
              refine ⟨_, rfl, 1, t225, rfl, fun _ => ⟨rfl, fun i hi => ?_⟩, fun h => absurd h (by omega)⟩
              rcases (show i = 0 ∨ i = 1 ∨ i = 2 ∨ i = 3 by omega) with rfl | rfl | rfl | rfl
              · rw [if_neg (by decide)]; exact (e225 400 0 (by omega)).trans ((e218 400 0 (by omega)).trans ((e187 400 0 (by omega)).trans ((e101 400 0 (by omega)).trans (hF 0 (by omega)))))
              · rw [if_neg (by decide)]; exact (e225 400 1 (by omega)).trans ((e218 400 1 (by omega)).trans ((e187 400 1 (by omega)).trans ((e101 400 1 (by omega)).trans (hF 1 (by omega)))))
              · rw [if_pos rfl]; exact k126
              · rw [if_neg (by decide)]; exact (e225 400 3 (by omega)).trans ((e218 400 3 (by omega)).trans ((e187 400 3 (by omega)).trans ((e101 400 3 (by omega)).trans (hF 3 (by omega)))))
      · refine ex_go (S := (30, [(0, gx_r 383), (1, .inl 3), (2, .inl b)], [gx_r 383], t101, n, 0)) rfl (fun _ => rfl) rfl ?_
        refine gx_ref (c := 400) rfl g101 rfl rfl rfl rfl ?_
        refine ex_go (S := (34, [(0, gx_r 383), (1, .inl 3), (2, .inl b)], [.inl 3, gx_r 400], t101, n, 0)) rfl (fun _ => rfl) rfl ?_
        refine ex_go (S := (35, [(0, gx_r 383), (1, .inl 3), (2, .inl b)], [.inl 1, .inl 3, gx_r 400], t101, n, 0)) rfl (fun _ => rfl) rfl ?_
        refine gx_apv (d := 2) rfl (fun _ => rfl) g101 rfl rfl rfl (show 3 < 4 from by omega) rfl (ai_in_h (by omega) (by omega) (by omega)) rfl (fun t227 g227 k227 e227 => ?_)
        refine ex_go (S := (37, [(0, gx_r 383), (1, .inl 3), (2, .inl b)], [gx_r 383], t227, n, 0)) rfl (fun _ => rfl) rfl ?_
        refine ex_go (S := (38, [(0, gx_r 383), (1, .inl 3), (2, .inl b)], [.inl b, gx_r 383], t227, n, 0)) rfl (fun _ => rfl) rfl ?_
        by_cases hc128 : b = 0
        · refine gx_1t (c := .eq) rfl (by omega) hc128 rfl ?_
          refine ex_go (S := (51, [(0, gx_r 383), (1, .inl 3), (2, .inl b)], [.inl 0, gx_r 383], t227, n, 0)) rfl (fun _ => rfl) rfl ?_
          refine ex_go (S := (52, [(0, gx_r 383), (1, .inl 3), (2, .inl b)], [.inl b, .inl 0, gx_r 383], t227, n, 0)) rfl (fun _ => rfl) rfl ?_
          by_cases hc129 : b = 0
          · refine gx_1t (c := .eq) rfl (by omega) hc129 rfl ?_
            refine ex_go (S := (61, [(0, gx_r 383), (1, .inl 3), (2, .inl b)], [.inl 45, .inl 0, gx_r 383], t227, n, 0)) rfl (fun _ => rfl) rfl ?_
            refine ex_go (S := (62, [(0, gx_r 383), (1, .inl 3), (2, .inl b)], [.inl 1, .inl 45, .inl 0, gx_r 383], t227, n, 0)) rfl (fun _ => rfl) rfl ?_
            refine ex_go (S := (63, [(0, gx_r 383), (1, .inl 3), (2, .inl b)], [.inl 3, .inl 1, .inl 45, .inl 0, gx_r 383], t227, n, 0)) rfl (fun _ => rfl) rfl ?_
            refine ex_go (S := (64, [(0, gx_r 383), (1, .inl 3), (2, .inl b)], [.inl 4, .inl 45, .inl 0, gx_r 383], t227, n, 0)) rfl (fun _ => rfl) rfl ?_
            refine ex_go (S := (65, [(0, gx_r 383), (1, .inl 3), (2, .inl b)], [.inl 180, .inl 0, gx_r 383], t227, n, 0)) rfl (fun _ => rfl) rfl ?_
            refine ex_go (S := (67, [(0, gx_r 383), (1, .inl 3), (2, .inl b)], [.inl 45, .inl 180, .inl 0, gx_r 383], t227, n, 0)) rfl (fun _ => rfl) rfl ?_
            obtain ⟨_, r230, t230, rfl, g230, e230, -⟩ := pe_copies d n (f := 0) (t := 180) (m := 45) g227 (by decide +kernel) (by decide) (by decide) (by decide) (by decide)
            refine gx_call0 rfl rfl g227 rfl rfl r230 rfl ?_
            have k131 : ai_hv t230 400 3 = some (.inl 1) := (e230 400 3 (by omega)).trans k227
            show en_ex _ _ _ _ (70, [(0, gx_r 383), (1, .inl 3), (2, .inl b)], [], t230, n, 0) _
            refine ex_go (S := (71, [(0, gx_r 383), (1, .inl 3), (2, .inl b)], [gx_r 383], t230, n, 0)) rfl (fun _ => rfl) rfl ?_
            refine ex_go (S := (72, [(0, gx_r 383), (1, .inl 3), (2, .inl b)], [.inl b, gx_r 383], t230, n, 0)) rfl (fun _ => rfl) rfl ?_
            by_cases hc132 : b = 0
            · refine gx_1t (c := .eq) rfl (by omega) hc132 rfl ?_
              refine ex_go (S := (80, [(0, gx_r 383), (1, .inl 3), (2, .inl b)], [gx_r 383, gx_r 383], t230, n, 0)) rfl (fun _ => rfl) rfl ?_
              obtain ⟨m133, k134, m133l, m133h⟩ := gx_in (c := 383) (i := 26) (lo := 0) (hi := 16) g230 rfl rfl rfl rfl
              refine gx_get rfl g230 rfl k134 rfl ?_
              refine gx_put rfl g230 rfl rfl (ai_in_h (by omega) (by omega) (by omega)) rfl (fun t235 g235 k235 e235 => ?_)
              have k136 : ai_hv t235 400 3 = some (.inl 1) := (e235 400 3 (by omega)).trans k131
              refine ex_go (S := (87, [(0, gx_r 383), (1, .inl 3), (2, .inl b)], [.inl 1], t235, n, 0)) rfl (fun _ => rfl) rfl ?_
              refine ex_ret (r := (some (.inl 1), t235, n, 0)) rfl (fun _ => rfl) ?_
              refine ⟨_, rfl, 1, t235, rfl, fun _ => ⟨rfl, fun i hi => ?_⟩, fun h => absurd h (by omega)⟩
              rcases (show i = 0 ∨ i = 1 ∨ i = 2 ∨ i = 3 by omega) with rfl | rfl | rfl | rfl
              · rw [if_neg (by decide)]; exact (e235 400 0 (by omega)).trans ((e230 400 0 (by omega)).trans ((e227 400 0 (by omega)).trans ((e101 400 0 (by omega)).trans (hF 0 (by omega)))))
              · rw [if_neg (by decide)]; exact (e235 400 1 (by omega)).trans ((e230 400 1 (by omega)).trans ((e227 400 1 (by omega)).trans ((e101 400 1 (by omega)).trans (hF 1 (by omega)))))
              · rw [if_neg (by decide)]; exact (e235 400 2 (by omega)).trans ((e230 400 2 (by omega)).trans ((e227 400 2 (by omega)).trans ((e101 400 2 (by omega)).trans (hF 2 (by omega)))))
              · rw [if_pos rfl]; exact k136
            · refine gx_1f (c := .eq) rfl (by omega) hc132 rfl ?_
              refine ex_go (S := (76, [(0, gx_r 383), (1, .inl 3), (2, .inl b)], [.inl 0, gx_r 383], t230, n, 0)) rfl (fun _ => rfl) rfl ?_
              refine ex_go (S := (83, [(0, gx_r 383), (1, .inl 3), (2, .inl b)], [.inl 0, gx_r 383], t230, n, 0)) rfl (fun _ => rfl) rfl ?_
              refine gx_put rfl g230 rfl rfl (ai_in_h (by omega) (by omega) (by omega)) rfl (fun t237 g237 k237 e237 => ?_)
              have k138 : ai_hv t237 400 3 = some (.inl 1) := (e237 400 3 (by omega)).trans k131
              refine ex_go (S := (87, [(0, gx_r 383), (1, .inl 3), (2, .inl b)], [.inl 1], t237, n, 0)) rfl (fun _ => rfl) rfl ?_
              refine ex_ret (r := (some (.inl 1), t237, n, 0)) rfl (fun _ => rfl) ?_
              refine ⟨_, rfl, 1, t237, rfl, fun _ => ⟨rfl, fun i hi => ?_⟩, fun h => absurd h (by omega)⟩
              rcases (show i = 0 ∨ i = 1 ∨ i = 2 ∨ i = 3 by omega) with rfl | rfl | rfl | rfl
              · rw [if_neg (by decide)]; exact (e237 400 0 (by omega)).trans ((e230 400 0 (by omega)).trans ((e227 400 0 (by omega)).trans ((e101 400 0 (by omega)).trans (hF 0 (by omega)))))
              · rw [if_neg (by decide)]; exact (e237 400 1 (by omega)).trans ((e230 400 1 (by omega)).trans ((e227 400 1 (by omega)).trans ((e101 400 1 (by omega)).trans (hF 1 (by omega)))))
              · rw [if_neg (by decide)]; exact (e237 400 2 (by omega)).trans ((e230 400 2 (by omega)).trans ((e227 400 2 (by omega)).trans ((e101 400 2 (by omega)).trans (hF 2 (by omega)))))
              · rw [if_pos rfl]; exact k138
          · refine gx_1f (c := .eq) rfl (by omega) hc129 rfl ?_
            refine ex_go (S := (56, [(0, gx_r 383), (1, .inl 3), (2, .inl b)], [.inl 0, .inl 0, gx_r 383], t227, n, 0)) rfl (fun _ => rfl) rfl ?_
            refine ex_go (S := (65, [(0, gx_r 383), (1, .inl 3), (2, .inl b)], [.inl 0, .inl 0, gx_r 383], t227, n, 0)) rfl (fun _ => rfl) rfl ?_
            refine ex_go (S := (67, [(0, gx_r 383), (1, .inl 3), (2, .inl b)], [.inl 45, .inl 0, .inl 0, gx_r 383], t227, n, 0)) rfl (fun _ => rfl) rfl ?_
            obtain ⟨_, r239, t239, rfl, g239, e239, -⟩ := pe_copies d n (f := 0) (t := 0) (m := 45) g227 (by decide +kernel) (by decide) (by decide) (by decide) (by decide)
            refine gx_call0 rfl rfl g227 rfl rfl r239 rfl ?_
            have k140 : ai_hv t239 400 3 = some (.inl 1) := (e239 400 3 (by omega)).trans k227
            show en_ex _ _ _ _ (70, [(0, gx_r 383), (1, .inl 3), (2, .inl b)], [], t239, n, 0) _
            refine ex_go (S := (71, [(0, gx_r 383), (1, .inl 3), (2, .inl b)], [gx_r 383], t239, n, 0)) rfl (fun _ => rfl) rfl ?_
            refine ex_go (S := (72, [(0, gx_r 383), (1, .inl 3), (2, .inl b)], [.inl b, gx_r 383], t239, n, 0)) rfl (fun _ => rfl) rfl ?_
            by_cases hc141 : b = 0
            · refine gx_1t (c := .eq) rfl (by omega) hc141 rfl ?_
              refine ex_go (S := (80, [(0, gx_r 383), (1, .inl 3), (2, .inl b)], [gx_r 383, gx_r 383], t239, n, 0)) rfl (fun _ => rfl) rfl ?_
              obtain ⟨m142, k143, m142l, m142h⟩ := gx_in (c := 383) (i := 26) (lo := 0) (hi := 16) g239 rfl rfl rfl rfl
              refine gx_get rfl g239 rfl k143 rfl ?_
              refine gx_put rfl g239 rfl rfl (ai_in_h (by omega) (by omega) (by omega)) rfl (fun t244 g244 k244 e244 => ?_)
              have k145 : ai_hv t244 400 3 = some (.inl 1) := (e244 400 3 (by omega)).trans k140
              refine ex_go (S := (87, [(0, gx_r 383), (1, .inl 3), (2, .inl b)], [.inl 1], t244, n, 0)) rfl (fun _ => rfl) rfl ?_
              refine ex_ret (r := (some (.inl 1), t244, n, 0)) rfl (fun _ => rfl) ?_
              refine ⟨_, rfl, 1, t244, rfl, fun _ => ⟨rfl, fun i hi => ?_⟩, fun h => absurd h (by omega)⟩
              rcases (show i = 0 ∨ i = 1 ∨ i = 2 ∨ i = 3 by omega) with rfl | rfl | rfl | rfl
              · rw [if_neg (by decide)]; exact (e244 400 0 (by omega)).trans ((e239 400 0 (by omega)).trans ((e227 400 0 (by omega)).trans ((e101 400 0 (by omega)).trans (hF 0 (by omega)))))
              · rw [if_neg (by decide)]; exact (e244 400 1 (by omega)).trans ((e239 400 1 (by omega)).trans ((e227 400 1 (by omega)).trans ((e101 400 1 (by omega)).trans (hF 1 (by omega)))))
              · rw [if_neg (by decide)]; exact (e244 400 2 (by omega)).trans ((e239 400 2 (by omega)).trans ((e227 400 2 (by omega)).trans ((e101 400 2 (by omega)).trans (hF 2 (by omega)))))
              · rw [if_pos rfl]; exact k145
            · refine gx_1f (c := .eq) rfl (by omega) hc141 rfl ?_
              refine ex_go (S := (76, [(0, gx_r 383), (1, .inl 3), (2, .inl b)], [.inl 0, gx_r 383], t239, n, 0)) rfl (fun _ => rfl) rfl ?_
              refine ex_go (S := (83, [(0, gx_r 383), (1, .inl 3), (2, .inl b)], [.inl 0, gx_r 383], t239, n, 0)) rfl (fun _ => rfl) rfl ?_
              refine gx_put rfl g239 rfl rfl (ai_in_h (by omega) (by omega) (by omega)) rfl (fun t246 g246 k246 e246 => ?_)
              have k147 : ai_hv t246 400 3 = some (.inl 1) := (e246 400 3 (by omega)).trans k140
              refine ex_go (S := (87, [(0, gx_r 383), (1, .inl 3), (2, .inl b)], [.inl 1], t246, n, 0)) rfl (fun _ => rfl) rfl ?_
              refine ex_ret (r := (some (.inl 1), t246, n, 0)) rfl (fun _ => rfl) ?_
              refine ⟨_, rfl, 1, t246, rfl, fun _ => ⟨rfl, fun i hi => ?_⟩, fun h => absurd h (by omega)⟩
              rcases (show i = 0 ∨ i = 1 ∨ i = 2 ∨ i = 3 by omega) with rfl | rfl | rfl | rfl
              · rw [if_neg (by decide)]; exact (e246 400 0 (by omega)).trans ((e239 400 0 (by omega)).trans ((e227 400 0 (by omega)).trans ((e101 400 0 (by omega)).trans (hF 0 (by omega)))))
              · rw [if_neg (by decide)]; exact (e246 400 1 (by omega)).trans ((e239 400 1 (by omega)).trans ((e227 400 1 (by omega)).trans ((e101 400 1 (by omega)).trans (hF 1 (by omega)))))
              · rw [if_neg (by decide)]; exact (e246 400 2 (by omega)).trans ((e239 400 2 (by omega)).trans ((e227 400 2 (by omega)).trans ((e101 400 2 (by omega)).trans (hF 2 (by omega)))))
              · rw [if_pos rfl]; exact k147
        · refine gx_1f (c := .eq) rfl (by omega) hc128 rfl ?_
          refine ex_go (S := (43, [(0, gx_r 383), (1, .inl 3), (2, .inl b)], [.inl 45, gx_r 383], t227, n, 0)) rfl (fun _ => rfl) rfl ?_
          refine ex_go (S := (44, [(0, gx_r 383), (1, .inl 3), (2, .inl b)], [.inl 1, .inl 45, gx_r 383], t227, n, 0)) rfl (fun _ => rfl) rfl ?_
          refine ex_go (S := (45, [(0, gx_r 383), (1, .inl 3), (2, .inl b)], [.inl 3, .inl 1, .inl 45, gx_r 383], t227, n, 0)) rfl (fun _ => rfl) rfl ?_
          refine ex_go (S := (46, [(0, gx_r 383), (1, .inl 3), (2, .inl b)], [.inl 4, .inl 45, gx_r 383], t227, n, 0)) rfl (fun _ => rfl) rfl ?_
          refine ex_go (S := (47, [(0, gx_r 383), (1, .inl 3), (2, .inl b)], [.inl 180, gx_r 383], t227, n, 0)) rfl (fun _ => rfl) rfl ?_
          refine ex_go (S := (51, [(0, gx_r 383), (1, .inl 3), (2, .inl b)], [.inl 180, gx_r 383], t227, n, 0)) rfl (fun _ => rfl) rfl ?_
          refine ex_go (S := (52, [(0, gx_r 383), (1, .inl 3), (2, .inl b)], [.inl b, .inl 180, gx_r 383], t227, n, 0)) rfl (fun _ => rfl) rfl ?_
          by_cases hc148 : b = 0
          · refine gx_1t (c := .eq) rfl (by omega) hc148 rfl ?_
            refine ex_go (S := (61, [(0, gx_r 383), (1, .inl 3), (2, .inl b)], [.inl 45, .inl 180, gx_r 383], t227, n, 0)) rfl (fun _ => rfl) rfl ?_
            refine ex_go (S := (62, [(0, gx_r 383), (1, .inl 3), (2, .inl b)], [.inl 1, .inl 45, .inl 180, gx_r 383], t227, n, 0)) rfl (fun _ => rfl) rfl ?_
            refine ex_go (S := (63, [(0, gx_r 383), (1, .inl 3), (2, .inl b)], [.inl 3, .inl 1, .inl 45, .inl 180, gx_r 383], t227, n, 0)) rfl (fun _ => rfl) rfl ?_
            refine ex_go (S := (64, [(0, gx_r 383), (1, .inl 3), (2, .inl b)], [.inl 4, .inl 45, .inl 180, gx_r 383], t227, n, 0)) rfl (fun _ => rfl) rfl ?_
            refine ex_go (S := (65, [(0, gx_r 383), (1, .inl 3), (2, .inl b)], [.inl 180, .inl 180, gx_r 383], t227, n, 0)) rfl (fun _ => rfl) rfl ?_
            refine ex_go (S := (67, [(0, gx_r 383), (1, .inl 3), (2, .inl b)], [.inl 45, .inl 180, .inl 180, gx_r 383], t227, n, 0)) rfl (fun _ => rfl) rfl ?_
            obtain ⟨_, r249, t249, rfl, g249, e249, -⟩ := pe_copies d n (f := 180) (t := 180) (m := 45) g227 (by decide +kernel) (by decide) (by decide) (by decide) (by decide)
            refine gx_call0 rfl rfl g227 rfl rfl r249 rfl ?_
            have k150 : ai_hv t249 400 3 = some (.inl 1) := (e249 400 3 (by omega)).trans k227
            show en_ex _ _ _ _ (70, [(0, gx_r 383), (1, .inl 3), (2, .inl b)], [], t249, n, 0) _
            refine ex_go (S := (71, [(0, gx_r 383), (1, .inl 3), (2, .inl b)], [gx_r 383], t249, n, 0)) rfl (fun _ => rfl) rfl ?_
            refine ex_go (S := (72, [(0, gx_r 383), (1, .inl 3), (2, .inl b)], [.inl b, gx_r 383], t249, n, 0)) rfl (fun _ => rfl) rfl ?_
            by_cases hc151 : b = 0
            · refine gx_1t (c := .eq) rfl (by omega) hc151 rfl ?_
              refine ex_go (S := (80, [(0, gx_r 383), (1, .inl 3), (2, .inl b)], [gx_r 383, gx_r 383], t249, n, 0)) rfl (fun _ => rfl) rfl ?_
              obtain ⟨m152, k153, m152l, m152h⟩ := gx_in (c := 383) (i := 26) (lo := 0) (hi := 16) g249 rfl rfl rfl rfl
              refine gx_get rfl g249 rfl k153 rfl ?_
              refine gx_put rfl g249 rfl rfl (ai_in_h (by omega) (by omega) (by omega)) rfl (fun t254 g254 k254 e254 => ?_)
              have k155 : ai_hv t254 400 3 = some (.inl 1) := (e254 400 3 (by omega)).trans k150
              refine ex_go (S := (87, [(0, gx_r 383), (1, .inl 3), (2, .inl b)], [.inl 1], t254, n, 0)) rfl (fun _ => rfl) rfl ?_
              refine ex_ret (r := (some (.inl 1), t254, n, 0)) rfl (fun _ => rfl) ?_
              refine ⟨_, rfl, 1, t254, rfl, fun _ => ⟨rfl, fun i hi => ?_⟩, fun h => absurd h (by omega)⟩
              rcases (show i = 0 ∨ i = 1 ∨ i = 2 ∨ i = 3 by omega) with rfl | rfl | rfl | rfl
              · rw [if_neg (by decide)]; exact (e254 400 0 (by omega)).trans ((e249 400 0 (by omega)).trans ((e227 400 0 (by omega)).trans ((e101 400 0 (by omega)).trans (hF 0 (by omega)))))
              · rw [if_neg (by decide)]; exact (e254 400 1 (by omega)).trans ((e249 400 1 (by omega)).trans ((e227 400 1 (by omega)).trans ((e101 400 1 (by omega)).trans (hF 1 (by omega)))))
              · rw [if_neg (by decide)]; exact (e254 400 2 (by omega)).trans ((e249 400 2 (by omega)).trans ((e227 400 2 (by omega)).trans ((e101 400 2 (by omega)).trans (hF 2 (by omega)))))
              · rw [if_pos rfl]; exact k155
            · refine gx_1f (c := .eq) rfl (by omega) hc151 rfl ?_
              refine ex_go (S := (76, [(0, gx_r 383), (1, .inl 3), (2, .inl b)], [.inl 0, gx_r 383], t249, n, 0)) rfl (fun _ => rfl) rfl ?_
              refine ex_go (S := (83, [(0, gx_r 383), (1, .inl 3), (2, .inl b)], [.inl 0, gx_r 383], t249, n, 0)) rfl (fun _ => rfl) rfl ?_
              refine gx_put rfl g249 rfl rfl (ai_in_h (by omega) (by omega) (by omega)) rfl (fun t256 g256 k256 e256 => ?_)
              have k157 : ai_hv t256 400 3 = some (.inl 1) := (e256 400 3 (by omega)).trans k150
              refine ex_go (S := (87, [(0, gx_r 383), (1, .inl 3), (2, .inl b)], [.inl 1], t256, n, 0)) rfl (fun _ => rfl) rfl ?_
              refine ex_ret (r := (some (.inl 1), t256, n, 0)) rfl (fun _ => rfl) ?_
              refine ⟨_, rfl, 1, t256, rfl, fun _ => ⟨rfl, fun i hi => ?_⟩, fun h => absurd h (by omega)⟩
              rcases (show i = 0 ∨ i = 1 ∨ i = 2 ∨ i = 3 by omega) with rfl | rfl | rfl | rfl
              · rw [if_neg (by decide)]; exact (e256 400 0 (by omega)).trans ((e249 400 0 (by omega)).trans ((e227 400 0 (by omega)).trans ((e101 400 0 (by omega)).trans (hF 0 (by omega)))))
              · rw [if_neg (by decide)]; exact (e256 400 1 (by omega)).trans ((e249 400 1 (by omega)).trans ((e227 400 1 (by omega)).trans ((e101 400 1 (by omega)).trans (hF 1 (by omega)))))
              · rw [if_neg (by decide)]; exact (e256 400 2 (by omega)).trans ((e249 400 2 (by omega)).trans ((e227 400 2 (by omega)).trans ((e101 400 2 (by omega)).trans (hF 2 (by omega)))))
              · rw [if_pos rfl]; exact k157
          · refine gx_1f (c := .eq) rfl (by omega) hc148 rfl ?_
            refine ex_go (S := (56, [(0, gx_r 383), (1, .inl 3), (2, .inl b)], [.inl 0, .inl 180, gx_r 383], t227, n, 0)) rfl (fun _ => rfl) rfl ?_
            refine ex_go (S := (65, [(0, gx_r 383), (1, .inl 3), (2, .inl b)], [.inl 0, .inl 180, gx_r 383], t227, n, 0)) rfl (fun _ => rfl) rfl ?_
            refine ex_go (S := (67, [(0, gx_r 383), (1, .inl 3), (2, .inl b)], [.inl 45, .inl 0, .inl 180, gx_r 383], t227, n, 0)) rfl (fun _ => rfl) rfl ?_
            obtain ⟨_, r258, t258, rfl, g258, e258, -⟩ := pe_copies d n (f := 180) (t := 0) (m := 45) g227 (by decide +kernel) (by decide) (by decide) (by decide) (by decide)
            refine gx_call0 rfl rfl g227 rfl rfl r258 rfl ?_
            have k159 : ai_hv t258 400 3 = some (.inl 1) := (e258 400 3 (by omega)).trans k227
            show en_ex _ _ _ _ (70, [(0, gx_r 383), (1, .inl 3), (2, .inl b)], [], t258, n, 0) _
            refine ex_go (S := (71, [(0, gx_r 383), (1, .inl 3), (2, .inl b)], [gx_r 383], t258, n, 0)) rfl (fun _ => rfl) rfl ?_
            refine ex_go (S := (72, [(0, gx_r 383), (1, .inl 3), (2, .inl b)], [.inl b, gx_r 383], t258, n, 0)) rfl (fun _ => rfl) rfl ?_
            by_cases hc160 : b = 0
            · refine gx_1t (c := .eq) rfl (by omega) hc160 rfl ?_
              refine ex_go (S := (80, [(0, gx_r 383), (1, .inl 3), (2, .inl b)], [gx_r 383, gx_r 383], t258, n, 0)) rfl (fun _ => rfl) rfl ?_
              obtain ⟨m161, k162, m161l, m161h⟩ := gx_in (c := 383) (i := 26) (lo := 0) (hi := 16) g258 rfl rfl rfl rfl
              refine gx_get rfl g258 rfl k162 rfl ?_
              refine gx_put rfl g258 rfl rfl (ai_in_h (by omega) (by omega) (by omega)) rfl (fun t263 g263 k263 e263 => ?_)
              have k164 : ai_hv t263 400 3 = some (.inl 1) := (e263 400 3 (by omega)).trans k159
              refine ex_go (S := (87, [(0, gx_r 383), (1, .inl 3), (2, .inl b)], [.inl 1], t263, n, 0)) rfl (fun _ => rfl) rfl ?_
              refine ex_ret (r := (some (.inl 1), t263, n, 0)) rfl (fun _ => rfl) ?_
              refine ⟨_, rfl, 1, t263, rfl, fun _ => ⟨rfl, fun i hi => ?_⟩, fun h => absurd h (by omega)⟩
              rcases (show i = 0 ∨ i = 1 ∨ i = 2 ∨ i = 3 by omega) with rfl | rfl | rfl | rfl
              · rw [if_neg (by decide)]; exact (e263 400 0 (by omega)).trans ((e258 400 0 (by omega)).trans ((e227 400 0 (by omega)).trans ((e101 400 0 (by omega)).trans (hF 0 (by omega)))))
              · rw [if_neg (by decide)]; exact (e263 400 1 (by omega)).trans ((e258 400 1 (by omega)).trans ((e227 400 1 (by omega)).trans ((e101 400 1 (by omega)).trans (hF 1 (by omega)))))
              · rw [if_neg (by decide)]; exact (e263 400 2 (by omega)).trans ((e258 400 2 (by omega)).trans ((e227 400 2 (by omega)).trans ((e101 400 2 (by omega)).trans (hF 2 (by omega)))))
              · rw [if_pos rfl]; exact k164
            · refine gx_1f (c := .eq) rfl (by omega) hc160 rfl ?_
              refine ex_go (S := (76, [(0, gx_r 383), (1, .inl 3), (2, .inl b)], [.inl 0, gx_r 383], t258, n, 0)) rfl (fun _ => rfl) rfl ?_
              refine ex_go (S := (83, [(0, gx_r 383), (1, .inl 3), (2, .inl b)], [.inl 0, gx_r 383], t258, n, 0)) rfl (fun _ => rfl) rfl ?_
              refine gx_put rfl g258 rfl rfl (ai_in_h (by omega) (by omega) (by omega)) rfl (fun t265 g265 k265 e265 => ?_)
              have k166 : ai_hv t265 400 3 = some (.inl 1) := (e265 400 3 (by omega)).trans k159
              refine ex_go (S := (87, [(0, gx_r 383), (1, .inl 3), (2, .inl b)], [.inl 1], t265, n, 0)) rfl (fun _ => rfl) rfl ?_
              refine ex_ret (r := (some (.inl 1), t265, n, 0)) rfl (fun _ => rfl) ?_
              refine ⟨_, rfl, 1, t265, rfl, fun _ => ⟨rfl, fun i hi => ?_⟩, fun h => absurd h (by omega)⟩
              rcases (show i = 0 ∨ i = 1 ∨ i = 2 ∨ i = 3 by omega) with rfl | rfl | rfl | rfl
              · rw [if_neg (by decide)]; exact (e265 400 0 (by omega)).trans ((e258 400 0 (by omega)).trans ((e227 400 0 (by omega)).trans ((e101 400 0 (by omega)).trans (hF 0 (by omega)))))
              · rw [if_neg (by decide)]; exact (e265 400 1 (by omega)).trans ((e258 400 1 (by omega)).trans ((e227 400 1 (by omega)).trans ((e101 400 1 (by omega)).trans (hF 1 (by omega)))))
              · rw [if_neg (by decide)]; exact (e265 400 2 (by omega)).trans ((e258 400 2 (by omega)).trans ((e227 400 2 (by omega)).trans ((e101 400 2 (by omega)).trans (hF 2 (by omega)))))
              · rw [if_pos rfl]; exact k166
    · refine gx_1f (c := .eq) rfl (by omega) hc6 rfl ?_
      refine ex_go (S := (19, [(0, gx_r 383), (1, .inl m), (2, .inl b)], [gx_r 383], t101, n, 0)) rfl (fun _ => rfl) rfl ?_
      refine gx_ref (c := 400) rfl g101 rfl rfl rfl rfl ?_
      refine ex_go (S := (23, [(0, gx_r 383), (1, .inl m), (2, .inl b)], [.inl m, gx_r 400], t101, n, 0)) rfl (fun _ => rfl) rfl ?_
      have hf1 := hF1 m (by omega)
      refine gx_ag (v := .inl (F m)) (cb := fun c => Nat.beq c 2 || Nat.beq c 1) rfl (fun _ => rfl) g101 rfl rfl ((e101 400 m (by omega)).trans (hF m (by omega))) (by omega) rfl ?_
      by_cases hc167 : F m ≠ 0
      · refine gx_1t (c := .ne) rfl (by omega) hc167 rfl ?_
        rcases (show m = 0 ∨ m = 1 ∨ m = 2 ∨ m = 3 by omega) with rfl | rfl | rfl | rfl
        · refine ex_go (S := (30, [(0, gx_r 383), (1, .inl 0), (2, .inl b)], [gx_r 383], t101, n, 0)) rfl (fun _ => rfl) rfl ?_
          refine gx_ref (c := 400) rfl g101 rfl rfl rfl rfl ?_
          refine ex_go (S := (34, [(0, gx_r 383), (1, .inl 0), (2, .inl b)], [.inl 0, gx_r 400], t101, n, 0)) rfl (fun _ => rfl) rfl ?_
          refine ex_go (S := (35, [(0, gx_r 383), (1, .inl 0), (2, .inl b)], [.inl 1, .inl 0, gx_r 400], t101, n, 0)) rfl (fun _ => rfl) rfl ?_
          refine gx_apv (d := 2) rfl (fun _ => rfl) g101 rfl rfl rfl (show 0 < 4 from by omega) rfl (ai_in_h (by omega) (by omega) (by omega)) rfl (fun t268 g268 k268 e268 => ?_)
          refine ex_go (S := (37, [(0, gx_r 383), (1, .inl 0), (2, .inl b)], [gx_r 383], t268, n, 0)) rfl (fun _ => rfl) rfl ?_
          refine ex_go (S := (38, [(0, gx_r 383), (1, .inl 0), (2, .inl b)], [.inl b, gx_r 383], t268, n, 0)) rfl (fun _ => rfl) rfl ?_
          by_cases hc169 : b = 0
          · refine gx_1t (c := .eq) rfl (by omega) hc169 rfl ?_
            refine ex_go (S := (51, [(0, gx_r 383), (1, .inl 0), (2, .inl b)], [.inl 0, gx_r 383], t268, n, 0)) rfl (fun _ => rfl) rfl ?_
            refine ex_go (S := (52, [(0, gx_r 383), (1, .inl 0), (2, .inl b)], [.inl b, .inl 0, gx_r 383], t268, n, 0)) rfl (fun _ => rfl) rfl ?_
            by_cases hc170 : b = 0
            · refine gx_1t (c := .eq) rfl (by omega) hc170 rfl ?_
              refine ex_go (S := (61, [(0, gx_r 383), (1, .inl 0), (2, .inl b)], [.inl 45, .inl 0, gx_r 383], t268, n, 0)) rfl (fun _ => rfl) rfl ?_
              refine ex_go (S := (62, [(0, gx_r 383), (1, .inl 0), (2, .inl b)], [.inl 1, .inl 45, .inl 0, gx_r 383], t268, n, 0)) rfl (fun _ => rfl) rfl ?_
              refine ex_go (S := (63, [(0, gx_r 383), (1, .inl 0), (2, .inl b)], [.inl 0, .inl 1, .inl 45, .inl 0, gx_r 383], t268, n, 0)) rfl (fun _ => rfl) rfl ?_
              refine ex_go (S := (64, [(0, gx_r 383), (1, .inl 0), (2, .inl b)], [.inl 1, .inl 45, .inl 0, gx_r 383], t268, n, 0)) rfl (fun _ => rfl) rfl ?_
              refine ex_go (S := (65, [(0, gx_r 383), (1, .inl 0), (2, .inl b)], [.inl 45, .inl 0, gx_r 383], t268, n, 0)) rfl (fun _ => rfl) rfl ?_
              refine ex_go (S := (67, [(0, gx_r 383), (1, .inl 0), (2, .inl b)], [.inl 45, .inl 45, .inl 0, gx_r 383], t268, n, 0)) rfl (fun _ => rfl) rfl ?_
              obtain ⟨_, r271, t271, rfl, g271, e271, -⟩ := pe_copies d n (f := 0) (t := 45) (m := 45) g268 (by decide +kernel) (by decide) (by decide) (by decide) (by decide)
              refine gx_call0 rfl rfl g268 rfl rfl r271 rfl ?_
              have k172 : ai_hv t271 400 0 = some (.inl 1) := (e271 400 0 (by omega)).trans k268
              show en_ex _ _ _ _ (70, [(0, gx_r 383), (1, .inl 0), (2, .inl b)], [], t271, n, 0) _
              refine ex_go (S := (71, [(0, gx_r 383), (1, .inl 0), (2, .inl b)], [gx_r 383], t271, n, 0)) rfl (fun _ => rfl) rfl ?_
              refine ex_go (S := (72, [(0, gx_r 383), (1, .inl 0), (2, .inl b)], [.inl b, gx_r 383], t271, n, 0)) rfl (fun _ => rfl) rfl ?_
              by_cases hc173 : b = 0
              · refine gx_1t (c := .eq) rfl (by omega) hc173 rfl ?_
                refine ex_go (S := (80, [(0, gx_r 383), (1, .inl 0), (2, .inl b)], [gx_r 383, gx_r 383], t271, n, 0)) rfl (fun _ => rfl) rfl ?_
                obtain ⟨m174, k175, m174l, m174h⟩ := gx_in (c := 383) (i := 26) (lo := 0) (hi := 16) g271 rfl rfl rfl rfl
                refine gx_get rfl g271 rfl k175 rfl ?_
                refine gx_put rfl g271 rfl rfl (ai_in_h (by omega) (by omega) (by omega)) rfl (fun t276 g276 k276 e276 => ?_)
                have k177 : ai_hv t276 400 0 = some (.inl 1) := (e276 400 0 (by omega)).trans k172
                refine ex_go (S := (87, [(0, gx_r 383), (1, .inl 0), (2, .inl b)], [.inl 1], t276, n, 0)) rfl (fun _ => rfl) rfl ?_
                refine ex_ret (r := (some (.inl 1), t276, n, 0)) rfl (fun _ => rfl) ?_
                refine ⟨_, rfl, 1, t276, rfl, fun _ => ⟨rfl, fun i hi => ?_⟩, fun h => absurd h (by omega)⟩
                rcases (show i = 0 ∨ i = 1 ∨ i = 2 ∨ i = 3 by omega) with rfl | rfl | rfl | rfl
                · rw [if_pos rfl]; exact k177
                · rw [if_neg (by decide)]; exact (e276 400 1 (by omega)).trans ((e271 400 1 (by omega)).trans ((e268 400 1 (by omega)).trans ((e101 400 1 (by omega)).trans (hF 1 (by omega)))))
                · rw [if_neg (by decide)]; exact (e276 400 2 (by omega)).trans ((e271 400 2 (by omega)).trans ((e268 400 2 (by omega)).trans ((e101 400 2 (by omega)).trans (hF 2 (by omega)))))
                · rw [if_neg (by decide)]; exact (e276 400 3 (by omega)).trans ((e271 400 3 (by omega)).trans ((e268 400 3 (by omega)).trans ((e101 400 3 (by omega)).trans (hF 3 (by omega)))))
              · refine gx_1f (c := .eq) rfl (by omega) hc173 rfl ?_
                refine ex_go (S := (76, [(0, gx_r 383), (1, .inl 0), (2, .inl b)], [.inl 0, gx_r 383], t271, n, 0)) rfl (fun _ => rfl) rfl ?_
                refine ex_go (S := (83, [(0, gx_r 383), (1, .inl 0), (2, .inl b)], [.inl 0, gx_r 383], t271, n, 0)) rfl (fun _ => rfl) rfl ?_
                refine gx_put rfl g271 rfl rfl (ai_in_h (by omega) (by omega) (by omega)) rfl (fun t278 g278 k278 e278 => ?_)
                have k179 : ai_hv t278 400 0 = some (.inl 1) := (e278 400 0 (by omega)).trans k172
                refine ex_go (S := (87, [(0, gx_r 383), (1, .inl 0), (2, .inl b)], [.inl 1], t278, n, 0)) rfl (fun _ => rfl) rfl ?_
                refine ex_ret (r := (some (.inl 1), t278, n, 0)) rfl (fun _ => rfl) ?_
                refine ⟨_, rfl, 1, t278, rfl, fun _ => ⟨rfl, fun i hi => ?_⟩, fun h => absurd h (by omega)⟩
                rcases (show i = 0 ∨ i = 1 ∨ i = 2 ∨ i = 3 by omega) with rfl | rfl | rfl | rfl
                · rw [if_pos rfl]; exact k179
                · rw [if_neg (by decide)]; exact (e278 400 1 (by omega)).trans ((e271 400 1 (by omega)).trans ((e268 400 1 (by omega)).trans ((e101 400 1 (by omega)).trans (hF 1 (by omega)))))
                · rw [if_neg (by decide)]; exact (e278 400 2 (by omega)).trans ((e271 400 2 (by omega)).trans ((e268 400 2 (by omega)).trans ((e101 400 2 (by omega)).trans (hF 2 (by omega)))))
                · rw [if_neg (by decide)]; exact (e278 400 3 (by omega)).trans ((e271 400 3 (by omega)).trans ((e268 400 3 (by omega)).trans ((e101 400 3 (by omega)).trans (hF 3 (by omega)))))
            · refine gx_1f (c := .eq) rfl (by omega) hc170 rfl ?_
              refine ex_go (S := (56, [(0, gx_r 383), (1, .inl 0), (2, .inl b)], [.inl 0, .inl 0, gx_r 383], t268, n, 0)) rfl (fun _ => rfl) rfl ?_
              refine ex_go (S := (65, [(0, gx_r 383), (1, .inl 0), (2, .inl b)], [.inl 0, .inl 0, gx_r 383], t268, n, 0)) rfl (fun _ => rfl) rfl ?_
              refine ex_go (S := (67, [(0, gx_r 383), (1, .inl 0), (2, .inl b)], [.inl 45, .inl 0, .inl 0, gx_r 383], t268, n, 0)) rfl (fun _ => rfl) rfl ?_
              obtain ⟨_, r280, t280, rfl, g280, e280, -⟩ := pe_copies d n (f := 0) (t := 0) (m := 45) g268 (by decide +kernel) (by decide) (by decide) (by decide) (by decide)
              refine gx_call0 rfl rfl g268 rfl rfl r280 rfl ?_
              have k181 : ai_hv t280 400 0 = some (.inl 1) := (e280 400 0 (by omega)).trans k268
              show en_ex _ _ _ _ (70, [(0, gx_r 383), (1, .inl 0), (2, .inl b)], [], t280, n, 0) _
              refine ex_go (S := (71, [(0, gx_r 383), (1, .inl 0), (2, .inl b)], [gx_r 383], t280, n, 0)) rfl (fun _ => rfl) rfl ?_
              refine ex_go (S := (72, [(0, gx_r 383), (1, .inl 0), (2, .inl b)], [.inl b, gx_r 383], t280, n, 0)) rfl (fun _ => rfl) rfl ?_
              by_cases hc182 : b = 0
              · refine gx_1t (c := .eq) rfl (by omega) hc182 rfl ?_
                refine ex_go (S := (80, [(0, gx_r 383), (1, .inl 0), (2, .inl b)], [gx_r 383, gx_r 383], t280, n, 0)) rfl (fun _ => rfl) rfl ?_
                obtain ⟨m183, k184, m183l, m183h⟩ := gx_in (c := 383) (i := 26) (lo := 0) (hi := 16) g280 rfl rfl rfl rfl
                refine gx_get rfl g280 rfl k184 rfl ?_
                refine gx_put rfl g280 rfl rfl (ai_in_h (by omega) (by omega) (by omega)) rfl (fun t285 g285 k285 e285 => ?_)
                have k186 : ai_hv t285 400 0 = some (.inl 1) := (e285 400 0 (by omega)).trans k181
                refine ex_go (S := (87, [(0, gx_r 383), (1, .inl 0), (2, .inl b)], [.inl 1], t285, n, 0)) rfl (fun _ => rfl) rfl ?_
                refine ex_ret (r := (some (.inl 1), t285, n, 0)) rfl (fun _ => rfl) ?_
                refine ⟨_, rfl, 1, t285, rfl, fun _ => ⟨rfl, fun i hi => ?_⟩, fun h => absurd h (by omega)⟩
                rcases (show i = 0 ∨ i = 1 ∨ i = 2 ∨ i = 3 by omega) with rfl | rfl | rfl | rfl
                · rw [if_pos rfl]; exact k186
                · rw [if_neg (by decide)]; exact (e285 400 1 (by omega)).trans ((e280 400 1 (by omega)).trans ((e268 400 1 (by omega)).trans ((e101 400 1 (by omega)).trans (hF 1 (by omega)))))
                · rw [if_neg (by decide)]; exact (e285 400 2 (by omega)).trans ((e280 400 2 (by omega)).trans ((e268 400 2 (by omega)).trans ((e101 400 2 (by omega)).trans (hF 2 (by omega)))))
                · rw [if_neg (by decide)]; exact (e285 400 3 (by omega)).trans ((e280 400 3 (by omega)).trans ((e268 400 3 (by omega)).trans ((e101 400 3 (by omega)).trans (hF 3 (by omega)))))
              · refine gx_1f (c := .eq) rfl (by omega) hc182 rfl ?_
                refine ex_go (S := (76, [(0, gx_r 383), (1, .inl 0), (2, .inl b)], [.inl 0, gx_r 383], t280, n, 0)) rfl (fun _ => rfl) rfl ?_
                refine ex_go (S := (83, [(0, gx_r 383), (1, .inl 0), (2, .inl b)], [.inl 0, gx_r 383], t280, n, 0)) rfl (fun _ => rfl) rfl ?_
                refine gx_put rfl g280 rfl rfl (ai_in_h (by omega) (by omega) (by omega)) rfl (fun t287 g287 k287 e287 => ?_)
                have k188 : ai_hv t287 400 0 = some (.inl 1) := (e287 400 0 (by omega)).trans k181
                refine ex_go (S := (87, [(0, gx_r 383), (1, .inl 0), (2, .inl b)], [.inl 1], t287, n, 0)) rfl (fun _ => rfl) rfl ?_
                refine ex_ret (r := (some (.inl 1), t287, n, 0)) rfl (fun _ => rfl) ?_
                refine ⟨_, rfl, 1, t287, rfl, fun _ => ⟨rfl, fun i hi => ?_⟩, fun h => absurd h (by omega)⟩
                rcases (show i = 0 ∨ i = 1 ∨ i = 2 ∨ i = 3 by omega) with rfl | rfl | rfl | rfl
                · rw [if_pos rfl]; exact k188
                · rw [if_neg (by decide)]; exact (e287 400 1 (by omega)).trans ((e280 400 1 (by omega)).trans ((e268 400 1 (by omega)).trans ((e101 400 1 (by omega)).trans (hF 1 (by omega)))))
                · rw [if_neg (by decide)]; exact (e287 400 2 (by omega)).trans ((e280 400 2 (by omega)).trans ((e268 400 2 (by omega)).trans ((e101 400 2 (by omega)).trans (hF 2 (by omega)))))
                · rw [if_neg (by decide)]; exact (e287 400 3 (by omega)).trans ((e280 400 3 (by omega)).trans ((e268 400 3 (by omega)).trans ((e101 400 3 (by omega)).trans (hF 3 (by omega)))))
          · refine gx_1f (c := .eq) rfl (by omega) hc169 rfl ?_
            refine ex_go (S := (43, [(0, gx_r 383), (1, .inl 0), (2, .inl b)], [.inl 45, gx_r 383], t268, n, 0)) rfl (fun _ => rfl) rfl ?_
            refine ex_go (S := (44, [(0, gx_r 383), (1, .inl 0), (2, .inl b)], [.inl 1, .inl 45, gx_r 383], t268, n, 0)) rfl (fun _ => rfl) rfl ?_
            refine ex_go (S := (45, [(0, gx_r 383), (1, .inl 0), (2, .inl b)], [.inl 0, .inl 1, .inl 45, gx_r 383], t268, n, 0)) rfl (fun _ => rfl) rfl ?_
            refine ex_go (S := (46, [(0, gx_r 383), (1, .inl 0), (2, .inl b)], [.inl 1, .inl 45, gx_r 383], t268, n, 0)) rfl (fun _ => rfl) rfl ?_
            refine ex_go (S := (47, [(0, gx_r 383), (1, .inl 0), (2, .inl b)], [.inl 45, gx_r 383], t268, n, 0)) rfl (fun _ => rfl) rfl ?_
            refine ex_go (S := (51, [(0, gx_r 383), (1, .inl 0), (2, .inl b)], [.inl 45, gx_r 383], t268, n, 0)) rfl (fun _ => rfl) rfl ?_
            refine ex_go (S := (52, [(0, gx_r 383), (1, .inl 0), (2, .inl b)], [.inl b, .inl 45, gx_r 383], t268, n, 0)) rfl (fun _ => rfl) rfl ?_
            by_cases hc189 : b = 0
            · refine gx_1t (c := .eq) rfl (by omega) hc189 rfl ?_
              refine ex_go (S := (61, [(0, gx_r 383), (1, .inl 0), (2, .inl b)], [.inl 45, .inl 45, gx_r 383], t268, n, 0)) rfl (fun _ => rfl) rfl ?_
              refine ex_go (S := (62, [(0, gx_r 383), (1, .inl 0), (2, .inl b)], [.inl 1, .inl 45, .inl 45, gx_r 383], t268, n, 0)) rfl (fun _ => rfl) rfl ?_
              refine ex_go (S := (63, [(0, gx_r 383), (1, .inl 0), (2, .inl b)], [.inl 0, .inl 1, .inl 45, .inl 45, gx_r 383], t268, n, 0)) rfl (fun _ => rfl) rfl ?_
              refine ex_go (S := (64, [(0, gx_r 383), (1, .inl 0), (2, .inl b)], [.inl 1, .inl 45, .inl 45, gx_r 383], t268, n, 0)) rfl (fun _ => rfl) rfl ?_
              refine ex_go (S := (65, [(0, gx_r 383), (1, .inl 0), (2, .inl b)], [.inl 45, .inl 45, gx_r 383], t268, n, 0)) rfl (fun _ => rfl) rfl ?_
              refine ex_go (S := (67, [(0, gx_r 383), (1, .inl 0), (2, .inl b)], [.inl 45, .inl 45, .inl 45, gx_r 383], t268, n, 0)) rfl (fun _ => rfl) rfl ?_
              obtain ⟨_, r290, t290, rfl, g290, e290, -⟩ := pe_copies d n (f := 45) (t := 45) (m := 45) g268 (by decide +kernel) (by decide) (by decide) (by decide) (by decide)
              refine gx_call0 rfl rfl g268 rfl rfl r290 rfl ?_
              have k191 : ai_hv t290 400 0 = some (.inl 1) := (e290 400 0 (by omega)).trans k268
              show en_ex _ _ _ _ (70, [(0, gx_r 383), (1, .inl 0), (2, .inl b)], [], t290, n, 0) _
              refine ex_go (S := (71, [(0, gx_r 383), (1, .inl 0), (2, .inl b)], [gx_r 383], t290, n, 0)) rfl (fun _ => rfl) rfl ?_
              refine ex_go (S := (72, [(0, gx_r 383), (1, .inl 0), (2, .inl b)], [.inl b, gx_r 383], t290, n, 0)) rfl (fun _ => rfl) rfl ?_
              by_cases hc192 : b = 0
              · refine gx_1t (c := .eq) rfl (by omega) hc192 rfl ?_
                refine ex_go (S := (80, [(0, gx_r 383), (1, .inl 0), (2, .inl b)], [gx_r 383, gx_r 383], t290, n, 0)) rfl (fun _ => rfl) rfl ?_
                obtain ⟨m193, k194, m193l, m193h⟩ := gx_in (c := 383) (i := 26) (lo := 0) (hi := 16) g290 rfl rfl rfl rfl
                refine gx_get rfl g290 rfl k194 rfl ?_
                refine gx_put rfl g290 rfl rfl (ai_in_h (by omega) (by omega) (by omega)) rfl (fun t295 g295 k295 e295 => ?_)
                have k196 : ai_hv t295 400 0 = some (.inl 1) := (e295 400 0 (by omega)).trans k191
                refine ex_go (S := (87, [(0, gx_r 383), (1, .inl 0), (2, .inl b)], [.inl 1], t295, n, 0)) rfl (fun _ => rfl) rfl ?_
                refine ex_ret (r := (some (.inl 1), t295, n, 0)) rfl (fun _ => rfl) ?_
                refine ⟨_, rfl, 1, t295, rfl, fun _ => ⟨rfl, fun i hi => ?_⟩, fun h => absurd h (by omega)⟩
                rcases (show i = 0 ∨ i = 1 ∨ i = 2 ∨ i = 3 by omega) with rfl | rfl | rfl | rfl
                · rw [if_pos rfl]; exact k196
                · rw [if_neg (by decide)]; exact (e295 400 1 (by omega)).trans ((e290 400 1 (by omega)).trans ((e268 400 1 (by omega)).trans ((e101 400 1 (by omega)).trans (hF 1 (by omega)))))
                · rw [if_neg (by decide)]; exact (e295 400 2 (by omega)).trans ((e290 400 2 (by omega)).trans ((e268 400 2 (by omega)).trans ((e101 400 2 (by omega)).trans (hF 2 (by omega)))))
                · rw [if_neg (by decide)]; exact (e295 400 3 (by omega)).trans ((e290 400 3 (by omega)).trans ((e268 400 3 (by omega)).trans ((e101 400 3 (by omega)).trans (hF 3 (by omega)))))
              · refine gx_1f (c := .eq) rfl (by omega) hc192 rfl ?_
                refine ex_go (S := (76, [(0, gx_r 383), (1, .inl 0), (2, .inl b)], [.inl 0, gx_r 383], t290, n, 0)) rfl (fun _ => rfl) rfl ?_
                refine ex_go (S := (83, [(0, gx_r 383), (1, .inl 0), (2, .inl b)], [.inl 0, gx_r 383], t290, n, 0)) rfl (fun _ => rfl) rfl ?_
                refine gx_put rfl g290 rfl rfl (ai_in_h (by omega) (by omega) (by omega)) rfl (fun t297 g297 k297 e297 => ?_)
                have k198 : ai_hv t297 400 0 = some (.inl 1) := (e297 400 0 (by omega)).trans k191
                refine ex_go (S := (87, [(0, gx_r 383), (1, .inl 0), (2, .inl b)], [.inl 1], t297, n, 0)) rfl (fun _ => rfl) rfl ?_
                refine ex_ret (r := (some (.inl 1), t297, n, 0)) rfl (fun _ => rfl) ?_
                refine ⟨_, rfl, 1, t297, rfl, fun _ => ⟨rfl, fun i hi => ?_⟩, fun h => absurd h (by omega)⟩
                rcases (show i = 0 ∨ i = 1 ∨ i = 2 ∨ i = 3 by omega) with rfl | rfl | rfl | rfl
                · rw [if_pos rfl]; exact k198
                · rw [if_neg (by decide)]; exact (e297 400 1 (by omega)).trans ((e290 400 1 (by omega)).trans ((e268 400 1 (by omega)).trans ((e101 400 1 (by omega)).trans (hF 1 (by omega)))))
                · rw [if_neg (by decide)]; exact (e297 400 2 (by omega)).trans ((e290 400 2 (by omega)).trans ((e268 400 2 (by omega)).trans ((e101 400 2 (by omega)).trans (hF 2 (by omega)))))
                · rw [if_neg (by decide)]; exact (e297 400 3 (by omega)).trans ((e290 400 3 (by omega)).trans ((e268 400 3 (by omega)).trans ((e101 400 3 (by omega)).trans (hF 3 (by omega)))))
            · refine gx_1f (c := .eq) rfl (by omega) hc189 rfl ?_
              refine ex_go (S := (56, [(0, gx_r 383), (1, .inl 0), (2, .inl b)], [.inl 0, .inl 45, gx_r 383], t268, n, 0)) rfl (fun _ => rfl) rfl ?_
              refine ex_go (S := (65, [(0, gx_r 383), (1, .inl 0), (2, .inl b)], [.inl 0, .inl 45, gx_r 383], t268, n, 0)) rfl (fun _ => rfl) rfl ?_
              refine ex_go (S := (67, [(0, gx_r 383), (1, .inl 0), (2, .inl b)], [.inl 45, .inl 0, .inl 45, gx_r 383], t268, n, 0)) rfl (fun _ => rfl) rfl ?_
              obtain ⟨_, r299, t299, rfl, g299, e299, -⟩ := pe_copies d n (f := 45) (t := 0) (m := 45) g268 (by decide +kernel) (by decide) (by decide) (by decide) (by decide)
              refine gx_call0 rfl rfl g268 rfl rfl r299 rfl ?_
              have k200 : ai_hv t299 400 0 = some (.inl 1) := (e299 400 0 (by omega)).trans k268
              show en_ex _ _ _ _ (70, [(0, gx_r 383), (1, .inl 0), (2, .inl b)], [], t299, n, 0) _
              refine ex_go (S := (71, [(0, gx_r 383), (1, .inl 0), (2, .inl b)], [gx_r 383], t299, n, 0)) rfl (fun _ => rfl) rfl ?_
              refine ex_go (S := (72, [(0, gx_r 383), (1, .inl 0), (2, .inl b)], [.inl b, gx_r 383], t299, n, 0)) rfl (fun _ => rfl) rfl ?_
              by_cases hc201 : b = 0
              · refine gx_1t (c := .eq) rfl (by omega) hc201 rfl ?_
                refine ex_go (S := (80, [(0, gx_r 383), (1, .inl 0), (2, .inl b)], [gx_r 383, gx_r 383], t299, n, 0)) rfl (fun _ => rfl) rfl ?_
                obtain ⟨m202, k203, m202l, m202h⟩ := gx_in (c := 383) (i := 26) (lo := 0) (hi := 16) g299 rfl rfl rfl rfl
                refine gx_get rfl g299 rfl k203 rfl ?_
                refine gx_put rfl g299 rfl rfl (ai_in_h (by omega) (by omega) (by omega)) rfl (fun t304 g304 k304 e304 => ?_)
                have k205 : ai_hv t304 400 0 = some (.inl 1) := (e304 400 0 (by omega)).trans k200
                refine ex_go (S := (87, [(0, gx_r 383), (1, .inl 0), (2, .inl b)], [.inl 1], t304, n, 0)) rfl (fun _ => rfl) rfl ?_
                refine ex_ret (r := (some (.inl 1), t304, n, 0)) rfl (fun _ => rfl) ?_
                refine ⟨_, rfl, 1, t304, rfl, fun _ => ⟨rfl, fun i hi => ?_⟩, fun h => absurd h (by omega)⟩
                rcases (show i = 0 ∨ i = 1 ∨ i = 2 ∨ i = 3 by omega) with rfl | rfl | rfl | rfl
                · rw [if_pos rfl]; exact k205
                · rw [if_neg (by decide)]; exact (e304 400 1 (by omega)).trans ((e299 400 1 (by omega)).trans ((e268 400 1 (by omega)).trans ((e101 400 1 (by omega)).trans (hF 1 (by omega)))))
                · rw [if_neg (by decide)]; exact (e304 400 2 (by omega)).trans ((e299 400 2 (by omega)).trans ((e268 400 2 (by omega)).trans ((e101 400 2 (by omega)).trans (hF 2 (by omega)))))
                · rw [if_neg (by decide)]; exact (e304 400 3 (by omega)).trans ((e299 400 3 (by omega)).trans ((e268 400 3 (by omega)).trans ((e101 400 3 (by omega)).trans (hF 3 (by omega)))))
              · refine gx_1f (c := .eq) rfl (by omega) hc201 rfl ?_
                refine ex_go (S := (76, [(0, gx_r 383), (1, .inl 0), (2, .inl b)], [.inl 0, gx_r 383], t299, n, 0)) rfl (fun _ => rfl) rfl ?_
                refine ex_go (S := (83, [(0, gx_r 383), (1, .inl 0), (2, .inl b)], [.inl 0, gx_r 383], t299, n, 0)) rfl (fun _ => rfl) rfl ?_
                refine gx_put rfl g299 rfl rfl (ai_in_h (by omega) (by omega) (by omega)) rfl (fun t306 g306 k306 e306 => ?_)
                have k207 : ai_hv t306 400 0 = some (.inl 1) := (e306 400 0 (by omega)).trans k200
                refine ex_go (S := (87, [(0, gx_r 383), (1, .inl 0), (2, .inl b)], [.inl 1], t306, n, 0)) rfl (fun _ => rfl) rfl ?_
                refine ex_ret (r := (some (.inl 1), t306, n, 0)) rfl (fun _ => rfl) ?_
                refine ⟨_, rfl, 1, t306, rfl, fun _ => ⟨rfl, fun i hi => ?_⟩, fun h => absurd h (by omega)⟩
                rcases (show i = 0 ∨ i = 1 ∨ i = 2 ∨ i = 3 by omega) with rfl | rfl | rfl | rfl
                · rw [if_pos rfl]; exact k207
                · rw [if_neg (by decide)]; exact (e306 400 1 (by omega)).trans ((e299 400 1 (by omega)).trans ((e268 400 1 (by omega)).trans ((e101 400 1 (by omega)).trans (hF 1 (by omega)))))
                · rw [if_neg (by decide)]; exact (e306 400 2 (by omega)).trans ((e299 400 2 (by omega)).trans ((e268 400 2 (by omega)).trans ((e101 400 2 (by omega)).trans (hF 2 (by omega)))))
                · rw [if_neg (by decide)]; exact (e306 400 3 (by omega)).trans ((e299 400 3 (by omega)).trans ((e268 400 3 (by omega)).trans ((e101 400 3 (by omega)).trans (hF 3 (by omega)))))
        · refine ex_go (S := (30, [(0, gx_r 383), (1, .inl 1), (2, .inl b)], [gx_r 383], t101, n, 0)) rfl (fun _ => rfl) rfl ?_
          refine gx_ref (c := 400) rfl g101 rfl rfl rfl rfl ?_
          refine ex_go (S := (34, [(0, gx_r 383), (1, .inl 1), (2, .inl b)], [.inl 1, gx_r 400], t101, n, 0)) rfl (fun _ => rfl) rfl ?_
          refine ex_go (S := (35, [(0, gx_r 383), (1, .inl 1), (2, .inl b)], [.inl 1, .inl 1, gx_r 400], t101, n, 0)) rfl (fun _ => rfl) rfl ?_
          refine gx_apv (d := 2) rfl (fun _ => rfl) g101 rfl rfl rfl (show 1 < 4 from by omega) rfl (ai_in_h (by omega) (by omega) (by omega)) rfl (fun t308 g308 k308 e308 => ?_)
          refine ex_go (S := (37, [(0, gx_r 383), (1, .inl 1), (2, .inl b)], [gx_r 383], t308, n, 0)) rfl (fun _ => rfl) rfl ?_
          refine ex_go (S := (38, [(0, gx_r 383), (1, .inl 1), (2, .inl b)], [.inl b, gx_r 383], t308, n, 0)) rfl (fun _ => rfl) rfl ?_
          by_cases hc209 : b = 0
          · refine gx_1t (c := .eq) rfl (by omega) hc209 rfl ?_
            refine ex_go (S := (51, [(0, gx_r 383), (1, .inl 1), (2, .inl b)], [.inl 0, gx_r 383], t308, n, 0)) rfl (fun _ => rfl) rfl ?_
            refine ex_go (S := (52, [(0, gx_r 383), (1, .inl 1), (2, .inl b)], [.inl b, .inl 0, gx_r 383], t308, n, 0)) rfl (fun _ => rfl) rfl ?_
            by_cases hc210 : b = 0
            · refine gx_1t (c := .eq) rfl (by omega) hc210 rfl ?_
              refine ex_go (S := (61, [(0, gx_r 383), (1, .inl 1), (2, .inl b)], [.inl 45, .inl 0, gx_r 383], t308, n, 0)) rfl (fun _ => rfl) rfl ?_
              refine ex_go (S := (62, [(0, gx_r 383), (1, .inl 1), (2, .inl b)], [.inl 1, .inl 45, .inl 0, gx_r 383], t308, n, 0)) rfl (fun _ => rfl) rfl ?_
              refine ex_go (S := (63, [(0, gx_r 383), (1, .inl 1), (2, .inl b)], [.inl 1, .inl 1, .inl 45, .inl 0, gx_r 383], t308, n, 0)) rfl (fun _ => rfl) rfl ?_
              refine ex_go (S := (64, [(0, gx_r 383), (1, .inl 1), (2, .inl b)], [.inl 2, .inl 45, .inl 0, gx_r 383], t308, n, 0)) rfl (fun _ => rfl) rfl ?_
              refine ex_go (S := (65, [(0, gx_r 383), (1, .inl 1), (2, .inl b)], [.inl 90, .inl 0, gx_r 383], t308, n, 0)) rfl (fun _ => rfl) rfl ?_
              refine ex_go (S := (67, [(0, gx_r 383), (1, .inl 1), (2, .inl b)], [.inl 45, .inl 90, .inl 0, gx_r 383], t308, n, 0)) rfl (fun _ => rfl) rfl ?_
              obtain ⟨_, r311, t311, rfl, g311, e311, -⟩ := pe_copies d n (f := 0) (t := 90) (m := 45) g308 (by decide +kernel) (by decide) (by decide) (by decide) (by decide)
              refine gx_call0 rfl rfl g308 rfl rfl r311 rfl ?_
              have k212 : ai_hv t311 400 1 = some (.inl 1) := (e311 400 1 (by omega)).trans k308
              show en_ex _ _ _ _ (70, [(0, gx_r 383), (1, .inl 1), (2, .inl b)], [], t311, n, 0) _
              refine ex_go (S := (71, [(0, gx_r 383), (1, .inl 1), (2, .inl b)], [gx_r 383], t311, n, 0)) rfl (fun _ => rfl) rfl ?_
              refine ex_go (S := (72, [(0, gx_r 383), (1, .inl 1), (2, .inl b)], [.inl b, gx_r 383], t311, n, 0)) rfl (fun _ => rfl) rfl ?_
              by_cases hc213 : b = 0
              · refine gx_1t (c := .eq) rfl (by omega) hc213 rfl ?_
                refine ex_go (S := (80, [(0, gx_r 383), (1, .inl 1), (2, .inl b)], [gx_r 383, gx_r 383], t311, n, 0)) rfl (fun _ => rfl) rfl ?_
                obtain ⟨m214, k215, m214l, m214h⟩ := gx_in (c := 383) (i := 26) (lo := 0) (hi := 16) g311 rfl rfl rfl rfl
                refine gx_get rfl g311 rfl k215 rfl ?_
                refine gx_put rfl g311 rfl rfl (ai_in_h (by omega) (by omega) (by omega)) rfl (fun t316 g316 k316 e316 => ?_)
                have k217 : ai_hv t316 400 1 = some (.inl 1) := (e316 400 1 (by omega)).trans k212
                refine ex_go (S := (87, [(0, gx_r 383), (1, .inl 1), (2, .inl b)], [.inl 1], t316, n, 0)) rfl (fun _ => rfl) rfl ?_
                refine ex_ret (r := (some (.inl 1), t316, n, 0)) rfl (fun _ => rfl) ?_
                refine ⟨_, rfl, 1, t316, rfl, fun _ => ⟨rfl, fun i hi => ?_⟩, fun h => absurd h (by omega)⟩
                rcases (show i = 0 ∨ i = 1 ∨ i = 2 ∨ i = 3 by omega) with rfl | rfl | rfl | rfl
                · rw [if_neg (by decide)]; exact (e316 400 0 (by omega)).trans ((e311 400 0 (by omega)).trans ((e308 400 0 (by omega)).trans ((e101 400 0 (by omega)).trans (hF 0 (by omega)))))
                · rw [if_pos rfl]; exact k217
                · rw [if_neg (by decide)]; exact (e316 400 2 (by omega)).trans ((e311 400 2 (by omega)).trans ((e308 400 2 (by omega)).trans ((e101 400 2 (by omega)).trans (hF 2 (by omega)))))
                · rw [if_neg (by decide)]; exact (e316 400 3 (by omega)).trans ((e311 400 3 (by omega)).trans ((e308 400 3 (by omega)).trans ((e101 400 3 (by omega)).trans (hF 3 (by omega)))))
              · refine gx_1f (c := .eq) rfl (by omega) hc213 rfl ?_
                refine ex_go (S := (76, [(0, gx_r 383), (1, .inl 1), (2, .inl b)], [.inl 0, gx_r 383], t311, n, 0)) rfl (fun _ => rfl) rfl ?_
                refine ex_go (S := (83, [(0, gx_r 383), (1, .inl 1), (2, .inl b)], [.inl 0, gx_r 383], t311, n, 0)) rfl (fun _ => rfl) rfl ?_
                refine gx_put rfl g311 rfl rfl (ai_in_h (by omega) (by omega) (by omega)) rfl (fun t318 g318 k318 e318 => ?_)
                have k219 : ai_hv t318 400 1 = some (.inl 1) := (e318 400 1 (by omega)).trans k212
                refine ex_go (S := (87, [(0, gx_r 383), (1, .inl 1), (2, .inl b)], [.inl 1], t318, n, 0)) rfl (fun _ => rfl) rfl ?_
                refine ex_ret (r := (some (.inl 1), t318, n, 0)) rfl (fun _ => rfl) ?_
                refine ⟨_, rfl, 1, t318, rfl, fun _ => ⟨rfl, fun i hi => ?_⟩, fun h => absurd h (by omega)⟩
                rcases (show i = 0 ∨ i = 1 ∨ i = 2 ∨ i = 3 by omega) with rfl | rfl | rfl | rfl
                · rw [if_neg (by decide)]; exact (e318 400 0 (by omega)).trans ((e311 400 0 (by omega)).trans ((e308 400 0 (by omega)).trans ((e101 400 0 (by omega)).trans (hF 0 (by omega)))))
                · rw [if_pos rfl]; exact k219
                · rw [if_neg (by decide)]; exact (e318 400 2 (by omega)).trans ((e311 400 2 (by omega)).trans ((e308 400 2 (by omega)).trans ((e101 400 2 (by omega)).trans (hF 2 (by omega)))))
                · rw [if_neg (by decide)]; exact (e318 400 3 (by omega)).trans ((e311 400 3 (by omega)).trans ((e308 400 3 (by omega)).trans ((e101 400 3 (by omega)).trans (hF 3 (by omega)))))
            · refine gx_1f (c := .eq) rfl (by omega) hc210 rfl ?_
              refine ex_go (S := (56, [(0, gx_r 383), (1, .inl 1), (2, .inl b)], [.inl 0, .inl 0, gx_r 383], t308, n, 0)) rfl (fun _ => rfl) rfl ?_
              refine ex_go (S := (65, [(0, gx_r 383), (1, .inl 1), (2, .inl b)], [.inl 0, .inl 0, gx_r 383], t308, n, 0)) rfl (fun _ => rfl) rfl ?_
              refine ex_go (S := (67, [(0, gx_r 383), (1, .inl 1), (2, .inl b)], [.inl 45, .inl 0, .inl 0, gx_r 383], t308, n, 0)) rfl (fun _ => rfl) rfl ?_
              obtain ⟨_, r320, t320, rfl, g320, e320, -⟩ := pe_copies d n (f := 0) (t := 0) (m := 45) g308 (by decide +kernel) (by decide) (by decide) (by decide) (by decide)
              refine gx_call0 rfl rfl g308 rfl rfl r320 rfl ?_
              have k221 : ai_hv t320 400 1 = some (.inl 1) := (e320 400 1 (by omega)).trans k308
              show en_ex _ _ _ _ (70, [(0, gx_r 383), (1, .inl 1), (2, .inl b)], [], t320, n, 0) _
              refine ex_go (S := (71, [(0, gx_r 383), (1, .inl 1), (2, .inl b)], [gx_r 383], t320, n, 0)) rfl (fun _ => rfl) rfl ?_
              refine ex_go (S := (72, [(0, gx_r 383), (1, .inl 1), (2, .inl b)], [.inl b, gx_r 383], t320, n, 0)) rfl (fun _ => rfl) rfl ?_
              by_cases hc222 : b = 0
              · refine gx_1t (c := .eq) rfl (by omega) hc222 rfl ?_
                refine ex_go (S := (80, [(0, gx_r 383), (1, .inl 1), (2, .inl b)], [gx_r 383, gx_r 383], t320, n, 0)) rfl (fun _ => rfl) rfl ?_
                obtain ⟨m223, k224, m223l, m223h⟩ := gx_in (c := 383) (i := 26) (lo := 0) (hi := 16) g320 rfl rfl rfl rfl
                refine gx_get rfl g320 rfl k224 rfl ?_
                refine gx_put rfl g320 rfl rfl (ai_in_h (by omega) (by omega) (by omega)) rfl (fun t325 g325 k325 e325 => ?_)
                have k226 : ai_hv t325 400 1 = some (.inl 1) := (e325 400 1 (by omega)).trans k221
                refine ex_go (S := (87, [(0, gx_r 383), (1, .inl 1), (2, .inl b)], [.inl 1], t325, n, 0)) rfl (fun _ => rfl) rfl ?_
                refine ex_ret (r := (some (.inl 1), t325, n, 0)) rfl (fun _ => rfl) ?_
                refine ⟨_, rfl, 1, t325, rfl, fun _ => ⟨rfl, fun i hi => ?_⟩, fun h => absurd h (by omega)⟩
                rcases (show i = 0 ∨ i = 1 ∨ i = 2 ∨ i = 3 by omega) with rfl | rfl | rfl | rfl
                · rw [if_neg (by decide)]; exact (e325 400 0 (by omega)).trans ((e320 400 0 (by omega)).trans ((e308 400 0 (by omega)).trans ((e101 400 0 (by omega)).trans (hF 0 (by omega)))))
                · rw [if_pos rfl]; exact k226
                · rw [if_neg (by decide)]; exact (e325 400 2 (by omega)).trans ((e320 400 2 (by omega)).trans ((e308 400 2 (by omega)).trans ((e101 400 2 (by omega)).trans (hF 2 (by omega)))))
                · rw [if_neg (by decide)]; exact (e325 400 3 (by omega)).trans ((e320 400 3 (by omega)).trans ((e308 400 3 (by omega)).trans ((e101 400 3 (by omega)).trans (hF 3 (by omega)))))
              · refine gx_1f (c := .eq) rfl (by omega) hc222 rfl ?_
                refine ex_go (S := (76, [(0, gx_r 383), (1, .inl 1), (2, .inl b)], [.inl 0, gx_r 383], t320, n, 0)) rfl (fun _ => rfl) rfl ?_
                refine ex_go (S := (83, [(0, gx_r 383), (1, .inl 1), (2, .inl b)], [.inl 0, gx_r 383], t320, n, 0)) rfl (fun _ => rfl) rfl ?_
                refine gx_put rfl g320 rfl rfl (ai_in_h (by omega) (by omega) (by omega)) rfl (fun t327 g327 k327 e327 => ?_)
                have k228 : ai_hv t327 400 1 = some (.inl 1) := (e327 400 1 (by omega)).trans k221
                refine ex_go (S := (87, [(0, gx_r 383), (1, .inl 1), (2, .inl b)], [.inl 1], t327, n, 0)) rfl (fun _ => rfl) rfl ?_
                refine ex_ret (r := (some (.inl 1), t327, n, 0)) rfl (fun _ => rfl) ?_
                refine ⟨_, rfl, 1, t327, rfl, fun _ => ⟨rfl, fun i hi => ?_⟩, fun h => absurd h (by omega)⟩
                rcases (show i = 0 ∨ i = 1 ∨ i = 2 ∨ i = 3 by omega) with rfl | rfl | rfl | rfl
                · rw [if_neg (by decide)]; exact (e327 400 0 (by omega)).trans ((e320 400 0 (by omega)).trans ((e308 400 0 (by omega)).trans ((e101 400 0 (by omega)).trans (hF 0 (by omega)))))
                · rw [if_pos rfl]; exact k228
                · rw [if_neg (by decide)]; exact (e327 400 2 (by omega)).trans ((e320 400 2 (by omega)).trans ((e308 400 2 (by omega)).trans ((e101 400 2 (by omega)).trans (hF 2 (by omega)))))
                · rw [if_neg (by decide)]; exact (e327 400 3 (by omega)).trans ((e320 400 3 (by omega)).trans ((e308 400 3 (by omega)).trans ((e101 400 3 (by omega)).trans (hF 3 (by omega)))))
          · refine gx_1f (c := .eq) rfl (by omega) hc209 rfl ?_
            refine ex_go (S := (43, [(0, gx_r 383), (1, .inl 1), (2, .inl b)], [.inl 45, gx_r 383], t308, n, 0)) rfl (fun _ => rfl) rfl ?_
            refine ex_go (S := (44, [(0, gx_r 383), (1, .inl 1), (2, .inl b)], [.inl 1, .inl 45, gx_r 383], t308, n, 0)) rfl (fun _ => rfl) rfl ?_
            refine ex_go (S := (45, [(0, gx_r 383), (1, .inl 1), (2, .inl b)], [.inl 1, .inl 1, .inl 45, gx_r 383], t308, n, 0)) rfl (fun _ => rfl) rfl ?_
            refine ex_go (S := (46, [(0, gx_r 383), (1, .inl 1), (2, .inl b)], [.inl 2, .inl 45, gx_r 383], t308, n, 0)) rfl (fun _ => rfl) rfl ?_
            refine ex_go (S := (47, [(0, gx_r 383), (1, .inl 1), (2, .inl b)], [.inl 90, gx_r 383], t308, n, 0)) rfl (fun _ => rfl) rfl ?_
            refine ex_go (S := (51, [(0, gx_r 383), (1, .inl 1), (2, .inl b)], [.inl 90, gx_r 383], t308, n, 0)) rfl (fun _ => rfl) rfl ?_
            refine ex_go (S := (52, [(0, gx_r 383), (1, .inl 1), (2, .inl b)], [.inl b, .inl 90, gx_r 383], t308, n, 0)) rfl (fun _ => rfl) rfl ?_
            by_cases hc229 : b = 0
            · refine gx_1t (c := .eq) rfl (by omega) hc229 rfl ?_
              refine ex_go (S := (61, [(0, gx_r 383), (1, .inl 1), (2, .inl b)], [.inl 45, .inl 90, gx_r 383], t308, n, 0)) rfl (fun _ => rfl) rfl ?_
              refine ex_go (S := (62, [(0, gx_r 383), (1, .inl 1), (2, .inl b)], [.inl 1, .inl 45, .inl 90, gx_r 383], t308, n, 0)) rfl (fun _ => rfl) rfl ?_
              refine ex_go (S := (63, [(0, gx_r 383), (1, .inl 1), (2, .inl b)], [.inl 1, .inl 1, .inl 45, .inl 90, gx_r 383], t308, n, 0)) rfl (fun _ => rfl) rfl ?_
              refine ex_go (S := (64, [(0, gx_r 383), (1, .inl 1), (2, .inl b)], [.inl 2, .inl 45, .inl 90, gx_r 383], t308, n, 0)) rfl (fun _ => rfl) rfl ?_
              refine ex_go (S := (65, [(0, gx_r 383), (1, .inl 1), (2, .inl b)], [.inl 90, .inl 90, gx_r 383], t308, n, 0)) rfl (fun _ => rfl) rfl ?_
              refine ex_go (S := (67, [(0, gx_r 383), (1, .inl 1), (2, .inl b)], [.inl 45, .inl 90, .inl 90, gx_r 383], t308, n, 0)) rfl (fun _ => rfl) rfl ?_
              obtain ⟨_, r330, t330, rfl, g330, e330, -⟩ := pe_copies d n (f := 90) (t := 90) (m := 45) g308 (by decide +kernel) (by decide) (by decide) (by decide) (by decide)
              refine gx_call0 rfl rfl g308 rfl rfl r330 rfl ?_
              have k231 : ai_hv t330 400 1 = some (.inl 1) := (e330 400 1 (by omega)).trans k308
              show en_ex _ _ _ _ (70, [(0, gx_r 383), (1, .inl 1), (2, .inl b)], [], t330, n, 0) _
              refine ex_go (S := (71, [(0, gx_r 383), (1, .inl 1), (2, .inl b)], [gx_r 383], t330, n, 0)) rfl (fun _ => rfl) rfl ?_
              refine ex_go (S := (72, [(0, gx_r 383), (1, .inl 1), (2, .inl b)], [.inl b, gx_r 383], t330, n, 0)) rfl (fun _ => rfl) rfl ?_
              by_cases hc232 : b = 0
              · refine gx_1t (c := .eq) rfl (by omega) hc232 rfl ?_
                refine ex_go (S := (80, [(0, gx_r 383), (1, .inl 1), (2, .inl b)], [gx_r 383, gx_r 383], t330, n, 0)) rfl (fun _ => rfl) rfl ?_
                obtain ⟨m233, k234, m233l, m233h⟩ := gx_in (c := 383) (i := 26) (lo := 0) (hi := 16) g330 rfl rfl rfl rfl
                refine gx_get rfl g330 rfl k234 rfl ?_
                refine gx_put rfl g330 rfl rfl (ai_in_h (by omega) (by omega) (by omega)) rfl (fun t335 g335 k335 e335 => ?_)
                have k236 : ai_hv t335 400 1 = some (.inl 1) := (e335 400 1 (by omega)).trans k231
                refine ex_go (S := (87, [(0, gx_r 383), (1, .inl 1), (2, .inl b)], [.inl 1], t335, n, 0)) rfl (fun _ => rfl) rfl ?_
                refine ex_ret (r := (some (.inl 1), t335, n, 0)) rfl (fun _ => rfl) ?_
                refine ⟨_, rfl, 1, t335, rfl, fun _ => ⟨rfl, fun i hi => ?_⟩, fun h => absurd h (by omega)⟩
                rcases (show i = 0 ∨ i = 1 ∨ i = 2 ∨ i = 3 by omega) with rfl | rfl | rfl | rfl
                · rw [if_neg (by decide)]; exact (e335 400 0 (by omega)).trans ((e330 400 0 (by omega)).trans ((e308 400 0 (by omega)).trans ((e101 400 0 (by omega)).trans (hF 0 (by omega)))))
                · rw [if_pos rfl]; exact k236
                · rw [if_neg (by decide)]; exact (e335 400 2 (by omega)).trans ((e330 400 2 (by omega)).trans ((e308 400 2 (by omega)).trans ((e101 400 2 (by omega)).trans (hF 2 (by omega)))))
                · rw [if_neg (by decide)]; exact (e335 400 3 (by omega)).trans ((e330 400 3 (by omega)).trans ((e308 400 3 (by omega)).trans ((e101 400 3 (by omega)).trans (hF 3 (by omega)))))
              · refine gx_1f (c := .eq) rfl (by omega) hc232 rfl ?_
                refine ex_go (S := (76, [(0, gx_r 383), (1, .inl 1), (2, .inl b)], [.inl 0, gx_r 383], t330, n, 0)) rfl (fun _ => rfl) rfl ?_
                refine ex_go (S := (83, [(0, gx_r 383), (1, .inl 1), (2, .inl b)], [.inl 0, gx_r 383], t330, n, 0)) rfl (fun _ => rfl) rfl ?_
                refine gx_put rfl g330 rfl rfl (ai_in_h (by omega) (by omega) (by omega)) rfl (fun t337 g337 k337 e337 => ?_)
                have k238 : ai_hv t337 400 1 = some (.inl 1) := (e337 400 1 (by omega)).trans k231
                refine ex_go (S := (87, [(0, gx_r 383), (1, .inl 1), (2, .inl b)], [.inl 1], t337, n, 0)) rfl (fun _ => rfl) rfl ?_
                refine ex_ret (r := (some (.inl 1), t337, n, 0)) rfl (fun _ => rfl) ?_
                refine ⟨_, rfl, 1, t337, rfl, fun _ => ⟨rfl, fun i hi => ?_⟩, fun h => absurd h (by omega)⟩
                rcases (show i = 0 ∨ i = 1 ∨ i = 2 ∨ i = 3 by omega) with rfl | rfl | rfl | rfl
                · rw [if_neg (by decide)]; exact (e337 400 0 (by omega)).trans ((e330 400 0 (by omega)).trans ((e308 400 0 (by omega)).trans ((e101 400 0 (by omega)).trans (hF 0 (by omega)))))
                · rw [if_pos rfl]; exact k238
                · rw [if_neg (by decide)]; exact (e337 400 2 (by omega)).trans ((e330 400 2 (by omega)).trans ((e308 400 2 (by omega)).trans ((e101 400 2 (by omega)).trans (hF 2 (by omega)))))
                · rw [if_neg (by decide)]; exact (e337 400 3 (by omega)).trans ((e330 400 3 (by omega)).trans ((e308 400 3 (by omega)).trans ((e101 400 3 (by omega)).trans (hF 3 (by omega)))))
            · refine gx_1f (c := .eq) rfl (by omega) hc229 rfl ?_
              refine ex_go (S := (56, [(0, gx_r 383), (1, .inl 1), (2, .inl b)], [.inl 0, .inl 90, gx_r 383], t308, n, 0)) rfl (fun _ => rfl) rfl ?_
              refine ex_go (S := (65, [(0, gx_r 383), (1, .inl 1), (2, .inl b)], [.inl 0, .inl 90, gx_r 383], t308, n, 0)) rfl (fun _ => rfl) rfl ?_
              refine ex_go (S := (67, [(0, gx_r 383), (1, .inl 1), (2, .inl b)], [.inl 45, .inl 0, .inl 90, gx_r 383], t308, n, 0)) rfl (fun _ => rfl) rfl ?_
              obtain ⟨_, r339, t339, rfl, g339, e339, -⟩ := pe_copies d n (f := 90) (t := 0) (m := 45) g308 (by decide +kernel) (by decide) (by decide) (by decide) (by decide)
              refine gx_call0 rfl rfl g308 rfl rfl r339 rfl ?_
              have k240 : ai_hv t339 400 1 = some (.inl 1) := (e339 400 1 (by omega)).trans k308
              show en_ex _ _ _ _ (70, [(0, gx_r 383), (1, .inl 1), (2, .inl b)], [], t339, n, 0) _
              refine ex_go (S := (71, [(0, gx_r 383), (1, .inl 1), (2, .inl b)], [gx_r 383], t339, n, 0)) rfl (fun _ => rfl) rfl ?_
              refine ex_go (S := (72, [(0, gx_r 383), (1, .inl 1), (2, .inl b)], [.inl b, gx_r 383], t339, n, 0)) rfl (fun _ => rfl) rfl ?_
              by_cases hc241 : b = 0
              · refine gx_1t (c := .eq) rfl (by omega) hc241 rfl ?_
                refine ex_go (S := (80, [(0, gx_r 383), (1, .inl 1), (2, .inl b)], [gx_r 383, gx_r 383], t339, n, 0)) rfl (fun _ => rfl) rfl ?_
                obtain ⟨m242, k243, m242l, m242h⟩ := gx_in (c := 383) (i := 26) (lo := 0) (hi := 16) g339 rfl rfl rfl rfl
                refine gx_get rfl g339 rfl k243 rfl ?_
                refine gx_put rfl g339 rfl rfl (ai_in_h (by omega) (by omega) (by omega)) rfl (fun t344 g344 k344 e344 => ?_)
                have k245 : ai_hv t344 400 1 = some (.inl 1) := (e344 400 1 (by omega)).trans k240
                refine ex_go (S := (87, [(0, gx_r 383), (1, .inl 1), (2, .inl b)], [.inl 1], t344, n, 0)) rfl (fun _ => rfl) rfl ?_
                refine ex_ret (r := (some (.inl 1), t344, n, 0)) rfl (fun _ => rfl) ?_
                refine ⟨_, rfl, 1, t344, rfl, fun _ => ⟨rfl, fun i hi => ?_⟩, fun h => absurd h (by omega)⟩
                rcases (show i = 0 ∨ i = 1 ∨ i = 2 ∨ i = 3 by omega) with rfl | rfl | rfl | rfl
                · rw [if_neg (by decide)]; exact (e344 400 0 (by omega)).trans ((e339 400 0 (by omega)).trans ((e308 400 0 (by omega)).trans ((e101 400 0 (by omega)).trans (hF 0 (by omega)))))
                · rw [if_pos rfl]; exact k245
                · rw [if_neg (by decide)]; exact (e344 400 2 (by omega)).trans ((e339 400 2 (by omega)).trans ((e308 400 2 (by omega)).trans ((e101 400 2 (by omega)).trans (hF 2 (by omega)))))
                · rw [if_neg (by decide)]; exact (e344 400 3 (by omega)).trans ((e339 400 3 (by omega)).trans ((e308 400 3 (by omega)).trans ((e101 400 3 (by omega)).trans (hF 3 (by omega)))))
              · refine gx_1f (c := .eq) rfl (by omega) hc241 rfl ?_
                refine ex_go (S := (76, [(0, gx_r 383), (1, .inl 1), (2, .inl b)], [.inl 0, gx_r 383], t339, n, 0)) rfl (fun _ => rfl) rfl ?_
                refine ex_go (S := (83, [(0, gx_r 383), (1, .inl 1), (2, .inl b)], [.inl 0, gx_r 383], t339, n, 0)) rfl (fun _ => rfl) rfl ?_
                refine gx_put rfl g339 rfl rfl (ai_in_h (by omega) (by omega) (by omega)) rfl (fun t346 g346 k346 e346 => ?_)
                have k247 : ai_hv t346 400 1 = some (.inl 1) := (e346 400 1 (by omega)).trans k240
                refine ex_go (S := (87, [(0, gx_r 383), (1, .inl 1), (2, .inl b)], [.inl 1], t346, n, 0)) rfl (fun _ => rfl) rfl ?_
                refine ex_ret (r := (some (.inl 1), t346, n, 0)) rfl (fun _ => rfl) ?_
                refine ⟨_, rfl, 1, t346, rfl, fun _ => ⟨rfl, fun i hi => ?_⟩, fun h => absurd h (by omega)⟩
                rcases (show i = 0 ∨ i = 1 ∨ i = 2 ∨ i = 3 by omega) with rfl | rfl | rfl | rfl
                · rw [if_neg (by decide)]; exact (e346 400 0 (by omega)).trans ((e339 400 0 (by omega)).trans ((e308 400 0 (by omega)).trans ((e101 400 0 (by omega)).trans (hF 0 (by omega)))))
                · rw [if_pos rfl]; exact k247
                · rw [if_neg (by decide)]; exact (e346 400 2 (by omega)).trans ((e339 400 2 (by omega)).trans ((e308 400 2 (by omega)).trans ((e101 400 2 (by omega)).trans (hF 2 (by omega)))))
                · rw [if_neg (by decide)]; exact (e346 400 3 (by omega)).trans ((e339 400 3 (by omega)).trans ((e308 400 3 (by omega)).trans ((e101 400 3 (by omega)).trans (hF 3 (by omega)))))
        · refine ex_go (S := (30, [(0, gx_r 383), (1, .inl 2), (2, .inl b)], [gx_r 383], t101, n, 0)) rfl (fun _ => rfl) rfl ?_
          refine gx_ref (c := 400) rfl g101 rfl rfl rfl rfl ?_
          refine ex_go (S := (34, [(0, gx_r 383), (1, .inl 2), (2, .inl b)], [.inl 2, gx_r 400], t101, n, 0)) rfl (fun _ => rfl) rfl ?_
          refine ex_go (S := (35, [(0, gx_r 383), (1, .inl 2), (2, .inl b)], [.inl 1, .inl 2, gx_r 400], t101, n, 0)) rfl (fun _ => rfl) rfl ?_
          refine gx_apv (d := 2) rfl (fun _ => rfl) g101 rfl rfl rfl (show 2 < 4 from by omega) rfl (ai_in_h (by omega) (by omega) (by omega)) rfl (fun t348 g348 k348 e348 => ?_)
          refine ex_go (S := (37, [(0, gx_r 383), (1, .inl 2), (2, .inl b)], [gx_r 383], t348, n, 0)) rfl (fun _ => rfl) rfl ?_
          refine ex_go (S := (38, [(0, gx_r 383), (1, .inl 2), (2, .inl b)], [.inl b, gx_r 383], t348, n, 0)) rfl (fun _ => rfl) rfl ?_
          by_cases hc249 : b = 0
          · refine gx_1t (c := .eq) rfl (by omega) hc249 rfl ?_
            refine ex_go (S := (51, [(0, gx_r 383), (1, .inl 2), (2, .inl b)], [.inl 0, gx_r 383], t348, n, 0)) rfl (fun _ => rfl) rfl ?_
            refine ex_go (S := (52, [(0, gx_r 383), (1, .inl 2), (2, .inl b)], [.inl b, .inl 0, gx_r 383], t348, n, 0)) rfl (fun _ => rfl) rfl ?_
            by_cases hc250 : b = 0
            · refine gx_1t (c := .eq) rfl (by omega) hc250 rfl ?_
              refine ex_go (S := (61, [(0, gx_r 383), (1, .inl 2), (2, .inl b)], [.inl 45, .inl 0, gx_r 383], t348, n, 0)) rfl (fun _ => rfl) rfl ?_
              refine ex_go (S := (62, [(0, gx_r 383), (1, .inl 2), (2, .inl b)], [.inl 1, .inl 45, .inl 0, gx_r 383], t348, n, 0)) rfl (fun _ => rfl) rfl ?_
              refine ex_go (S := (63, [(0, gx_r 383), (1, .inl 2), (2, .inl b)], [.inl 2, .inl 1, .inl 45, .inl 0, gx_r 383], t348, n, 0)) rfl (fun _ => rfl) rfl ?_
              refine ex_go (S := (64, [(0, gx_r 383), (1, .inl 2), (2, .inl b)], [.inl 3, .inl 45, .inl 0, gx_r 383], t348, n, 0)) rfl (fun _ => rfl) rfl ?_
              refine ex_go (S := (65, [(0, gx_r 383), (1, .inl 2), (2, .inl b)], [.inl 135, .inl 0, gx_r 383], t348, n, 0)) rfl (fun _ => rfl) rfl ?_
              refine ex_go (S := (67, [(0, gx_r 383), (1, .inl 2), (2, .inl b)], [.inl 45, .inl 135, .inl 0, gx_r 383], t348, n, 0)) rfl (fun _ => rfl) rfl ?_
              obtain ⟨_, r351, t351, rfl, g351, e351, -⟩ := pe_copies d n (f := 0) (t := 135) (m := 45) g348 (by decide +kernel) (by decide) (by decide) (by decide) (by decide)
              refine gx_call0 rfl rfl g348 rfl rfl r351 rfl ?_
              have k252 : ai_hv t351 400 2 = some (.inl 1) := (e351 400 2 (by omega)).trans k348
              show en_ex _ _ _ _ (70, [(0, gx_r 383), (1, .inl 2), (2, .inl b)], [], t351, n, 0) _
              refine ex_go (S := (71, [(0, gx_r 383), (1, .inl 2), (2, .inl b)], [gx_r 383], t351, n, 0)) rfl (fun _ => rfl) rfl ?_
              refine ex_go (S := (72, [(0, gx_r 383), (1, .inl 2), (2, .inl b)], [.inl b, gx_r 383], t351, n, 0)) rfl (fun _ => rfl) rfl ?_
              by_cases hc253 : b = 0
              · refine gx_1t (c := .eq) rfl (by omega) hc253 rfl ?_
                refine ex_go (S := (80, [(0, gx_r 383), (1, .inl 2), (2, .inl b)], [gx_r 383, gx_r 383], t351, n, 0)) rfl (fun _ => rfl) rfl ?_
                obtain ⟨m254, k255, m254l, m254h⟩ := gx_in (c := 383) (i := 26) (lo := 0) (hi := 16) g351 rfl rfl rfl rfl
                refine gx_get rfl g351 rfl k255 rfl ?_
                refine gx_put rfl g351 rfl rfl (ai_in_h (by omega) (by omega) (by omega)) rfl (fun t356 g356 k356 e356 => ?_)
                have k257 : ai_hv t356 400 2 = some (.inl 1) := (e356 400 2 (by omega)).trans k252
                refine ex_go (S := (87, [(0, gx_r 383), (1, .inl 2), (2, .inl b)], [.inl 1], t356, n, 0)) rfl (fun _ => rfl) rfl ?_
                refine ex_ret (r := (some (.inl 1), t356, n, 0)) rfl (fun _ => rfl) ?_
                refine ⟨_, rfl, 1, t356, rfl, fun _ => ⟨rfl, fun i hi => ?_⟩, fun h => absurd h (by omega)⟩
                rcases (show i = 0 ∨ i = 1 ∨ i = 2 ∨ i = 3 by omega) with rfl | rfl | rfl | rfl
                · rw [if_neg (by decide)]; exact (e356 400 0 (by omega)).trans ((e351 400 0 (by omega)).trans ((e348 400 0 (by omega)).trans ((e101 400 0 (by omega)).trans (hF 0 (by omega)))))
                · rw [if_neg (by decide)]; exact (e356 400 1 (by omega)).trans ((e351 400 1 (by omega)).trans ((e348 400 1 (by omega)).trans ((e101 400 1 (by omega)).trans (hF 1 (by omega)))))
                · rw [if_pos rfl]; exact k257
                · rw [if_neg (by decide)]; exact (e356 400 3 (by omega)).trans ((e351 400 3 (by omega)).trans ((e348 400 3 (by omega)).trans ((e101 400 3 (by omega)).trans (hF 3 (by omega)))))
              · refine gx_1f (c := .eq) rfl (by omega) hc253 rfl ?_
                refine ex_go (S := (76, [(0, gx_r 383), (1, .inl 2), (2, .inl b)], [.inl 0, gx_r 383], t351, n, 0)) rfl (fun _ => rfl) rfl ?_
                refine ex_go (S := (83, [(0, gx_r 383), (1, .inl 2), (2, .inl b)], [.inl 0, gx_r 383], t351, n, 0)) rfl (fun _ => rfl) rfl ?_
                refine gx_put rfl g351 rfl rfl (ai_in_h (by omega) (by omega) (by omega)) rfl (fun t358 g358 k358 e358 => ?_)
                have k259 : ai_hv t358 400 2 = some (.inl 1) := (e358 400 2 (by omega)).trans k252
                refine ex_go (S := (87, [(0, gx_r 383), (1, .inl 2), (2, .inl b)], [.inl 1], t358, n, 0)) rfl (fun _ => rfl) rfl ?_
                refine ex_ret (r := (some (.inl 1), t358, n, 0)) rfl (fun _ => rfl) ?_
                refine ⟨_, rfl, 1, t358, rfl, fun _ => ⟨rfl, fun i hi => ?_⟩, fun h => absurd h (by omega)⟩
                rcases (show i = 0 ∨ i = 1 ∨ i = 2 ∨ i = 3 by omega) with rfl | rfl | rfl | rfl
                · rw [if_neg (by decide)]; exact (e358 400 0 (by omega)).trans ((e351 400 0 (by omega)).trans ((e348 400 0 (by omega)).trans ((e101 400 0 (by omega)).trans (hF 0 (by omega)))))
                · rw [if_neg (by decide)]; exact (e358 400 1 (by omega)).trans ((e351 400 1 (by omega)).trans ((e348 400 1 (by omega)).trans ((e101 400 1 (by omega)).trans (hF 1 (by omega)))))
                · rw [if_pos rfl]; exact k259
                · rw [if_neg (by decide)]; exact (e358 400 3 (by omega)).trans ((e351 400 3 (by omega)).trans ((e348 400 3 (by omega)).trans ((e101 400 3 (by omega)).trans (hF 3 (by omega)))))
            · refine gx_1f (c := .eq) rfl (by omega) hc250 rfl ?_
              refine ex_go (S := (56, [(0, gx_r 383), (1, .inl 2), (2, .inl b)], [.inl 0, .inl 0, gx_r 383], t348, n, 0)) rfl (fun _ => rfl) rfl ?_
              refine ex_go (S := (65, [(0, gx_r 383), (1, .inl 2), (2, .inl b)], [.inl 0, .inl 0, gx_r 383], t348, n, 0)) rfl (fun _ => rfl) rfl ?_
              refine ex_go (S := (67, [(0, gx_r 383), (1, .inl 2), (2, .inl b)], [.inl 45, .inl 0, .inl 0, gx_r 383], t348, n, 0)) rfl (fun _ => rfl) rfl ?_
              obtain ⟨_, r360, t360, rfl, g360, e360, -⟩ := pe_copies d n (f := 0) (t := 0) (m := 45) g348 (by decide +kernel) (by decide) (by decide) (by decide) (by decide)
              refine gx_call0 rfl rfl g348 rfl rfl r360 rfl ?_
              have k261 : ai_hv t360 400 2 = some (.inl 1) := (e360 400 2 (by omega)).trans k348
              show en_ex _ _ _ _ (70, [(0, gx_r 383), (1, .inl 2), (2, .inl b)], [], t360, n, 0) _
              refine ex_go (S := (71, [(0, gx_r 383), (1, .inl 2), (2, .inl b)], [gx_r 383], t360, n, 0)) rfl (fun _ => rfl) rfl ?_
              refine ex_go (S := (72, [(0, gx_r 383), (1, .inl 2), (2, .inl b)], [.inl b, gx_r 383], t360, n, 0)) rfl (fun _ => rfl) rfl ?_
              by_cases hc262 : b = 0
              · refine gx_1t (c := .eq) rfl (by omega) hc262 rfl ?_
                refine ex_go (S := (80, [(0, gx_r 383), (1, .inl 2), (2, .inl b)], [gx_r 383, gx_r 383], t360, n, 0)) rfl (fun _ => rfl) rfl ?_
                obtain ⟨m263, k264, m263l, m263h⟩ := gx_in (c := 383) (i := 26) (lo := 0) (hi := 16) g360 rfl rfl rfl rfl
                refine gx_get rfl g360 rfl k264 rfl ?_
                refine gx_put rfl g360 rfl rfl (ai_in_h (by omega) (by omega) (by omega)) rfl (fun t365 g365 k365 e365 => ?_)
                have k266 : ai_hv t365 400 2 = some (.inl 1) := (e365 400 2 (by omega)).trans k261
                refine ex_go (S := (87, [(0, gx_r 383), (1, .inl 2), (2, .inl b)], [.inl 1], t365, n, 0)) rfl (fun _ => rfl) rfl ?_
                refine ex_ret (r := (some (.inl 1), t365, n, 0)) rfl (fun _ => rfl) ?_
                refine ⟨_, rfl, 1, t365, rfl, fun _ => ⟨rfl, fun i hi => ?_⟩, fun h => absurd h (by omega)⟩
                rcases (show i = 0 ∨ i = 1 ∨ i = 2 ∨ i = 3 by omega) with rfl | rfl | rfl | rfl
                · rw [if_neg (by decide)]; exact (e365 400 0 (by omega)).trans ((e360 400 0 (by omega)).trans ((e348 400 0 (by omega)).trans ((e101 400 0 (by omega)).trans (hF 0 (by omega)))))
                · rw [if_neg (by decide)]; exact (e365 400 1 (by omega)).trans ((e360 400 1 (by omega)).trans ((e348 400 1 (by omega)).trans ((e101 400 1 (by omega)).trans (hF 1 (by omega)))))
                · rw [if_pos rfl]; exact k266
                · rw [if_neg (by decide)]; exact (e365 400 3 (by omega)).trans ((e360 400 3 (by omega)).trans ((e348 400 3 (by omega)).trans ((e101 400 3 (by omega)).trans (hF 3 (by omega)))))
              · refine gx_1f (c := .eq) rfl (by omega) hc262 rfl ?_
                refine ex_go (S := (76, [(0, gx_r 383), (1, .inl 2), (2, .inl b)], [.inl 0, gx_r 383], t360, n, 0)) rfl (fun _ => rfl) rfl ?_
                refine ex_go (S := (83, [(0, gx_r 383), (1, .inl 2), (2, .inl b)], [.inl 0, gx_r 383], t360, n, 0)) rfl (fun _ => rfl) rfl ?_
                refine gx_put rfl g360 rfl rfl (ai_in_h (by omega) (by omega) (by omega)) rfl (fun t367 g367 k367 e367 => ?_)
                have k268 : ai_hv t367 400 2 = some (.inl 1) := (e367 400 2 (by omega)).trans k261
                refine ex_go (S := (87, [(0, gx_r 383), (1, .inl 2), (2, .inl b)], [.inl 1], t367, n, 0)) rfl (fun _ => rfl) rfl ?_
                refine ex_ret (r := (some (.inl 1), t367, n, 0)) rfl (fun _ => rfl) ?_
                refine ⟨_, rfl, 1, t367, rfl, fun _ => ⟨rfl, fun i hi => ?_⟩, fun h => absurd h (by omega)⟩
                rcases (show i = 0 ∨ i = 1 ∨ i = 2 ∨ i = 3 by omega) with rfl | rfl | rfl | rfl
                · rw [if_neg (by decide)]; exact (e367 400 0 (by omega)).trans ((e360 400 0 (by omega)).trans ((e348 400 0 (by omega)).trans ((e101 400 0 (by omega)).trans (hF 0 (by omega)))))
                · rw [if_neg (by decide)]; exact (e367 400 1 (by omega)).trans ((e360 400 1 (by omega)).trans ((e348 400 1 (by omega)).trans ((e101 400 1 (by omega)).trans (hF 1 (by omega)))))
                · rw [if_pos rfl]; exact k268
                · rw [if_neg (by decide)]; exact (e367 400 3 (by omega)).trans ((e360 400 3 (by omega)).trans ((e348 400 3 (by omega)).trans ((e101 400 3 (by omega)).trans (hF 3 (by omega)))))
          · refine gx_1f (c := .eq) rfl (by omega) hc249 rfl ?_
            refine ex_go (S := (43, [(0, gx_r 383), (1, .inl 2), (2, .inl b)], [.inl 45, gx_r 383], t348, n, 0)) rfl (fun _ => rfl) rfl ?_
            refine ex_go (S := (44, [(0, gx_r 383), (1, .inl 2), (2, .inl b)], [.inl 1, .inl 45, gx_r 383], t348, n, 0)) rfl (fun _ => rfl) rfl ?_
            refine ex_go (S := (45, [(0, gx_r 383), (1, .inl 2), (2, .inl b)], [.inl 2, .inl 1, .inl 45, gx_r 383], t348, n, 0)) rfl (fun _ => rfl) rfl ?_
            refine ex_go (S := (46, [(0, gx_r 383), (1, .inl 2), (2, .inl b)], [.inl 3, .inl 45, gx_r 383], t348, n, 0)) rfl (fun _ => rfl) rfl ?_
            refine ex_go (S := (47, [(0, gx_r 383), (1, .inl 2), (2, .inl b)], [.inl 135, gx_r 383], t348, n, 0)) rfl (fun _ => rfl) rfl ?_
            refine ex_go (S := (51, [(0, gx_r 383), (1, .inl 2), (2, .inl b)], [.inl 135, gx_r 383], t348, n, 0)) rfl (fun _ => rfl) rfl ?_
            refine ex_go (S := (52, [(0, gx_r 383), (1, .inl 2), (2, .inl b)], [.inl b, .inl 135, gx_r 383], t348, n, 0)) rfl (fun _ => rfl) rfl ?_
            by_cases hc269 : b = 0
            · refine gx_1t (c := .eq) rfl (by omega) hc269 rfl ?_
              refine ex_go (S := (61, [(0, gx_r 383), (1, .inl 2), (2, .inl b)], [.inl 45, .inl 135, gx_r 383], t348, n, 0)) rfl (fun _ => rfl) rfl ?_
              refine ex_go (S := (62, [(0, gx_r 383), (1, .inl 2), (2, .inl b)], [.inl 1, .inl 45, .inl 135, gx_r 383], t348, n, 0)) rfl (fun _ => rfl) rfl ?_
              refine ex_go (S := (63, [(0, gx_r 383), (1, .inl 2), (2, .inl b)], [.inl 2, .inl 1, .inl 45, .inl 135, gx_r 383], t348, n, 0)) rfl (fun _ => rfl) rfl ?_
              refine ex_go (S := (64, [(0, gx_r 383), (1, .inl 2), (2, .inl b)], [.inl 3, .inl 45, .inl 135, gx_r 383], t348, n, 0)) rfl (fun _ => rfl) rfl ?_
              refine ex_go (S := (65, [(0, gx_r 383), (1, .inl 2), (2, .inl b)], [.inl 135, .inl 135, gx_r 383], t348, n, 0)) rfl (fun _ => rfl) rfl ?_
              refine ex_go (S := (67, [(0, gx_r 383), (1, .inl 2), (2, .inl b)], [.inl 45, .inl 135, .inl 135, gx_r 383], t348, n, 0)) rfl (fun _ => rfl) rfl ?_
              obtain ⟨_, r370, t370, rfl, g370, e370, -⟩ := pe_copies d n (f := 135) (t := 135) (m := 45) g348 (by decide +kernel) (by decide) (by decide) (by decide) (by decide)
              refine gx_call0 rfl rfl g348 rfl rfl r370 rfl ?_
              have k271 : ai_hv t370 400 2 = some (.inl 1) := (e370 400 2 (by omega)).trans k348
              show en_ex _ _ _ _ (70, [(0, gx_r 383), (1, .inl 2), (2, .inl b)], [], t370, n, 0) _
              refine ex_go (S := (71, [(0, gx_r 383), (1, .inl 2), (2, .inl b)], [gx_r 383], t370, n, 0)) rfl (fun _ => rfl) rfl ?_
              refine ex_go (S := (72, [(0, gx_r 383), (1, .inl 2), (2, .inl b)], [.inl b, gx_r 383], t370, n, 0)) rfl (fun _ => rfl) rfl ?_
              by_cases hc272 : b = 0
              · refine gx_1t (c := .eq) rfl (by omega) hc272 rfl ?_
                refine ex_go (S := (80, [(0, gx_r 383), (1, .inl 2), (2, .inl b)], [gx_r 383, gx_r 383], t370, n, 0)) rfl (fun _ => rfl) rfl ?_
                obtain ⟨m273, k274, m273l, m273h⟩ := gx_in (c := 383) (i := 26) (lo := 0) (hi := 16) g370 rfl rfl rfl rfl
                refine gx_get rfl g370 rfl k274 rfl ?_
                refine gx_put rfl g370 rfl rfl (ai_in_h (by omega) (by omega) (by omega)) rfl (fun t375 g375 k375 e375 => ?_)
                have k276 : ai_hv t375 400 2 = some (.inl 1) := (e375 400 2 (by omega)).trans k271
                refine ex_go (S := (87, [(0, gx_r 383), (1, .inl 2), (2, .inl b)], [.inl 1], t375, n, 0)) rfl (fun _ => rfl) rfl ?_
                refine ex_ret (r := (some (.inl 1), t375, n, 0)) rfl (fun _ => rfl) ?_
                refine ⟨_, rfl, 1, t375, rfl, fun _ => ⟨rfl, fun i hi => ?_⟩, fun h => absurd h (by omega)⟩
                rcases (show i = 0 ∨ i = 1 ∨ i = 2 ∨ i = 3 by omega) with rfl | rfl | rfl | rfl
                · rw [if_neg (by decide)]; exact (e375 400 0 (by omega)).trans ((e370 400 0 (by omega)).trans ((e348 400 0 (by omega)).trans ((e101 400 0 (by omega)).trans (hF 0 (by omega)))))
                · rw [if_neg (by decide)]; exact (e375 400 1 (by omega)).trans ((e370 400 1 (by omega)).trans ((e348 400 1 (by omega)).trans ((e101 400 1 (by omega)).trans (hF 1 (by omega)))))
                · rw [if_pos rfl]; exact k276
                · rw [if_neg (by decide)]; exact (e375 400 3 (by omega)).trans ((e370 400 3 (by omega)).trans ((e348 400 3 (by omega)).trans ((e101 400 3 (by omega)).trans (hF 3 (by omega)))))
              · refine gx_1f (c := .eq) rfl (by omega) hc272 rfl ?_
                refine ex_go (S := (76, [(0, gx_r 383), (1, .inl 2), (2, .inl b)], [.inl 0, gx_r 383], t370, n, 0)) rfl (fun _ => rfl) rfl ?_
                refine ex_go (S := (83, [(0, gx_r 383), (1, .inl 2), (2, .inl b)], [.inl 0, gx_r 383], t370, n, 0)) rfl (fun _ => rfl) rfl ?_
                refine gx_put rfl g370 rfl rfl (ai_in_h (by omega) (by omega) (by omega)) rfl (fun t377 g377 k377 e377 => ?_)
                have k278 : ai_hv t377 400 2 = some (.inl 1) := (e377 400 2 (by omega)).trans k271
                refine ex_go (S := (87, [(0, gx_r 383), (1, .inl 2), (2, .inl b)], [.inl 1], t377, n, 0)) rfl (fun _ => rfl) rfl ?_
                refine ex_ret (r := (some (.inl 1), t377, n, 0)) rfl (fun _ => rfl) ?_
                refine ⟨_, rfl, 1, t377, rfl, fun _ => ⟨rfl, fun i hi => ?_⟩, fun h => absurd h (by omega)⟩
                rcases (show i = 0 ∨ i = 1 ∨ i = 2 ∨ i = 3 by omega) with rfl | rfl | rfl | rfl
                · rw [if_neg (by decide)]; exact (e377 400 0 (by omega)).trans ((e370 400 0 (by omega)).trans ((e348 400 0 (by omega)).trans ((e101 400 0 (by omega)).trans (hF 0 (by omega)))))
                · rw [if_neg (by decide)]; exact (e377 400 1 (by omega)).trans ((e370 400 1 (by omega)).trans ((e348 400 1 (by omega)).trans ((e101 400 1 (by omega)).trans (hF 1 (by omega)))))
                · rw [if_pos rfl]; exact k278
                · rw [if_neg (by decide)]; exact (e377 400 3 (by omega)).trans ((e370 400 3 (by omega)).trans ((e348 400 3 (by omega)).trans ((e101 400 3 (by omega)).trans (hF 3 (by omega)))))
            · refine gx_1f (c := .eq) rfl (by omega) hc269 rfl ?_
              refine ex_go (S := (56, [(0, gx_r 383), (1, .inl 2), (2, .inl b)], [.inl 0, .inl 135, gx_r 383], t348, n, 0)) rfl (fun _ => rfl) rfl ?_
              refine ex_go (S := (65, [(0, gx_r 383), (1, .inl 2), (2, .inl b)], [.inl 0, .inl 135, gx_r 383], t348, n, 0)) rfl (fun _ => rfl) rfl ?_
              refine ex_go (S := (67, [(0, gx_r 383), (1, .inl 2), (2, .inl b)], [.inl 45, .inl 0, .inl 135, gx_r 383], t348, n, 0)) rfl (fun _ => rfl) rfl ?_
              obtain ⟨_, r379, t379, rfl, g379, e379, -⟩ := pe_copies d n (f := 135) (t := 0) (m := 45) g348 (by decide +kernel) (by decide) (by decide) (by decide) (by decide)
              refine gx_call0 rfl rfl g348 rfl rfl r379 rfl ?_
              have k280 : ai_hv t379 400 2 = some (.inl 1) := (e379 400 2 (by omega)).trans k348
              show en_ex _ _ _ _ (70, [(0, gx_r 383), (1, .inl 2), (2, .inl b)], [], t379, n, 0) _
              refine ex_go (S := (71, [(0, gx_r 383), (1, .inl 2), (2, .inl b)], [gx_r 383], t379, n, 0)) rfl (fun _ => rfl) rfl ?_
              refine ex_go (S := (72, [(0, gx_r 383), (1, .inl 2), (2, .inl b)], [.inl b, gx_r 383], t379, n, 0)) rfl (fun _ => rfl) rfl ?_
              by_cases hc281 : b = 0
              · refine gx_1t (c := .eq) rfl (by omega) hc281 rfl ?_
                refine ex_go (S := (80, [(0, gx_r 383), (1, .inl 2), (2, .inl b)], [gx_r 383, gx_r 383], t379, n, 0)) rfl (fun _ => rfl) rfl ?_
                obtain ⟨m282, k283, m282l, m282h⟩ := gx_in (c := 383) (i := 26) (lo := 0) (hi := 16) g379 rfl rfl rfl rfl
                refine gx_get rfl g379 rfl k283 rfl ?_
                refine gx_put rfl g379 rfl rfl (ai_in_h (by omega) (by omega) (by omega)) rfl (fun t384 g384 k384 e384 => ?_)
                have k285 : ai_hv t384 400 2 = some (.inl 1) := (e384 400 2 (by omega)).trans k280
                refine ex_go (S := (87, [(0, gx_r 383), (1, .inl 2), (2, .inl b)], [.inl 1], t384, n, 0)) rfl (fun _ => rfl) rfl ?_
                refine ex_ret (r := (some (.inl 1), t384, n, 0)) rfl (fun _ => rfl) ?_
                refine ⟨_, rfl, 1, t384, rfl, fun _ => ⟨rfl, fun i hi => ?_⟩, fun h => absurd h (by omega)⟩
                rcases (show i = 0 ∨ i = 1 ∨ i = 2 ∨ i = 3 by omega) with rfl | rfl | rfl | rfl
                · rw [if_neg (by decide)]; exact (e384 400 0 (by omega)).trans ((e379 400 0 (by omega)).trans ((e348 400 0 (by omega)).trans ((e101 400 0 (by omega)).trans (hF 0 (by omega)))))
                · rw [if_neg (by decide)]; exact (e384 400 1 (by omega)).trans ((e379 400 1 (by omega)).trans ((e348 400 1 (by omega)).trans ((e101 400 1 (by omega)).trans (hF 1 (by omega)))))
                · rw [if_pos rfl]; exact k285
                · rw [if_neg (by decide)]; exact (e384 400 3 (by omega)).trans ((e379 400 3 (by omega)).trans ((e348 400 3 (by omega)).trans ((e101 400 3 (by omega)).trans (hF 3 (by omega)))))
              · refine gx_1f (c := .eq) rfl (by omega) hc281 rfl ?_
                refine ex_go (S := (76, [(0, gx_r 383), (1, .inl 2), (2, .inl b)], [.inl 0, gx_r 383], t379, n, 0)) rfl (fun _ => rfl) rfl ?_
                refine ex_go (S := (83, [(0, gx_r 383), (1, .inl 2), (2, .inl b)], [.inl 0, gx_r 383], t379, n, 0)) rfl (fun _ => rfl) rfl ?_
                refine gx_put rfl g379 rfl rfl (ai_in_h (by omega) (by omega) (by omega)) rfl (fun t386 g386 k386 e386 => ?_)
                have k287 : ai_hv t386 400 2 = some (.inl 1) := (e386 400 2 (by omega)).trans k280
                refine ex_go (S := (87, [(0, gx_r 383), (1, .inl 2), (2, .inl b)], [.inl 1], t386, n, 0)) rfl (fun _ => rfl) rfl ?_
                refine ex_ret (r := (some (.inl 1), t386, n, 0)) rfl (fun _ => rfl) ?_
                refine ⟨_, rfl, 1, t386, rfl, fun _ => ⟨rfl, fun i hi => ?_⟩, fun h => absurd h (by omega)⟩
                rcases (show i = 0 ∨ i = 1 ∨ i = 2 ∨ i = 3 by omega) with rfl | rfl | rfl | rfl
                · rw [if_neg (by decide)]; exact (e386 400 0 (by omega)).trans ((e379 400 0 (by omega)).trans ((e348 400 0 (by omega)).trans ((e101 400 0 (by omega)).trans (hF 0 (by omega)))))
                · rw [if_neg (by decide)]; exact (e386 400 1 (by omega)).trans ((e379 400 1 (by omega)).trans ((e348 400 1 (by omega)).trans ((e101 400 1 (by omega)).trans (hF 1 (by omega)))))
                · rw [if_pos rfl]; exact k287
                · rw [if_neg (by decide)]; exact (e386 400 3 (by omega)).trans ((e379 400 3 (by omega)).trans ((e348 400 3 (by omega)).trans ((e101 400 3 (by omega)).trans (hF 3 (by omega)))))
        · refine ex_go (S := (30, [(0, gx_r 383), (1, .inl 3), (2, .inl b)], [gx_r 383], t101, n, 0)) rfl (fun _ => rfl) rfl ?_
          refine gx_ref (c := 400) rfl g101 rfl rfl rfl rfl ?_
          refine ex_go (S := (34, [(0, gx_r 383), (1, .inl 3), (2, .inl b)], [.inl 3, gx_r 400], t101, n, 0)) rfl (fun _ => rfl) rfl ?_
          refine ex_go (S := (35, [(0, gx_r 383), (1, .inl 3), (2, .inl b)], [.inl 1, .inl 3, gx_r 400], t101, n, 0)) rfl (fun _ => rfl) rfl ?_
          refine gx_apv (d := 2) rfl (fun _ => rfl) g101 rfl rfl rfl (show 3 < 4 from by omega) rfl (ai_in_h (by omega) (by omega) (by omega)) rfl (fun t388 g388 k388 e388 => ?_)
          refine ex_go (S := (37, [(0, gx_r 383), (1, .inl 3), (2, .inl b)], [gx_r 383], t388, n, 0)) rfl (fun _ => rfl) rfl ?_
          refine ex_go (S := (38, [(0, gx_r 383), (1, .inl 3), (2, .inl b)], [.inl b, gx_r 383], t388, n, 0)) rfl (fun _ => rfl) rfl ?_
          by_cases hc289 : b = 0
          · refine gx_1t (c := .eq) rfl (by omega) hc289 rfl ?_
            refine ex_go (S := (51, [(0, gx_r 383), (1, .inl 3), (2, .inl b)], [.inl 0, gx_r 383], t388, n, 0)) rfl (fun _ => rfl) rfl ?_
            refine ex_go (S := (52, [(0, gx_r 383), (1, .inl 3), (2, .inl b)], [.inl b, .inl 0, gx_r 383], t388, n, 0)) rfl (fun _ => rfl) rfl ?_
            by_cases hc290 : b = 0
            · refine gx_1t (c := .eq) rfl (by omega) hc290 rfl ?_
              refine ex_go (S := (61, [(0, gx_r 383), (1, .inl 3), (2, .inl b)], [.inl 45, .inl 0, gx_r 383], t388, n, 0)) rfl (fun _ => rfl) rfl ?_
              refine ex_go (S := (62, [(0, gx_r 383), (1, .inl 3), (2, .inl b)], [.inl 1, .inl 45, .inl 0, gx_r 383], t388, n, 0)) rfl (fun _ => rfl) rfl ?_
              refine ex_go (S := (63, [(0, gx_r 383), (1, .inl 3), (2, .inl b)], [.inl 3, .inl 1, .inl 45, .inl 0, gx_r 383], t388, n, 0)) rfl (fun _ => rfl) rfl ?_
              refine ex_go (S := (64, [(0, gx_r 383), (1, .inl 3), (2, .inl b)], [.inl 4, .inl 45, .inl 0, gx_r 383], t388, n, 0)) rfl (fun _ => rfl) rfl ?_
              refine ex_go (S := (65, [(0, gx_r 383), (1, .inl 3), (2, .inl b)], [.inl 180, .inl 0, gx_r 383], t388, n, 0)) rfl (fun _ => rfl) rfl ?_
              refine ex_go (S := (67, [(0, gx_r 383), (1, .inl 3), (2, .inl b)], [.inl 45, .inl 180, .inl 0, gx_r 383], t388, n, 0)) rfl (fun _ => rfl) rfl ?_
              obtain ⟨_, r391, t391, rfl, g391, e391, -⟩ := pe_copies d n (f := 0) (t := 180) (m := 45) g388 (by decide +kernel) (by decide) (by decide) (by decide) (by decide)
              refine gx_call0 rfl rfl g388 rfl rfl r391 rfl ?_
              have k292 : ai_hv t391 400 3 = some (.inl 1) := (e391 400 3 (by omega)).trans k388
              show en_ex _ _ _ _ (70, [(0, gx_r 383), (1, .inl 3), (2, .inl b)], [], t391, n, 0) _
              refine ex_go (S := (71, [(0, gx_r 383), (1, .inl 3), (2, .inl b)], [gx_r 383], t391, n, 0)) rfl (fun _ => rfl) rfl ?_
              refine ex_go (S := (72, [(0, gx_r 383), (1, .inl 3), (2, .inl b)], [.inl b, gx_r 383], t391, n, 0)) rfl (fun _ => rfl) rfl ?_
              by_cases hc293 : b = 0
              · refine gx_1t (c := .eq) rfl (by omega) hc293 rfl ?_
                refine ex_go (S := (80, [(0, gx_r 383), (1, .inl 3), (2, .inl b)], [gx_r 383, gx_r 383], t391, n, 0)) rfl (fun _ => rfl) rfl ?_
                obtain ⟨m294, k295, m294l, m294h⟩ := gx_in (c := 383) (i := 26) (lo := 0) (hi := 16) g391 rfl rfl rfl rfl
                refine gx_get rfl g391 rfl k295 rfl ?_
                refine gx_put rfl g391 rfl rfl (ai_in_h (by omega) (by omega) (by omega)) rfl (fun t396 g396 k396 e396 => ?_)
                have k297 : ai_hv t396 400 3 = some (.inl 1) := (e396 400 3 (by omega)).trans k292
                refine ex_go (S := (87, [(0, gx_r 383), (1, .inl 3), (2, .inl b)], [.inl 1], t396, n, 0)) rfl (fun _ => rfl) rfl ?_
                refine ex_ret (r := (some (.inl 1), t396, n, 0)) rfl (fun _ => rfl) ?_
                refine ⟨_, rfl, 1, t396, rfl, fun _ => ⟨rfl, fun i hi => ?_⟩, fun h => absurd h (by omega)⟩
                rcases (show i = 0 ∨ i = 1 ∨ i = 2 ∨ i = 3 by omega) with rfl | rfl | rfl | rfl
                · rw [if_neg (by decide)]; exact (e396 400 0 (by omega)).trans ((e391 400 0 (by omega)).trans ((e388 400 0 (by omega)).trans ((e101 400 0 (by omega)).trans (hF 0 (by omega)))))
                · rw [if_neg (by decide)]; exact (e396 400 1 (by omega)).trans ((e391 400 1 (by omega)).trans ((e388 400 1 (by omega)).trans ((e101 400 1 (by omega)).trans (hF 1 (by omega)))))
                · rw [if_neg (by decide)]; exact (e396 400 2 (by omega)).trans ((e391 400 2 (by omega)).trans ((e388 400 2 (by omega)).trans ((e101 400 2 (by omega)).trans (hF 2 (by omega)))))
                · rw [if_pos rfl]; exact k297
              · refine gx_1f (c := .eq) rfl (by omega) hc293 rfl ?_
                refine ex_go (S := (76, [(0, gx_r 383), (1, .inl 3), (2, .inl b)], [.inl 0, gx_r 383], t391, n, 0)) rfl (fun _ => rfl) rfl ?_
                refine ex_go (S := (83, [(0, gx_r 383), (1, .inl 3), (2, .inl b)], [.inl 0, gx_r 383], t391, n, 0)) rfl (fun _ => rfl) rfl ?_
                refine gx_put rfl g391 rfl rfl (ai_in_h (by omega) (by omega) (by omega)) rfl (fun t398 g398 k398 e398 => ?_)
                have k299 : ai_hv t398 400 3 = some (.inl 1) := (e398 400 3 (by omega)).trans k292
                refine ex_go (S := (87, [(0, gx_r 383), (1, .inl 3), (2, .inl b)], [.inl 1], t398, n, 0)) rfl (fun _ => rfl) rfl ?_
                refine ex_ret (r := (some (.inl 1), t398, n, 0)) rfl (fun _ => rfl) ?_
                refine ⟨_, rfl, 1, t398, rfl, fun _ => ⟨rfl, fun i hi => ?_⟩, fun h => absurd h (by omega)⟩
                rcases (show i = 0 ∨ i = 1 ∨ i = 2 ∨ i = 3 by omega) with rfl | rfl | rfl | rfl
                · rw [if_neg (by decide)]; exact (e398 400 0 (by omega)).trans ((e391 400 0 (by omega)).trans ((e388 400 0 (by omega)).trans ((e101 400 0 (by omega)).trans (hF 0 (by omega)))))
                · rw [if_neg (by decide)]; exact (e398 400 1 (by omega)).trans ((e391 400 1 (by omega)).trans ((e388 400 1 (by omega)).trans ((e101 400 1 (by omega)).trans (hF 1 (by omega)))))
                · rw [if_neg (by decide)]; exact (e398 400 2 (by omega)).trans ((e391 400 2 (by omega)).trans ((e388 400 2 (by omega)).trans ((e101 400 2 (by omega)).trans (hF 2 (by omega)))))
                · rw [if_pos rfl]; exact k299
            · refine gx_1f (c := .eq) rfl (by omega) hc290 rfl ?_
              refine ex_go (S := (56, [(0, gx_r 383), (1, .inl 3), (2, .inl b)], [.inl 0, .inl 0, gx_r 383], t388, n, 0)) rfl (fun _ => rfl) rfl ?_
              refine ex_go (S := (65, [(0, gx_r 383), (1, .inl 3), (2, .inl b)], [.inl 0, .inl 0, gx_r 383], t388, n, 0)) rfl (fun _ => rfl) rfl ?_
              refine ex_go (S := (67, [(0, gx_r 383), (1, .inl 3), (2, .inl b)], [.inl 45, .inl 0, .inl 0, gx_r 383], t388, n, 0)) rfl (fun _ => rfl) rfl ?_
              obtain ⟨_, r400, t400, rfl, g400, e400, -⟩ := pe_copies d n (f := 0) (t := 0) (m := 45) g388 (by decide +kernel) (by decide) (by decide) (by decide) (by decide)
              refine gx_call0 rfl rfl g388 rfl rfl r400 rfl ?_
              have k301 : ai_hv t400 400 3 = some (.inl 1) := (e400 400 3 (by omega)).trans k388
              show en_ex _ _ _ _ (70, [(0, gx_r 383), (1, .inl 3), (2, .inl b)], [], t400, n, 0) _
              refine ex_go (S := (71, [(0, gx_r 383), (1, .inl 3), (2, .inl b)], [gx_r 383], t400, n, 0)) rfl (fun _ => rfl) rfl ?_
              refine ex_go (S := (72, [(0, gx_r 383), (1, .inl 3), (2, .inl b)], [.inl b, gx_r 383], t400, n, 0)) rfl (fun _ => rfl) rfl ?_
              by_cases hc302 : b = 0
              · refine gx_1t (c := .eq) rfl (by omega) hc302 rfl ?_
                refine ex_go (S := (80, [(0, gx_r 383), (1, .inl 3), (2, .inl b)], [gx_r 383, gx_r 383], t400, n, 0)) rfl (fun _ => rfl) rfl ?_
                obtain ⟨m303, k304, m303l, m303h⟩ := gx_in (c := 383) (i := 26) (lo := 0) (hi := 16) g400 rfl rfl rfl rfl
                refine gx_get rfl g400 rfl k304 rfl ?_
                refine gx_put rfl g400 rfl rfl (ai_in_h (by omega) (by omega) (by omega)) rfl (fun t405 g405 k405 e405 => ?_)
                have k306 : ai_hv t405 400 3 = some (.inl 1) := (e405 400 3 (by omega)).trans k301
                refine ex_go (S := (87, [(0, gx_r 383), (1, .inl 3), (2, .inl b)], [.inl 1], t405, n, 0)) rfl (fun _ => rfl) rfl ?_
                refine ex_ret (r := (some (.inl 1), t405, n, 0)) rfl (fun _ => rfl) ?_
                refine ⟨_, rfl, 1, t405, rfl, fun _ => ⟨rfl, fun i hi => ?_⟩, fun h => absurd h (by omega)⟩
                rcases (show i = 0 ∨ i = 1 ∨ i = 2 ∨ i = 3 by omega) with rfl | rfl | rfl | rfl
                · rw [if_neg (by decide)]; exact (e405 400 0 (by omega)).trans ((e400 400 0 (by omega)).trans ((e388 400 0 (by omega)).trans ((e101 400 0 (by omega)).trans (hF 0 (by omega)))))
                · rw [if_neg (by decide)]; exact (e405 400 1 (by omega)).trans ((e400 400 1 (by omega)).trans ((e388 400 1 (by omega)).trans ((e101 400 1 (by omega)).trans (hF 1 (by omega)))))
                · rw [if_neg (by decide)]; exact (e405 400 2 (by omega)).trans ((e400 400 2 (by omega)).trans ((e388 400 2 (by omega)).trans ((e101 400 2 (by omega)).trans (hF 2 (by omega)))))
                · rw [if_pos rfl]; exact k306
              · refine gx_1f (c := .eq) rfl (by omega) hc302 rfl ?_
                refine ex_go (S := (76, [(0, gx_r 383), (1, .inl 3), (2, .inl b)], [.inl 0, gx_r 383], t400, n, 0)) rfl (fun _ => rfl) rfl ?_
                refine ex_go (S := (83, [(0, gx_r 383), (1, .inl 3), (2, .inl b)], [.inl 0, gx_r 383], t400, n, 0)) rfl (fun _ => rfl) rfl ?_
                refine gx_put rfl g400 rfl rfl (ai_in_h (by omega) (by omega) (by omega)) rfl (fun t407 g407 k407 e407 => ?_)
                have k308 : ai_hv t407 400 3 = some (.inl 1) := (e407 400 3 (by omega)).trans k301
                refine ex_go (S := (87, [(0, gx_r 383), (1, .inl 3), (2, .inl b)], [.inl 1], t407, n, 0)) rfl (fun _ => rfl) rfl ?_
                refine ex_ret (r := (some (.inl 1), t407, n, 0)) rfl (fun _ => rfl) ?_
                refine ⟨_, rfl, 1, t407, rfl, fun _ => ⟨rfl, fun i hi => ?_⟩, fun h => absurd h (by omega)⟩
                rcases (show i = 0 ∨ i = 1 ∨ i = 2 ∨ i = 3 by omega) with rfl | rfl | rfl | rfl
                · rw [if_neg (by decide)]; exact (e407 400 0 (by omega)).trans ((e400 400 0 (by omega)).trans ((e388 400 0 (by omega)).trans ((e101 400 0 (by omega)).trans (hF 0 (by omega)))))
                · rw [if_neg (by decide)]; exact (e407 400 1 (by omega)).trans ((e400 400 1 (by omega)).trans ((e388 400 1 (by omega)).trans ((e101 400 1 (by omega)).trans (hF 1 (by omega)))))
                · rw [if_neg (by decide)]; exact (e407 400 2 (by omega)).trans ((e400 400 2 (by omega)).trans ((e388 400 2 (by omega)).trans ((e101 400 2 (by omega)).trans (hF 2 (by omega)))))
                · rw [if_pos rfl]; exact k308
          · refine gx_1f (c := .eq) rfl (by omega) hc289 rfl ?_
            refine ex_go (S := (43, [(0, gx_r 383), (1, .inl 3), (2, .inl b)], [.inl 45, gx_r 383], t388, n, 0)) rfl (fun _ => rfl) rfl ?_
            refine ex_go (S := (44, [(0, gx_r 383), (1, .inl 3), (2, .inl b)], [.inl 1, .inl 45, gx_r 383], t388, n, 0)) rfl (fun _ => rfl) rfl ?_
            refine ex_go (S := (45, [(0, gx_r 383), (1, .inl 3), (2, .inl b)], [.inl 3, .inl 1, .inl 45, gx_r 383], t388, n, 0)) rfl (fun _ => rfl) rfl ?_
            refine ex_go (S := (46, [(0, gx_r 383), (1, .inl 3), (2, .inl b)], [.inl 4, .inl 45, gx_r 383], t388, n, 0)) rfl (fun _ => rfl) rfl ?_
            refine ex_go (S := (47, [(0, gx_r 383), (1, .inl 3), (2, .inl b)], [.inl 180, gx_r 383], t388, n, 0)) rfl (fun _ => rfl) rfl ?_
            refine ex_go (S := (51, [(0, gx_r 383), (1, .inl 3), (2, .inl b)], [.inl 180, gx_r 383], t388, n, 0)) rfl (fun _ => rfl) rfl ?_
            refine ex_go (S := (52, [(0, gx_r 383), (1, .inl 3), (2, .inl b)], [.inl b, .inl 180, gx_r 383], t388, n, 0)) rfl (fun _ => rfl) rfl ?_
            by_cases hc309 : b = 0
            · refine gx_1t (c := .eq) rfl (by omega) hc309 rfl ?_
              refine ex_go (S := (61, [(0, gx_r 383), (1, .inl 3), (2, .inl b)], [.inl 45, .inl 180, gx_r 383], t388, n, 0)) rfl (fun _ => rfl) rfl ?_
              refine ex_go (S := (62, [(0, gx_r 383), (1, .inl 3), (2, .inl b)], [.inl 1, .inl 45, .inl 180, gx_r 383], t388, n, 0)) rfl (fun _ => rfl) rfl ?_
              refine ex_go (S := (63, [(0, gx_r 383), (1, .inl 3), (2, .inl b)], [.inl 3, .inl 1, .inl 45, .inl 180, gx_r 383], t388, n, 0)) rfl (fun _ => rfl) rfl ?_
              refine ex_go (S := (64, [(0, gx_r 383), (1, .inl 3), (2, .inl b)], [.inl 4, .inl 45, .inl 180, gx_r 383], t388, n, 0)) rfl (fun _ => rfl) rfl ?_
              refine ex_go (S := (65, [(0, gx_r 383), (1, .inl 3), (2, .inl b)], [.inl 180, .inl 180, gx_r 383], t388, n, 0)) rfl (fun _ => rfl) rfl ?_
              refine ex_go (S := (67, [(0, gx_r 383), (1, .inl 3), (2, .inl b)], [.inl 45, .inl 180, .inl 180, gx_r 383], t388, n, 0)) rfl (fun _ => rfl) rfl ?_
              obtain ⟨_, r410, t410, rfl, g410, e410, -⟩ := pe_copies d n (f := 180) (t := 180) (m := 45) g388 (by decide +kernel) (by decide) (by decide) (by decide) (by decide)
              refine gx_call0 rfl rfl g388 rfl rfl r410 rfl ?_
              have k311 : ai_hv t410 400 3 = some (.inl 1) := (e410 400 3 (by omega)).trans k388
              show en_ex _ _ _ _ (70, [(0, gx_r 383), (1, .inl 3), (2, .inl b)], [], t410, n, 0) _
              refine ex_go (S := (71, [(0, gx_r 383), (1, .inl 3), (2, .inl b)], [gx_r 383], t410, n, 0)) rfl (fun _ => rfl) rfl ?_
              refine ex_go (S := (72, [(0, gx_r 383), (1, .inl 3), (2, .inl b)], [.inl b, gx_r 383], t410, n, 0)) rfl (fun _ => rfl) rfl ?_
              by_cases hc312 : b = 0
              · refine gx_1t (c := .eq) rfl (by omega) hc312 rfl ?_
                refine ex_go (S := (80, [(0, gx_r 383), (1, .inl 3), (2, .inl b)], [gx_r 383, gx_r 383], t410, n, 0)) rfl (fun _ => rfl) rfl ?_
                obtain ⟨m313, k314, m313l, m313h⟩ := gx_in (c := 383) (i := 26) (lo := 0) (hi := 16) g410 rfl rfl rfl rfl
                refine gx_get rfl g410 rfl k314 rfl ?_
                refine gx_put rfl g410 rfl rfl (ai_in_h (by omega) (by omega) (by omega)) rfl (fun t415 g415 k415 e415 => ?_)
                have k316 : ai_hv t415 400 3 = some (.inl 1) := (e415 400 3 (by omega)).trans k311
                refine ex_go (S := (87, [(0, gx_r 383), (1, .inl 3), (2, .inl b)], [.inl 1], t415, n, 0)) rfl (fun _ => rfl) rfl ?_
                refine ex_ret (r := (some (.inl 1), t415, n, 0)) rfl (fun _ => rfl) ?_
                refine ⟨_, rfl, 1, t415, rfl, fun _ => ⟨rfl, fun i hi => ?_⟩, fun h => absurd h (by omega)⟩
                rcases (show i = 0 ∨ i = 1 ∨ i = 2 ∨ i = 3 by omega) with rfl | rfl | rfl | rfl
                · rw [if_neg (by decide)]; exact (e415 400 0 (by omega)).trans ((e410 400 0 (by omega)).trans ((e388 400 0 (by omega)).trans ((e101 400 0 (by omega)).trans (hF 0 (by omega)))))
                · rw [if_neg (by decide)]; exact (e415 400 1 (by omega)).trans ((e410 400 1 (by omega)).trans ((e388 400 1 (by omega)).trans ((e101 400 1 (by omega)).trans (hF 1 (by omega)))))
                · rw [if_neg (by decide)]; exact (e415 400 2 (by omega)).trans ((e410 400 2 (by omega)).trans ((e388 400 2 (by omega)).trans ((e101 400 2 (by omega)).trans (hF 2 (by omega)))))
                · rw [if_pos rfl]; exact k316
              · refine gx_1f (c := .eq) rfl (by omega) hc312 rfl ?_
                refine ex_go (S := (76, [(0, gx_r 383), (1, .inl 3), (2, .inl b)], [.inl 0, gx_r 383], t410, n, 0)) rfl (fun _ => rfl) rfl ?_
                refine ex_go (S := (83, [(0, gx_r 383), (1, .inl 3), (2, .inl b)], [.inl 0, gx_r 383], t410, n, 0)) rfl (fun _ => rfl) rfl ?_
                refine gx_put rfl g410 rfl rfl (ai_in_h (by omega) (by omega) (by omega)) rfl (fun t417 g417 k417 e417 => ?_)
                have k318 : ai_hv t417 400 3 = some (.inl 1) := (e417 400 3 (by omega)).trans k311
                refine ex_go (S := (87, [(0, gx_r 383), (1, .inl 3), (2, .inl b)], [.inl 1], t417, n, 0)) rfl (fun _ => rfl) rfl ?_
                refine ex_ret (r := (some (.inl 1), t417, n, 0)) rfl (fun _ => rfl) ?_
                refine ⟨_, rfl, 1, t417, rfl, fun _ => ⟨rfl, fun i hi => ?_⟩, fun h => absurd h (by omega)⟩
                rcases (show i = 0 ∨ i = 1 ∨ i = 2 ∨ i = 3 by omega) with rfl | rfl | rfl | rfl
                · rw [if_neg (by decide)]; exact (e417 400 0 (by omega)).trans ((e410 400 0 (by omega)).trans ((e388 400 0 (by omega)).trans ((e101 400 0 (by omega)).trans (hF 0 (by omega)))))
                · rw [if_neg (by decide)]; exact (e417 400 1 (by omega)).trans ((e410 400 1 (by omega)).trans ((e388 400 1 (by omega)).trans ((e101 400 1 (by omega)).trans (hF 1 (by omega)))))
                · rw [if_neg (by decide)]; exact (e417 400 2 (by omega)).trans ((e410 400 2 (by omega)).trans ((e388 400 2 (by omega)).trans ((e101 400 2 (by omega)).trans (hF 2 (by omega)))))
                · rw [if_pos rfl]; exact k318
            · refine gx_1f (c := .eq) rfl (by omega) hc309 rfl ?_
              refine ex_go (S := (56, [(0, gx_r 383), (1, .inl 3), (2, .inl b)], [.inl 0, .inl 180, gx_r 383], t388, n, 0)) rfl (fun _ => rfl) rfl ?_
              refine ex_go (S := (65, [(0, gx_r 383), (1, .inl 3), (2, .inl b)], [.inl 0, .inl 180, gx_r 383], t388, n, 0)) rfl (fun _ => rfl) rfl ?_
              refine ex_go (S := (67, [(0, gx_r 383), (1, .inl 3), (2, .inl b)], [.inl 45, .inl 0, .inl 180, gx_r 383], t388, n, 0)) rfl (fun _ => rfl) rfl ?_
              obtain ⟨_, r419, t419, rfl, g419, e419, -⟩ := pe_copies d n (f := 180) (t := 0) (m := 45) g388 (by decide +kernel) (by decide) (by decide) (by decide) (by decide)
              refine gx_call0 rfl rfl g388 rfl rfl r419 rfl ?_
              have k320 : ai_hv t419 400 3 = some (.inl 1) := (e419 400 3 (by omega)).trans k388
              show en_ex _ _ _ _ (70, [(0, gx_r 383), (1, .inl 3), (2, .inl b)], [], t419, n, 0) _
              refine ex_go (S := (71, [(0, gx_r 383), (1, .inl 3), (2, .inl b)], [gx_r 383], t419, n, 0)) rfl (fun _ => rfl) rfl ?_
              refine ex_go (S := (72, [(0, gx_r 383), (1, .inl 3), (2, .inl b)], [.inl b, gx_r 383], t419, n, 0)) rfl (fun _ => rfl) rfl ?_
              by_cases hc321 : b = 0
              · refine gx_1t (c := .eq) rfl (by omega) hc321 rfl ?_
                refine ex_go (S := (80, [(0, gx_r 383), (1, .inl 3), (2, .inl b)], [gx_r 383, gx_r 383], t419, n, 0)) rfl (fun _ => rfl) rfl ?_
                obtain ⟨m322, k323, m322l, m322h⟩ := gx_in (c := 383) (i := 26) (lo := 0) (hi := 16) g419 rfl rfl rfl rfl
                refine gx_get rfl g419 rfl k323 rfl ?_
                refine gx_put rfl g419 rfl rfl (ai_in_h (by omega) (by omega) (by omega)) rfl (fun t424 g424 k424 e424 => ?_)
                have k325 : ai_hv t424 400 3 = some (.inl 1) := (e424 400 3 (by omega)).trans k320
                refine ex_go (S := (87, [(0, gx_r 383), (1, .inl 3), (2, .inl b)], [.inl 1], t424, n, 0)) rfl (fun _ => rfl) rfl ?_
                refine ex_ret (r := (some (.inl 1), t424, n, 0)) rfl (fun _ => rfl) ?_
                refine ⟨_, rfl, 1, t424, rfl, fun _ => ⟨rfl, fun i hi => ?_⟩, fun h => absurd h (by omega)⟩
                rcases (show i = 0 ∨ i = 1 ∨ i = 2 ∨ i = 3 by omega) with rfl | rfl | rfl | rfl
                · rw [if_neg (by decide)]; exact (e424 400 0 (by omega)).trans ((e419 400 0 (by omega)).trans ((e388 400 0 (by omega)).trans ((e101 400 0 (by omega)).trans (hF 0 (by omega)))))
                · rw [if_neg (by decide)]; exact (e424 400 1 (by omega)).trans ((e419 400 1 (by omega)).trans ((e388 400 1 (by omega)).trans ((e101 400 1 (by omega)).trans (hF 1 (by omega)))))
                · rw [if_neg (by decide)]; exact (e424 400 2 (by omega)).trans ((e419 400 2 (by omega)).trans ((e388 400 2 (by omega)).trans ((e101 400 2 (by omega)).trans (hF 2 (by omega)))))
                · rw [if_pos rfl]; exact k325
              · refine gx_1f (c := .eq) rfl (by omega) hc321 rfl ?_
                refine ex_go (S := (76, [(0, gx_r 383), (1, .inl 3), (2, .inl b)], [.inl 0, gx_r 383], t419, n, 0)) rfl (fun _ => rfl) rfl ?_
                refine ex_go (S := (83, [(0, gx_r 383), (1, .inl 3), (2, .inl b)], [.inl 0, gx_r 383], t419, n, 0)) rfl (fun _ => rfl) rfl ?_
                refine gx_put rfl g419 rfl rfl (ai_in_h (by omega) (by omega) (by omega)) rfl (fun t426 g426 k426 e426 => ?_)
                have k327 : ai_hv t426 400 3 = some (.inl 1) := (e426 400 3 (by omega)).trans k320
                refine ex_go (S := (87, [(0, gx_r 383), (1, .inl 3), (2, .inl b)], [.inl 1], t426, n, 0)) rfl (fun _ => rfl) rfl ?_
                refine ex_ret (r := (some (.inl 1), t426, n, 0)) rfl (fun _ => rfl) ?_
                refine ⟨_, rfl, 1, t426, rfl, fun _ => ⟨rfl, fun i hi => ?_⟩, fun h => absurd h (by omega)⟩
                rcases (show i = 0 ∨ i = 1 ∨ i = 2 ∨ i = 3 by omega) with rfl | rfl | rfl | rfl
                · rw [if_neg (by decide)]; exact (e426 400 0 (by omega)).trans ((e419 400 0 (by omega)).trans ((e388 400 0 (by omega)).trans ((e101 400 0 (by omega)).trans (hF 0 (by omega)))))
                · rw [if_neg (by decide)]; exact (e426 400 1 (by omega)).trans ((e419 400 1 (by omega)).trans ((e388 400 1 (by omega)).trans ((e101 400 1 (by omega)).trans (hF 1 (by omega)))))
                · rw [if_neg (by decide)]; exact (e426 400 2 (by omega)).trans ((e419 400 2 (by omega)).trans ((e388 400 2 (by omega)).trans ((e101 400 2 (by omega)).trans (hF 2 (by omega)))))
                · rw [if_pos rfl]; exact k327
      · refine gx_1f (c := .ne) rfl (by omega) hc167 rfl ?_
        refine ex_go (S := (28, [(0, gx_r 383), (1, .inl m), (2, .inl b)], [.inl 0], t101, n, 0)) rfl (fun _ => rfl) rfl ?_
        refine ex_ret (r := (some (.inl 0), t101, n, 0)) rfl (fun _ => rfl) ?_
        exact ⟨_, rfl, 0, t101, rfl, fun h => absurd h (by omega), fun _ => ⟨rfl, fun i hi => (e101 400 i (by omega)).trans (hF i hi)⟩⟩
theorem pc_mark (d n : Nat) {t0 : en_H} (g0 : ai_HG ah_G t0) (hE : ai_E t0) {m b : Nat} {F : Nat → Nat} (hm : m < 4294967296) (hb : b ≤ 1) (hF : ∀ i, i < 4 → ai_hv t0 138 i = some (.inl (F i))) (hF1 : ∀ i, i < 4 → F i ≤ 1) : ∃ r, en_u (d + 2) 83 [gx_r 0, .inl m, .inl b] t0 n = some r ∧ ∃ v t', r = (some (.inl v), t', n, 0) ∧ ((m ≤ 3 ∧ (b = 0 ∨ F m = 1)) → v = 1 ∧ ∀ i, i < 4 → ai_hv t' 138 i = some (.inl (if i = m then 1 else F i))) ∧ (¬ (m ≤ 3 ∧ (b = 0 ∨ F m = 1)) → v = 0 ∧ ∀ i, i < 4 → ai_hv t' 138 i = some (.inl (F i))) := by
  refine en_u_ex (d := d + 1) rfl ?_
  show en_ex _ _ _ _ (0, [(0, gx_r 0), (1, .inl m), (2, .inl b)], [], t0, n, 0) _
  refine ex_go (S := (1, [(0, gx_r 0), (1, .inl m), (2, .inl b)], [.inl m], t0, n, 0)) rfl (fun _ => rfl) rfl ?_
  refine ex_go (S := (2, [(0, gx_r 0), (1, .inl m), (2, .inl b)], [.inl 0, .inl m], t0, n, 0)) rfl (fun _ => rfl) rfl ?_
  refine ex_go (S := (3, [(0, gx_r 0), (1, .inl m), (2, .inl b)], [.inl 3, .inl 0, .inl m], t0, n, 0)) rfl (fun _ => rfl) rfl ?_
  obtain ⟨_, r1, b2, rfl, b2b, q3⟩ := pz_isWithin (d) n (t0 := t0) (x := m) (lo := 0) (hi := 3) (by omega) (by omega) (by omega)
  refine ex_stat rfl rfl rfl rfl rfl r1 (Nat.le_refl _) rfl ?_
  show en_ex _ _ _ _ (6, [(0, gx_r 0), (1, .inl m), (2, .inl b)], [.inl b2], t0, n, 0) _
  by_cases hc4 : b2 = 0
  · refine gx_1t (c := .eq) rfl (by omega) hc4 rfl ?_
    refine ex_go (S := (23, [(0, gx_r 0), (1, .inl m), (2, .inl b)], [.inl 0], t0, n, 0)) rfl (fun _ => rfl) rfl ?_
    refine ex_ret (r := (some (.inl 0), t0, n, 0)) rfl (fun _ => rfl) ?_
    exact ⟨_, rfl, 0, t0, rfl, fun h => absurd h (by omega), fun _ => ⟨rfl, fun i hi => hF i hi⟩⟩
  · refine gx_1f (c := .eq) rfl (by omega) hc4 rfl ?_
    refine ex_go (S := (10, [(0, gx_r 0), (1, .inl m), (2, .inl b)], [.inl b], t0, n, 0)) rfl (fun _ => rfl) rfl ?_
    by_cases hc5 : b = 0
    · refine gx_1t (c := .eq) rfl (by omega) hc5 rfl ?_
      rcases (show m = 0 ∨ m = 1 ∨ m = 2 ∨ m = 3 by omega) with rfl | rfl | rfl | rfl
      · refine ex_go (S := (25, [(0, gx_r 0), (1, .inl 0), (2, .inl b)], [.inl b], t0, n, 0)) rfl (fun _ => rfl) rfl ?_
        by_cases hc6 : b = 0
        · refine gx_1t (c := .eq) rfl (by omega) hc6 rfl ?_
          refine ex_go (S := (65, [(0, gx_r 0), (1, .inl 0), (2, .inl b)], [gx_r 0], t0, n, 0)) rfl (fun _ => rfl) rfl ?_
          refine gxo_ref (a := 0) (c := 136) rfl g0 rfl rfl rfl rfl rfl ?_
          refine ex_go (S := (69, [(0, gx_r 0), (1, .inl 0), (2, .inl b)], [.inl 0, gx_r 136], t0, n, 0)) rfl (fun _ => rfl) rfl ?_
          refine gx_ag (v := gx_r 335) (cb := fun c => Nat.ble 4 c && Nat.ble c 7) rfl (fun _ => rfl) g0 rfl rfl (gx_slr g0 rfl (by decide) rfl) (by omega) rfl ?_
          refine ex_go (S := (71, [(0, gx_r 0), (1, .inl 0), (2, .inl b)], [gx_r 0, gx_r 335], t0, n, 0)) rfl (fun _ => rfl) rfl ?_
          refine gxo_ref (a := 0) (c := 8) rfl g0 rfl rfl rfl rfl rfl ?_
          obtain ⟨⟨rv107, t107, rn107, rs107⟩, r107, hn107, hs107, g107, fr107, E107, o107, ho107, ro107, hh107⟩ := ac_all (d + 1) 162 ce_162_37 (show ce_162_37 ∈ cm_162 from (List.mem_cons_of_mem _ (List.mem_cons_of_mem _ (List.mem_cons_of_mem _ (List.mem_cons_of_mem _ (List.mem_cons_of_mem _ (List.mem_cons_of_mem _ (List.mem_cons_of_mem _ (List.mem_cons_of_mem _ (List.mem_cons_of_mem _ (List.mem_cons_of_mem _ (List.mem_cons_of_mem _ (List.mem_cons_of_mem _ (List.mem_cons_of_mem _ (List.mem_cons_of_mem _ (List.mem_cons_of_mem _ (List.mem_cons_of_mem _ (List.mem_cons_of_mem _ (List.mem_cons_of_mem _ (List.mem_cons_of_mem _ (List.mem_cons_of_mem _ (List.mem_cons_of_mem _ (List.mem_cons_of_mem _ (List.mem_cons_of_mem _ (List.mem_cons_of_mem _ (List.mem_cons_of_mem _ (List.mem_cons_of_mem _ (List.mem_cons_of_mem _ (List.mem_cons_of_mem _ (List.mem_cons_of_mem _ (List.mem_cons_of_mem _ (List.mem_cons_of_mem _ (List.mem_cons_of_mem _ (List.mem_cons_of_mem _ (List.mem_cons_of_mem _ (List.mem_cons_of_mem _ (List.mem_cons_of_mem _ (List.mem_cons_of_mem _ List.mem_cons_self)))))))))))))))))))))))))))))))))))))) (Nat.lt_of_lt_of_le (show ce_162_37.1 < 1 by decide) (by omega)) (fun _ => 0) [gx_r 335, gx_r 8] t0 n ⟨gx_vref 335, gx_vref 8, trivial⟩ g0 (fun q hq => absurd hq List.not_mem_nil) hE
          have hn107 : n = rn107 := hn107.symm
          have hs107 : rs107 = 0 := hs107
          subst hn107 hs107
          have ho107 := List.mem_singleton.mp ho107
          subst ho107
          have hv107 : rv107 = none := by
            cases rv107 with
            | none => rfl
            | some w => exact ro107.elim
          subst hv107
          have e107 : ∀ c i, ¬ (335 ≤ c ∧ c ≤ 341) → ai_hv t107 c i = ai_hv t0 c i := fun c i h => fr107 c i (fun z => h (inw_rng (by decide) z))
          refine gx_callo (a := 335) rfl rfl g0 rfl rfl rfl r107 rfl ?_
          show en_ex _ _ _ _ (77, [(0, gx_r 0), (1, .inl 0), (2, .inl b)], [], t107, n, 0) _
          refine ex_go (S := (78, [(0, gx_r 0), (1, .inl 0), (2, .inl b)], [gx_r 0], t107, n, 0)) rfl (fun _ => rfl) rfl ?_
          refine gxo_ref (a := 0) (c := 137) rfl g107 rfl rfl rfl rfl rfl ?_
          refine ex_go (S := (82, [(0, gx_r 0), (1, .inl 0), (2, .inl b)], [.inl 0, gx_r 137], t107, n, 0)) rfl (fun _ => rfl) rfl ?_
          refine gx_ag (v := gx_r 342) (cb := fun c => Nat.ble 4 c && Nat.ble c 7) rfl (fun _ => rfl) g107 rfl rfl (gx_slr g107 rfl (by decide) rfl) (by omega) rfl ?_
          refine ex_go (S := (84, [(0, gx_r 0), (1, .inl 0), (2, .inl b)], [gx_r 0, gx_r 342], t107, n, 0)) rfl (fun _ => rfl) rfl ?_
          refine gxo_ref (a := 0) (c := 139) rfl g107 rfl rfl rfl rfl rfl ?_
          obtain ⟨⟨rv108, t108, rn108, rs108⟩, r108, hn108, hs108, g108, fr108, E108, o108, ho108, ro108, hh108⟩ := ac_all (d + 1) 170 ce_170_2 (show ce_170_2 ∈ cm_170 from (List.mem_cons_of_mem _ (List.mem_cons_of_mem _ List.mem_cons_self))) (Nat.lt_of_lt_of_le (show ce_170_2.1 < 1 by decide) (by omega)) (fun _ => 0) [gx_r 342, gx_r 139] t107 n ⟨gx_vref 342, gx_vref 139, trivial⟩ g107 (fun q hq => absurd hq List.not_mem_nil) E107
          have hn108 : n = rn108 := hn108.symm
          have hs108 : rs108 = 0 := hs108
          subst hn108 hs108
          have ho108 := List.mem_singleton.mp ho108
          subst ho108
          have hv108 : rv108 = none := by
            cases rv108 with
            | none => rfl
            | some w => exact ro108.elim
          subst hv108
          have e108 : ∀ c i, ¬ (342 ≤ c ∧ c ≤ 348) → ai_hv t108 c i = ai_hv t107 c i := fun c i h => fr108 c i (fun z => h (inw_rng (by decide) z))
          refine gx_callo (a := 342) rfl rfl g107 rfl rfl rfl r108 rfl ?_
          show en_ex _ _ _ _ (90, [(0, gx_r 0), (1, .inl 0), (2, .inl b)], [], t108, n, 0) _
          refine ex_go (S := (91, [(0, gx_r 0), (1, .inl 0), (2, .inl b)], [gx_r 0], t108, n, 0)) rfl (fun _ => rfl) rfl ?_
          refine gxo_ref (a := 0) (c := 138) rfl g108 rfl rfl rfl rfl rfl ?_
          refine ex_go (S := (95, [(0, gx_r 0), (1, .inl 0), (2, .inl b)], [.inl 0, gx_r 138], t108, n, 0)) rfl (fun _ => rfl) rfl ?_
          refine ex_go (S := (96, [(0, gx_r 0), (1, .inl 0), (2, .inl b)], [.inl 1, .inl 0, gx_r 138], t108, n, 0)) rfl (fun _ => rfl) rfl ?_
          refine gx_apv (d := 2) rfl (fun _ => rfl) g108 rfl rfl rfl (show 0 < 4 from by omega) rfl (ai_in_h (by omega) (by omega) (by omega)) rfl (fun t109 g109 k109 e109 => ?_)
          refine ex_go (S := (98, [(0, gx_r 0), (1, .inl 0), (2, .inl b)], [.inl 1], t109, n, 0)) rfl (fun _ => rfl) rfl ?_
          refine ex_ret (r := (some (.inl 1), t109, n, 0)) rfl (fun _ => rfl) ?_
          refine ⟨_, rfl, 1, t109, rfl, fun _ => ⟨rfl, fun i hi => ?_⟩, fun h => absurd h (by omega)⟩
          rcases (show i = 0 ∨ i = 1 ∨ i = 2 ∨ i = 3 by omega) with rfl | rfl | rfl | rfl
          · rw [if_pos rfl]; exact k109
          · rw [if_neg (by decide)]; exact (e109 138 1 (by omega)).trans ((e108 138 1 (by omega)).trans ((e107 138 1 (by omega)).trans (hF 1 (by omega))))
          · rw [if_neg (by decide)]; exact (e109 138 2 (by omega)).trans ((e108 138 2 (by omega)).trans ((e107 138 2 (by omega)).trans (hF 2 (by omega))))
          · rw [if_neg (by decide)]; exact (e109 138 3 (by omega)).trans ((e108 138 3 (by omega)).trans ((e107 138 3 (by omega)).trans (hF 3 (by omega))))
        · refine gx_1f (c := .eq) rfl (by omega) hc6 rfl ?_
          refine ex_go (S := (29, [(0, gx_r 0), (1, .inl 0), (2, .inl b)], [gx_r 0], t0, n, 0)) rfl (fun _ => rfl) rfl ?_
          refine gxo_ref (a := 0) (c := 8) rfl g0 rfl rfl rfl rfl rfl ?_
          refine ex_go (S := (33, [(0, gx_r 0), (1, .inl 0), (2, .inl b)], [gx_r 0, gx_r 8], t0, n, 0)) rfl (fun _ => rfl) rfl ?_
          refine gxo_ref (a := 0) (c := 136) rfl g0 rfl rfl rfl rfl rfl ?_
          refine ex_go (S := (37, [(0, gx_r 0), (1, .inl 0), (2, .inl b)], [.inl 0, gx_r 136, gx_r 8], t0, n, 0)) rfl (fun _ => rfl) rfl ?_
          refine gx_ag (v := gx_r 335) (cb := fun c => Nat.ble 4 c && Nat.ble c 7) rfl (fun _ => rfl) g0 rfl rfl (gx_slr g0 rfl (by decide) rfl) (by omega) rfl ?_
          obtain ⟨⟨rv110, t110, rn110, rs110⟩, r110, hn110, hs110, g110, fr110, E110, o110, ho110, ro110, hh110⟩ := ac_all (d + 1) 162 ce_162_33 (show ce_162_33 ∈ cm_162 from (List.mem_cons_of_mem _ (List.mem_cons_of_mem _ (List.mem_cons_of_mem _ (List.mem_cons_of_mem _ (List.mem_cons_of_mem _ (List.mem_cons_of_mem _ (List.mem_cons_of_mem _ (List.mem_cons_of_mem _ (List.mem_cons_of_mem _ (List.mem_cons_of_mem _ (List.mem_cons_of_mem _ (List.mem_cons_of_mem _ (List.mem_cons_of_mem _ (List.mem_cons_of_mem _ (List.mem_cons_of_mem _ (List.mem_cons_of_mem _ (List.mem_cons_of_mem _ (List.mem_cons_of_mem _ (List.mem_cons_of_mem _ (List.mem_cons_of_mem _ (List.mem_cons_of_mem _ (List.mem_cons_of_mem _ (List.mem_cons_of_mem _ (List.mem_cons_of_mem _ (List.mem_cons_of_mem _ (List.mem_cons_of_mem _ (List.mem_cons_of_mem _ (List.mem_cons_of_mem _ (List.mem_cons_of_mem _ (List.mem_cons_of_mem _ (List.mem_cons_of_mem _ (List.mem_cons_of_mem _ (List.mem_cons_of_mem _ List.mem_cons_self)))))))))))))))))))))))))))))))))) (Nat.lt_of_lt_of_le (show ce_162_33.1 < 1 by decide) (by omega)) (fun _ => 0) [gx_r 8, gx_r 335] t0 n ⟨gx_vref 8, gx_vref 335, trivial⟩ g0 (fun q hq => absurd hq List.not_mem_nil) hE
          have hn110 : n = rn110 := hn110.symm
          have hs110 : rs110 = 0 := hs110
          subst hn110 hs110
          have ho110 := List.mem_singleton.mp ho110
          subst ho110
          have hv110 : rv110 = none := by
            cases rv110 with
            | none => rfl
            | some w => exact ro110.elim
          subst hv110
          have e110 : ∀ c i, ¬ (8 ≤ c ∧ c ≤ 14) → ai_hv t110 c i = ai_hv t0 c i := fun c i h => fr110 c i (fun z => h (inw_rng (by decide) z))
          refine gx_callo (a := 8) rfl rfl g0 rfl rfl rfl r110 rfl ?_
          show en_ex _ _ _ _ (41, [(0, gx_r 0), (1, .inl 0), (2, .inl b)], [], t110, n, 0) _
          refine ex_go (S := (42, [(0, gx_r 0), (1, .inl 0), (2, .inl b)], [gx_r 0], t110, n, 0)) rfl (fun _ => rfl) rfl ?_
          refine gxo_ref (a := 0) (c := 139) rfl g110 rfl rfl rfl rfl rfl ?_
          refine ex_go (S := (46, [(0, gx_r 0), (1, .inl 0), (2, .inl b)], [gx_r 0, gx_r 139], t110, n, 0)) rfl (fun _ => rfl) rfl ?_
          refine gxo_ref (a := 0) (c := 137) rfl g110 rfl rfl rfl rfl rfl ?_
          refine ex_go (S := (50, [(0, gx_r 0), (1, .inl 0), (2, .inl b)], [.inl 0, gx_r 137, gx_r 139], t110, n, 0)) rfl (fun _ => rfl) rfl ?_
          refine gx_ag (v := gx_r 342) (cb := fun c => Nat.ble 4 c && Nat.ble c 7) rfl (fun _ => rfl) g110 rfl rfl (gx_slr g110 rfl (by decide) rfl) (by omega) rfl ?_
          obtain ⟨⟨rv111, t111, rn111, rs111⟩, r111, hn111, hs111, g111, fr111, E111, o111, ho111, ro111, hh111⟩ := ac_all (d + 1) 170 ce_170_1 (show ce_170_1 ∈ cm_170 from (List.mem_cons_of_mem _ List.mem_cons_self)) (Nat.lt_of_lt_of_le (show ce_170_1.1 < 1 by decide) (by omega)) (fun _ => 0) [gx_r 139, gx_r 342] t110 n ⟨gx_vref 139, gx_vref 342, trivial⟩ g110 (fun q hq => absurd hq List.not_mem_nil) E110
          have hn111 : n = rn111 := hn111.symm
          have hs111 : rs111 = 0 := hs111
          subst hn111 hs111
          have ho111 := List.mem_singleton.mp ho111
          subst ho111
          have hv111 : rv111 = none := by
            cases rv111 with
            | none => rfl
            | some w => exact ro111.elim
          subst hv111
          have e111 : ∀ c i, ¬ (139 ≤ c ∧ c ≤ 145) → ai_hv t111 c i = ai_hv t110 c i := fun c i h => fr111 c i (fun z => h (inw_rng (by decide) z))
          refine gx_callo (a := 139) rfl rfl g110 rfl rfl rfl r111 rfl ?_
          show en_ex _ _ _ _ (54, [(0, gx_r 0), (1, .inl 0), (2, .inl b)], [], t111, n, 0) _
          refine ex_go (S := (55, [(0, gx_r 0), (1, .inl 0), (2, .inl b)], [gx_r 0], t111, n, 0)) rfl (fun _ => rfl) rfl ?_
          refine gxo_ref (a := 0) (c := 22) rfl g111 rfl rfl rfl rfl rfl ?_
          obtain ⟨_, r112, t112, rfl, g112, e112, -⟩ := pz_pclear d n g111
          refine gx_callo (a := 22) rfl rfl g111 rfl rfl rfl r112 rfl ?_
          show en_ex _ _ _ _ (61, [(0, gx_r 0), (1, .inl 0), (2, .inl b)], [], t112, n, 0) _
          refine ex_go (S := (97, [(0, gx_r 0), (1, .inl 0), (2, .inl b)], [], t112, n, 0)) rfl (fun _ => rfl) rfl ?_
          refine ex_go (S := (98, [(0, gx_r 0), (1, .inl 0), (2, .inl b)], [.inl 1], t112, n, 0)) rfl (fun _ => rfl) rfl ?_
          refine ex_ret (r := (some (.inl 1), t112, n, 0)) rfl (fun _ => rfl) ?_
          refine ⟨_, rfl, 1, t112, rfl, fun _ => ⟨rfl, fun i hi => ?_⟩, fun h => absurd h (by omega)⟩
          rcases (show i = 0 ∨ i = 1 ∨ i = 2 ∨ i = 3 by omega) with rfl | rfl | rfl | rfl
          · rw [if_pos rfl, show (1 : Nat) = F 0 by omega]; exact (e112 138 0 (by omega)).trans ((e111 138 0 (by omega)).trans ((e110 138 0 (by omega)).trans (hF 0 (by omega))))
          · rw [if_neg (by decide)]; exact (e112 138 1 (by omega)).trans ((e111 138 1 (by omega)).trans ((e110 138 1 (by omega)).trans (hF 1 (by omega))))
          · rw [if_neg (by decide)]; exact (e112 138 2 (by omega)).trans ((e111 138 2 (by omega)).trans ((e110 138 2 (by omega)).trans (hF 2 (by omega))))
          · rw [if_neg (by decide)]; exact (e112 138 3 (by omega)).trans ((e111 138 3 (by omega)).trans ((e110 138 3 (by omega)).trans (hF 3 (by omega))))
      · refine ex_go (S := (25, [(0, gx_r 0), (1, .inl 1), (2, .inl b)], [.inl b], t0, n, 0)) rfl (fun _ => rfl) rfl ?_
        by_cases hc13 : b = 0
        · refine gx_1t (c := .eq) rfl (by omega) hc13 rfl ?_
          refine ex_go (S := (65, [(0, gx_r 0), (1, .inl 1), (2, .inl b)], [gx_r 0], t0, n, 0)) rfl (fun _ => rfl) rfl ?_
          refine gxo_ref (a := 0) (c := 136) rfl g0 rfl rfl rfl rfl rfl ?_
          refine ex_go (S := (69, [(0, gx_r 0), (1, .inl 1), (2, .inl b)], [.inl 1, gx_r 136], t0, n, 0)) rfl (fun _ => rfl) rfl ?_
          refine gx_ag (v := gx_r 347) (cb := fun c => Nat.ble 4 c && Nat.ble c 7) rfl (fun _ => rfl) g0 rfl rfl (gx_slr g0 rfl (by decide) rfl) (by omega) rfl ?_
          refine ex_go (S := (71, [(0, gx_r 0), (1, .inl 1), (2, .inl b)], [gx_r 0, gx_r 347], t0, n, 0)) rfl (fun _ => rfl) rfl ?_
          refine gxo_ref (a := 0) (c := 8) rfl g0 rfl rfl rfl rfl rfl ?_
          obtain ⟨⟨rv114, t114, rn114, rs114⟩, r114, hn114, hs114, g114, fr114, E114, o114, ho114, ro114, hh114⟩ := ac_all (d + 1) 162 ce_162_40 (show ce_162_40 ∈ cm_162 from (List.mem_cons_of_mem _ (List.mem_cons_of_mem _ (List.mem_cons_of_mem _ (List.mem_cons_of_mem _ (List.mem_cons_of_mem _ (List.mem_cons_of_mem _ (List.mem_cons_of_mem _ (List.mem_cons_of_mem _ (List.mem_cons_of_mem _ (List.mem_cons_of_mem _ (List.mem_cons_of_mem _ (List.mem_cons_of_mem _ (List.mem_cons_of_mem _ (List.mem_cons_of_mem _ (List.mem_cons_of_mem _ (List.mem_cons_of_mem _ (List.mem_cons_of_mem _ (List.mem_cons_of_mem _ (List.mem_cons_of_mem _ (List.mem_cons_of_mem _ (List.mem_cons_of_mem _ (List.mem_cons_of_mem _ (List.mem_cons_of_mem _ (List.mem_cons_of_mem _ (List.mem_cons_of_mem _ (List.mem_cons_of_mem _ (List.mem_cons_of_mem _ (List.mem_cons_of_mem _ (List.mem_cons_of_mem _ (List.mem_cons_of_mem _ (List.mem_cons_of_mem _ (List.mem_cons_of_mem _ (List.mem_cons_of_mem _ (List.mem_cons_of_mem _ (List.mem_cons_of_mem _ (List.mem_cons_of_mem _ (List.mem_cons_of_mem _ (List.mem_cons_of_mem _ (List.mem_cons_of_mem _ (List.mem_cons_of_mem _ List.mem_cons_self))))))))))))))))))))))))))))))))))))))))) (Nat.lt_of_lt_of_le (show ce_162_40.1 < 1 by decide) (by omega)) (fun _ => 0) [gx_r 347, gx_r 8] t0 n ⟨gx_vref 347, gx_vref 8, trivial⟩ g0 (fun q hq => absurd hq List.not_mem_nil) hE
          have hn114 : n = rn114 := hn114.symm
          have hs114 : rs114 = 0 := hs114
          subst hn114 hs114
          have ho114 := List.mem_singleton.mp ho114
          subst ho114
          have hv114 : rv114 = none := by
            cases rv114 with
            | none => rfl
            | some w => exact ro114.elim
          subst hv114
          have e114 : ∀ c i, ¬ (347 ≤ c ∧ c ≤ 353) → ai_hv t114 c i = ai_hv t0 c i := fun c i h => fr114 c i (fun z => h (inw_rng (by decide) z))
          refine gx_callo (a := 347) rfl rfl g0 rfl rfl rfl r114 rfl ?_
          show en_ex _ _ _ _ (77, [(0, gx_r 0), (1, .inl 1), (2, .inl b)], [], t114, n, 0) _
          refine ex_go (S := (78, [(0, gx_r 0), (1, .inl 1), (2, .inl b)], [gx_r 0], t114, n, 0)) rfl (fun _ => rfl) rfl ?_
          refine gxo_ref (a := 0) (c := 137) rfl g114 rfl rfl rfl rfl rfl ?_
          refine ex_go (S := (82, [(0, gx_r 0), (1, .inl 1), (2, .inl b)], [.inl 1, gx_r 137], t114, n, 0)) rfl (fun _ => rfl) rfl ?_
          refine gx_ag (v := gx_r 354) (cb := fun c => Nat.ble 4 c && Nat.ble c 7) rfl (fun _ => rfl) g114 rfl rfl (gx_slr g114 rfl (by decide) rfl) (by omega) rfl ?_
          refine ex_go (S := (84, [(0, gx_r 0), (1, .inl 1), (2, .inl b)], [gx_r 0, gx_r 354], t114, n, 0)) rfl (fun _ => rfl) rfl ?_
          refine gxo_ref (a := 0) (c := 139) rfl g114 rfl rfl rfl rfl rfl ?_
          obtain ⟨⟨rv115, t115, rn115, rs115⟩, r115, hn115, hs115, g115, fr115, E115, o115, ho115, ro115, hh115⟩ := ac_all (d + 1) 170 ce_170_6 (show ce_170_6 ∈ cm_170 from (List.mem_cons_of_mem _ (List.mem_cons_of_mem _ (List.mem_cons_of_mem _ (List.mem_cons_of_mem _ (List.mem_cons_of_mem _ (List.mem_cons_of_mem _ List.mem_cons_self))))))) (Nat.lt_of_lt_of_le (show ce_170_6.1 < 1 by decide) (by omega)) (fun _ => 0) [gx_r 354, gx_r 139] t114 n ⟨gx_vref 354, gx_vref 139, trivial⟩ g114 (fun q hq => absurd hq List.not_mem_nil) E114
          have hn115 : n = rn115 := hn115.symm
          have hs115 : rs115 = 0 := hs115
          subst hn115 hs115
          have ho115 := List.mem_singleton.mp ho115
          subst ho115
          have hv115 : rv115 = none := by
            cases rv115 with
            | none => rfl
            | some w => exact ro115.elim
          subst hv115
          have e115 : ∀ c i, ¬ (354 ≤ c ∧ c ≤ 360) → ai_hv t115 c i = ai_hv t114 c i := fun c i h => fr115 c i (fun z => h (inw_rng (by decide) z))
          refine gx_callo (a := 354) rfl rfl g114 rfl rfl rfl r115 rfl ?_
          show en_ex _ _ _ _ (90, [(0, gx_r 0), (1, .inl 1), (2, .inl b)], [], t115, n, 0) _
          refine ex_go (S := (91, [(0, gx_r 0), (1, .inl 1), (2, .inl b)], [gx_r 0], t115, n, 0)) rfl (fun _ => rfl) rfl ?_
          refine gxo_ref (a := 0) (c := 138) rfl g115 rfl rfl rfl rfl rfl ?_
          refine ex_go (S := (95, [(0, gx_r 0), (1, .inl 1), (2, .inl b)], [.inl 1, gx_r 138], t115, n, 0)) rfl (fun _ => rfl) rfl ?_
          refine ex_go (S := (96, [(0, gx_r 0), (1, .inl 1), (2, .inl b)], [.inl 1, .inl 1, gx_r 138], t115, n, 0)) rfl (fun _ => rfl) rfl ?_
          refine gx_apv (d := 2) rfl (fun _ => rfl) g115 rfl rfl rfl (show 1 < 4 from by omega) rfl (ai_in_h (by omega) (by omega) (by omega)) rfl (fun t116 g116 k116 e116 => ?_)
          refine ex_go (S := (98, [(0, gx_r 0), (1, .inl 1), (2, .inl b)], [.inl 1], t116, n, 0)) rfl (fun _ => rfl) rfl ?_
          refine ex_ret (r := (some (.inl 1), t116, n, 0)) rfl (fun _ => rfl) ?_
          refine ⟨_, rfl, 1, t116, rfl, fun _ => ⟨rfl, fun i hi => ?_⟩, fun h => absurd h (by omega)⟩
          rcases (show i = 0 ∨ i = 1 ∨ i = 2 ∨ i = 3 by omega) with rfl | rfl | rfl | rfl
          · rw [if_neg (by decide)]; exact (e116 138 0 (by omega)).trans ((e115 138 0 (by omega)).trans ((e114 138 0 (by omega)).trans (hF 0 (by omega))))
          · rw [if_pos rfl]; exact k116
          · rw [if_neg (by decide)]; exact (e116 138 2 (by omega)).trans ((e115 138 2 (by omega)).trans ((e114 138 2 (by omega)).trans (hF 2 (by omega))))
          · rw [if_neg (by decide)]; exact (e116 138 3 (by omega)).trans ((e115 138 3 (by omega)).trans ((e114 138 3 (by omega)).trans (hF 3 (by omega))))
        · refine gx_1f (c := .eq) rfl (by omega) hc13 rfl ?_
          refine ex_go (S := (29, [(0, gx_r 0), (1, .inl 1), (2, .inl b)], [gx_r 0], t0, n, 0)) rfl (fun _ => rfl) rfl ?_
          refine gxo_ref (a := 0) (c := 8) rfl g0 rfl rfl rfl rfl rfl ?_
          refine ex_go (S := (33, [(0, gx_r 0), (1, .inl 1), (2, .inl b)], [gx_r 0, gx_r 8], t0, n, 0)) rfl (fun _ => rfl) rfl ?_
          refine gxo_ref (a := 0) (c := 136) rfl g0 rfl rfl rfl rfl rfl ?_
          refine ex_go (S := (37, [(0, gx_r 0), (1, .inl 1), (2, .inl b)], [.inl 1, gx_r 136, gx_r 8], t0, n, 0)) rfl (fun _ => rfl) rfl ?_
          refine gx_ag (v := gx_r 347) (cb := fun c => Nat.ble 4 c && Nat.ble c 7) rfl (fun _ => rfl) g0 rfl rfl (gx_slr g0 rfl (by decide) rfl) (by omega) rfl ?_
          obtain ⟨⟨rv117, t117, rn117, rs117⟩, r117, hn117, hs117, g117, fr117, E117, o117, ho117, ro117, hh117⟩ := ac_all (d + 1) 162 ce_162_34 (show ce_162_34 ∈ cm_162 from (List.mem_cons_of_mem _ (List.mem_cons_of_mem _ (List.mem_cons_of_mem _ (List.mem_cons_of_mem _ (List.mem_cons_of_mem _ (List.mem_cons_of_mem _ (List.mem_cons_of_mem _ (List.mem_cons_of_mem _ (List.mem_cons_of_mem _ (List.mem_cons_of_mem _ (List.mem_cons_of_mem _ (List.mem_cons_of_mem _ (List.mem_cons_of_mem _ (List.mem_cons_of_mem _ (List.mem_cons_of_mem _ (List.mem_cons_of_mem _ (List.mem_cons_of_mem _ (List.mem_cons_of_mem _ (List.mem_cons_of_mem _ (List.mem_cons_of_mem _ (List.mem_cons_of_mem _ (List.mem_cons_of_mem _ (List.mem_cons_of_mem _ (List.mem_cons_of_mem _ (List.mem_cons_of_mem _ (List.mem_cons_of_mem _ (List.mem_cons_of_mem _ (List.mem_cons_of_mem _ (List.mem_cons_of_mem _ (List.mem_cons_of_mem _ (List.mem_cons_of_mem _ (List.mem_cons_of_mem _ (List.mem_cons_of_mem _ (List.mem_cons_of_mem _ List.mem_cons_self))))))))))))))))))))))))))))))))))) (Nat.lt_of_lt_of_le (show ce_162_34.1 < 1 by decide) (by omega)) (fun _ => 0) [gx_r 8, gx_r 347] t0 n ⟨gx_vref 8, gx_vref 347, trivial⟩ g0 (fun q hq => absurd hq List.not_mem_nil) hE
          have hn117 : n = rn117 := hn117.symm
          have hs117 : rs117 = 0 := hs117
          subst hn117 hs117
          have ho117 := List.mem_singleton.mp ho117
          subst ho117
          have hv117 : rv117 = none := by
            cases rv117 with
            | none => rfl
            | some w => exact ro117.elim
          subst hv117
          have e117 : ∀ c i, ¬ (8 ≤ c ∧ c ≤ 14) → ai_hv t117 c i = ai_hv t0 c i := fun c i h => fr117 c i (fun z => h (inw_rng (by decide) z))
          refine gx_callo (a := 8) rfl rfl g0 rfl rfl rfl r117 rfl ?_
          show en_ex _ _ _ _ (41, [(0, gx_r 0), (1, .inl 1), (2, .inl b)], [], t117, n, 0) _
          refine ex_go (S := (42, [(0, gx_r 0), (1, .inl 1), (2, .inl b)], [gx_r 0], t117, n, 0)) rfl (fun _ => rfl) rfl ?_
          refine gxo_ref (a := 0) (c := 139) rfl g117 rfl rfl rfl rfl rfl ?_
          refine ex_go (S := (46, [(0, gx_r 0), (1, .inl 1), (2, .inl b)], [gx_r 0, gx_r 139], t117, n, 0)) rfl (fun _ => rfl) rfl ?_
          refine gxo_ref (a := 0) (c := 137) rfl g117 rfl rfl rfl rfl rfl ?_
          refine ex_go (S := (50, [(0, gx_r 0), (1, .inl 1), (2, .inl b)], [.inl 1, gx_r 137, gx_r 139], t117, n, 0)) rfl (fun _ => rfl) rfl ?_
          refine gx_ag (v := gx_r 354) (cb := fun c => Nat.ble 4 c && Nat.ble c 7) rfl (fun _ => rfl) g117 rfl rfl (gx_slr g117 rfl (by decide) rfl) (by omega) rfl ?_
          obtain ⟨⟨rv118, t118, rn118, rs118⟩, r118, hn118, hs118, g118, fr118, E118, o118, ho118, ro118, hh118⟩ := ac_all (d + 1) 170 ce_170_7 (show ce_170_7 ∈ cm_170 from (List.mem_cons_of_mem _ (List.mem_cons_of_mem _ (List.mem_cons_of_mem _ (List.mem_cons_of_mem _ (List.mem_cons_of_mem _ (List.mem_cons_of_mem _ (List.mem_cons_of_mem _ List.mem_cons_self)))))))) (Nat.lt_of_lt_of_le (show ce_170_7.1 < 1 by decide) (by omega)) (fun _ => 0) [gx_r 139, gx_r 354] t117 n ⟨gx_vref 139, gx_vref 354, trivial⟩ g117 (fun q hq => absurd hq List.not_mem_nil) E117
          have hn118 : n = rn118 := hn118.symm
          have hs118 : rs118 = 0 := hs118
          subst hn118 hs118
          have ho118 := List.mem_singleton.mp ho118
          subst ho118
          have hv118 : rv118 = none := by
            cases rv118 with
            | none => rfl
            | some w => exact ro118.elim
          subst hv118
          have e118 : ∀ c i, ¬ (139 ≤ c ∧ c ≤ 145) → ai_hv t118 c i = ai_hv t117 c i := fun c i h => fr118 c i (fun z => h (inw_rng (by decide) z))
          refine gx_callo (a := 139) rfl rfl g117 rfl rfl rfl r118 rfl ?_
          show en_ex _ _ _ _ (54, [(0, gx_r 0), (1, .inl 1), (2, .inl b)], [], t118, n, 0) _
          refine ex_go (S := (55, [(0, gx_r 0), (1, .inl 1), (2, .inl b)], [gx_r 0], t118, n, 0)) rfl (fun _ => rfl) rfl ?_
          refine gxo_ref (a := 0) (c := 22) rfl g118 rfl rfl rfl rfl rfl ?_
          obtain ⟨_, r119, t119, rfl, g119, e119, -⟩ := pz_pclear d n g118
          refine gx_callo (a := 22) rfl rfl g118 rfl rfl rfl r119 rfl ?_
          show en_ex _ _ _ _ (61, [(0, gx_r 0), (1, .inl 1), (2, .inl b)], [], t119, n, 0) _
          refine ex_go (S := (97, [(0, gx_r 0), (1, .inl 1), (2, .inl b)], [], t119, n, 0)) rfl (fun _ => rfl) rfl ?_
          refine ex_go (S := (98, [(0, gx_r 0), (1, .inl 1), (2, .inl b)], [.inl 1], t119, n, 0)) rfl (fun _ => rfl) rfl ?_
          refine ex_ret (r := (some (.inl 1), t119, n, 0)) rfl (fun _ => rfl) ?_
          refine ⟨_, rfl, 1, t119, rfl, fun _ => ⟨rfl, fun i hi => ?_⟩, fun h => absurd h (by omega)⟩
          rcases (show i = 0 ∨ i = 1 ∨ i = 2 ∨ i = 3 by omega) with rfl | rfl | rfl | rfl
          · rw [if_neg (by decide)]; exact (e119 138 0 (by omega)).trans ((e118 138 0 (by omega)).trans ((e117 138 0 (by omega)).trans (hF 0 (by omega))))
          · rw [if_pos rfl, show (1 : Nat) = F 1 by omega]; exact (e119 138 1 (by omega)).trans ((e118 138 1 (by omega)).trans ((e117 138 1 (by omega)).trans (hF 1 (by omega))))
          · rw [if_neg (by decide)]; exact (e119 138 2 (by omega)).trans ((e118 138 2 (by omega)).trans ((e117 138 2 (by omega)).trans (hF 2 (by omega))))
          · rw [if_neg (by decide)]; exact (e119 138 3 (by omega)).trans ((e118 138 3 (by omega)).trans ((e117 138 3 (by omega)).trans (hF 3 (by omega))))
      · refine ex_go (S := (25, [(0, gx_r 0), (1, .inl 2), (2, .inl b)], [.inl b], t0, n, 0)) rfl (fun _ => rfl) rfl ?_
        by_cases hc20 : b = 0
        · refine gx_1t (c := .eq) rfl (by omega) hc20 rfl ?_
          refine ex_go (S := (65, [(0, gx_r 0), (1, .inl 2), (2, .inl b)], [gx_r 0], t0, n, 0)) rfl (fun _ => rfl) rfl ?_
          refine gxo_ref (a := 0) (c := 136) rfl g0 rfl rfl rfl rfl rfl ?_
          refine ex_go (S := (69, [(0, gx_r 0), (1, .inl 2), (2, .inl b)], [.inl 2, gx_r 136], t0, n, 0)) rfl (fun _ => rfl) rfl ?_
          refine gx_ag (v := gx_r 359) (cb := fun c => Nat.ble 4 c && Nat.ble c 7) rfl (fun _ => rfl) g0 rfl rfl (gx_slr g0 rfl (by decide) rfl) (by omega) rfl ?_
          refine ex_go (S := (71, [(0, gx_r 0), (1, .inl 2), (2, .inl b)], [gx_r 0, gx_r 359], t0, n, 0)) rfl (fun _ => rfl) rfl ?_
          refine gxo_ref (a := 0) (c := 8) rfl g0 rfl rfl rfl rfl rfl ?_
          obtain ⟨⟨rv121, t121, rn121, rs121⟩, r121, hn121, hs121, g121, fr121, E121, o121, ho121, ro121, hh121⟩ := ac_all (d + 1) 162 ce_162_38 (show ce_162_38 ∈ cm_162 from (List.mem_cons_of_mem _ (List.mem_cons_of_mem _ (List.mem_cons_of_mem _ (List.mem_cons_of_mem _ (List.mem_cons_of_mem _ (List.mem_cons_of_mem _ (List.mem_cons_of_mem _ (List.mem_cons_of_mem _ (List.mem_cons_of_mem _ (List.mem_cons_of_mem _ (List.mem_cons_of_mem _ (List.mem_cons_of_mem _ (List.mem_cons_of_mem _ (List.mem_cons_of_mem _ (List.mem_cons_of_mem _ (List.mem_cons_of_mem _ (List.mem_cons_of_mem _ (List.mem_cons_of_mem _ (List.mem_cons_of_mem _ (List.mem_cons_of_mem _ (List.mem_cons_of_mem _ (List.mem_cons_of_mem _ (List.mem_cons_of_mem _ (List.mem_cons_of_mem _ (List.mem_cons_of_mem _ (List.mem_cons_of_mem _ (List.mem_cons_of_mem _ (List.mem_cons_of_mem _ (List.mem_cons_of_mem _ (List.mem_cons_of_mem _ (List.mem_cons_of_mem _ (List.mem_cons_of_mem _ (List.mem_cons_of_mem _ (List.mem_cons_of_mem _ (List.mem_cons_of_mem _ (List.mem_cons_of_mem _ (List.mem_cons_of_mem _ (List.mem_cons_of_mem _ List.mem_cons_self))))))))))))))))))))))))))))))))))))))) (Nat.lt_of_lt_of_le (show ce_162_38.1 < 1 by decide) (by omega)) (fun _ => 0) [gx_r 359, gx_r 8] t0 n ⟨gx_vref 359, gx_vref 8, trivial⟩ g0 (fun q hq => absurd hq List.not_mem_nil) hE
          have hn121 : n = rn121 := hn121.symm
          have hs121 : rs121 = 0 := hs121
          subst hn121 hs121
          have ho121 := List.mem_singleton.mp ho121
          subst ho121
          have hv121 : rv121 = none := by
            cases rv121 with
            | none => rfl
            | some w => exact ro121.elim
          subst hv121
          have e121 : ∀ c i, ¬ (359 ≤ c ∧ c ≤ 365) → ai_hv t121 c i = ai_hv t0 c i := fun c i h => fr121 c i (fun z => h (inw_rng (by decide) z))
          refine gx_callo (a := 359) rfl rfl g0 rfl rfl rfl r121 rfl ?_
          show en_ex _ _ _ _ (77, [(0, gx_r 0), (1, .inl 2), (2, .inl b)], [], t121, n, 0) _
          refine ex_go (S := (78, [(0, gx_r 0), (1, .inl 2), (2, .inl b)], [gx_r 0], t121, n, 0)) rfl (fun _ => rfl) rfl ?_
          refine gxo_ref (a := 0) (c := 137) rfl g121 rfl rfl rfl rfl rfl ?_
          refine ex_go (S := (82, [(0, gx_r 0), (1, .inl 2), (2, .inl b)], [.inl 2, gx_r 137], t121, n, 0)) rfl (fun _ => rfl) rfl ?_
          refine gx_ag (v := gx_r 366) (cb := fun c => Nat.ble 4 c && Nat.ble c 7) rfl (fun _ => rfl) g121 rfl rfl (gx_slr g121 rfl (by decide) rfl) (by omega) rfl ?_
          refine ex_go (S := (84, [(0, gx_r 0), (1, .inl 2), (2, .inl b)], [gx_r 0, gx_r 366], t121, n, 0)) rfl (fun _ => rfl) rfl ?_
          refine gxo_ref (a := 0) (c := 139) rfl g121 rfl rfl rfl rfl rfl ?_
          obtain ⟨⟨rv122, t122, rn122, rs122⟩, r122, hn122, hs122, g122, fr122, E122, o122, ho122, ro122, hh122⟩ := ac_all (d + 1) 170 ce_170_4 (show ce_170_4 ∈ cm_170 from (List.mem_cons_of_mem _ (List.mem_cons_of_mem _ (List.mem_cons_of_mem _ (List.mem_cons_of_mem _ List.mem_cons_self))))) (Nat.lt_of_lt_of_le (show ce_170_4.1 < 1 by decide) (by omega)) (fun _ => 0) [gx_r 366, gx_r 139] t121 n ⟨gx_vref 366, gx_vref 139, trivial⟩ g121 (fun q hq => absurd hq List.not_mem_nil) E121
          have hn122 : n = rn122 := hn122.symm
          have hs122 : rs122 = 0 := hs122
          subst hn122 hs122
          have ho122 := List.mem_singleton.mp ho122
          subst ho122
          have hv122 : rv122 = none := by
            cases rv122 with
            | none => rfl
            | some w => exact ro122.elim
          subst hv122
          have e122 : ∀ c i, ¬ (366 ≤ c ∧ c ≤ 372) → ai_hv t122 c i = ai_hv t121 c i := fun c i h => fr122 c i (fun z => h (inw_rng (by decide) z))
          refine gx_callo (a := 366) rfl rfl g121 rfl rfl rfl r122 rfl ?_
          show en_ex _ _ _ _ (90, [(0, gx_r 0), (1, .inl 2), (2, .inl b)], [], t122, n, 0) _
          refine ex_go (S := (91, [(0, gx_r 0), (1, .inl 2), (2, .inl b)], [gx_r 0], t122, n, 0)) rfl (fun _ => rfl) rfl ?_
          refine gxo_ref (a := 0) (c := 138) rfl g122 rfl rfl rfl rfl rfl ?_
          refine ex_go (S := (95, [(0, gx_r 0), (1, .inl 2), (2, .inl b)], [.inl 2, gx_r 138], t122, n, 0)) rfl (fun _ => rfl) rfl ?_
          refine ex_go (S := (96, [(0, gx_r 0), (1, .inl 2), (2, .inl b)], [.inl 1, .inl 2, gx_r 138], t122, n, 0)) rfl (fun _ => rfl) rfl ?_
          refine gx_apv (d := 2) rfl (fun _ => rfl) g122 rfl rfl rfl (show 2 < 4 from by omega) rfl (ai_in_h (by omega) (by omega) (by omega)) rfl (fun t123 g123 k123 e123 => ?_)
          refine ex_go (S := (98, [(0, gx_r 0), (1, .inl 2), (2, .inl b)], [.inl 1], t123, n, 0)) rfl (fun _ => rfl) rfl ?_
          refine ex_ret (r := (some (.inl 1), t123, n, 0)) rfl (fun _ => rfl) ?_
          refine ⟨_, rfl, 1, t123, rfl, fun _ => ⟨rfl, fun i hi => ?_⟩, fun h => absurd h (by omega)⟩
          rcases (show i = 0 ∨ i = 1 ∨ i = 2 ∨ i = 3 by omega) with rfl | rfl | rfl | rfl
          · rw [if_neg (by decide)]; exact (e123 138 0 (by omega)).trans ((e122 138 0 (by omega)).trans ((e121 138 0 (by omega)).trans (hF 0 (by omega))))
          · rw [if_neg (by decide)]; exact (e123 138 1 (by omega)).trans ((e122 138 1 (by omega)).trans ((e121 138 1 (by omega)).trans (hF 1 (by omega))))
          · rw [if_pos rfl]; exact k123
          · rw [if_neg (by decide)]; exact (e123 138 3 (by omega)).trans ((e122 138 3 (by omega)).trans ((e121 138 3 (by omega)).trans (hF 3 (by omega))))
        · refine gx_1f (c := .eq) rfl (by omega) hc20 rfl ?_
          refine ex_go (S := (29, [(0, gx_r 0), (1, .inl 2), (2, .inl b)], [gx_r 0], t0, n, 0)) rfl (fun _ => rfl) rfl ?_
          refine gxo_ref (a := 0) (c := 8) rfl g0 rfl rfl rfl rfl rfl ?_
          refine ex_go (S := (33, [(0, gx_r 0), (1, .inl 2), (2, .inl b)], [gx_r 0, gx_r 8], t0, n, 0)) rfl (fun _ => rfl) rfl ?_
          refine gxo_ref (a := 0) (c := 136) rfl g0 rfl rfl rfl rfl rfl ?_
          refine ex_go (S := (37, [(0, gx_r 0), (1, .inl 2), (2, .inl b)], [.inl 2, gx_r 136, gx_r 8], t0, n, 0)) rfl (fun _ => rfl) rfl ?_
          refine gx_ag (v := gx_r 359) (cb := fun c => Nat.ble 4 c && Nat.ble c 7) rfl (fun _ => rfl) g0 rfl rfl (gx_slr g0 rfl (by decide) rfl) (by omega) rfl ?_
          obtain ⟨⟨rv124, t124, rn124, rs124⟩, r124, hn124, hs124, g124, fr124, E124, o124, ho124, ro124, hh124⟩ := ac_all (d + 1) 162 ce_162_35 (show ce_162_35 ∈ cm_162 from (List.mem_cons_of_mem _ (List.mem_cons_of_mem _ (List.mem_cons_of_mem _ (List.mem_cons_of_mem _ (List.mem_cons_of_mem _ (List.mem_cons_of_mem _ (List.mem_cons_of_mem _ (List.mem_cons_of_mem _ (List.mem_cons_of_mem _ (List.mem_cons_of_mem _ (List.mem_cons_of_mem _ (List.mem_cons_of_mem _ (List.mem_cons_of_mem _ (List.mem_cons_of_mem _ (List.mem_cons_of_mem _ (List.mem_cons_of_mem _ (List.mem_cons_of_mem _ (List.mem_cons_of_mem _ (List.mem_cons_of_mem _ (List.mem_cons_of_mem _ (List.mem_cons_of_mem _ (List.mem_cons_of_mem _ (List.mem_cons_of_mem _ (List.mem_cons_of_mem _ (List.mem_cons_of_mem _ (List.mem_cons_of_mem _ (List.mem_cons_of_mem _ (List.mem_cons_of_mem _ (List.mem_cons_of_mem _ (List.mem_cons_of_mem _ (List.mem_cons_of_mem _ (List.mem_cons_of_mem _ (List.mem_cons_of_mem _ (List.mem_cons_of_mem _ (List.mem_cons_of_mem _ List.mem_cons_self)))))))))))))))))))))))))))))))))))) (Nat.lt_of_lt_of_le (show ce_162_35.1 < 1 by decide) (by omega)) (fun _ => 0) [gx_r 8, gx_r 359] t0 n ⟨gx_vref 8, gx_vref 359, trivial⟩ g0 (fun q hq => absurd hq List.not_mem_nil) hE
          have hn124 : n = rn124 := hn124.symm
          have hs124 : rs124 = 0 := hs124
          subst hn124 hs124
          have ho124 := List.mem_singleton.mp ho124
          subst ho124
          have hv124 : rv124 = none := by
            cases rv124 with
            | none => rfl
            | some w => exact ro124.elim
          subst hv124
          have e124 : ∀ c i, ¬ (8 ≤ c ∧ c ≤ 14) → ai_hv t124 c i = ai_hv t0 c i := fun c i h => fr124 c i (fun z => h (inw_rng (by decide) z))
          refine gx_callo (a := 8) rfl rfl g0 rfl rfl rfl r124 rfl ?_
          show en_ex _ _ _ _ (41, [(0, gx_r 0), (1, .inl 2), (2, .inl b)], [], t124, n, 0) _
          refine ex_go (S := (42, [(0, gx_r 0), (1, .inl 2), (2, .inl b)], [gx_r 0], t124, n, 0)) rfl (fun _ => rfl) rfl ?_
          refine gxo_ref (a := 0) (c := 139) rfl g124 rfl rfl rfl rfl rfl ?_
          refine ex_go (S := (46, [(0, gx_r 0), (1, .inl 2), (2, .inl b)], [gx_r 0, gx_r 139], t124, n, 0)) rfl (fun _ => rfl) rfl ?_
          refine gxo_ref (a := 0) (c := 137) rfl g124 rfl rfl rfl rfl rfl ?_
          refine ex_go (S := (50, [(0, gx_r 0), (1, .inl 2), (2, .inl b)], [.inl 2, gx_r 137, gx_r 139], t124, n, 0)) rfl (fun _ => rfl) rfl ?_
          refine gx_ag (v := gx_r 366) (cb := fun c => Nat.ble 4 c && Nat.ble c 7) rfl (fun _ => rfl) g124 rfl rfl (gx_slr g124 rfl (by decide) rfl) (by omega) rfl ?_
          obtain ⟨⟨rv125, t125, rn125, rs125⟩, r125, hn125, hs125, g125, fr125, E125, o125, ho125, ro125, hh125⟩ := ac_all (d + 1) 170 ce_170_0 (show ce_170_0 ∈ cm_170 from List.mem_cons_self) (Nat.lt_of_lt_of_le (show ce_170_0.1 < 1 by decide) (by omega)) (fun _ => 0) [gx_r 139, gx_r 366] t124 n ⟨gx_vref 139, gx_vref 366, trivial⟩ g124 (fun q hq => absurd hq List.not_mem_nil) E124
          have hn125 : n = rn125 := hn125.symm
          have hs125 : rs125 = 0 := hs125
          subst hn125 hs125
          have ho125 := List.mem_singleton.mp ho125
          subst ho125
          have hv125 : rv125 = none := by
            cases rv125 with
            | none => rfl
            | some w => exact ro125.elim
          subst hv125
          have e125 : ∀ c i, ¬ (139 ≤ c ∧ c ≤ 145) → ai_hv t125 c i = ai_hv t124 c i := fun c i h => fr125 c i (fun z => h (inw_rng (by decide) z))
          refine gx_callo (a := 139) rfl rfl g124 rfl rfl rfl r125 rfl ?_
          show en_ex _ _ _ _ (54, [(0, gx_r 0), (1, .inl 2), (2, .inl b)], [], t125, n, 0) _
          refine ex_go (S := (55, [(0, gx_r 0), (1, .inl 2), (2, .inl b)], [gx_r 0], t125, n, 0)) rfl (fun _ => rfl) rfl ?_
          refine gxo_ref (a := 0) (c := 22) rfl g125 rfl rfl rfl rfl rfl ?_
          obtain ⟨_, r126, t126, rfl, g126, e126, -⟩ := pz_pclear d n g125
          refine gx_callo (a := 22) rfl rfl g125 rfl rfl rfl r126 rfl ?_
          show en_ex _ _ _ _ (61, [(0, gx_r 0), (1, .inl 2), (2, .inl b)], [], t126, n, 0) _
          refine ex_go (S := (97, [(0, gx_r 0), (1, .inl 2), (2, .inl b)], [], t126, n, 0)) rfl (fun _ => rfl) rfl ?_
          refine ex_go (S := (98, [(0, gx_r 0), (1, .inl 2), (2, .inl b)], [.inl 1], t126, n, 0)) rfl (fun _ => rfl) rfl ?_
          refine ex_ret (r := (some (.inl 1), t126, n, 0)) rfl (fun _ => rfl) ?_
          refine ⟨_, rfl, 1, t126, rfl, fun _ => ⟨rfl, fun i hi => ?_⟩, fun h => absurd h (by omega)⟩
          rcases (show i = 0 ∨ i = 1 ∨ i = 2 ∨ i = 3 by omega) with rfl | rfl | rfl | rfl
          · rw [if_neg (by decide)]; exact (e126 138 0 (by omega)).trans ((e125 138 0 (by omega)).trans ((e124 138 0 (by omega)).trans (hF 0 (by omega))))
          · rw [if_neg (by decide)]; exact (e126 138 1 (by omega)).trans ((e125 138 1 (by omega)).trans ((e124 138 1 (by omega)).trans (hF 1 (by omega))))
          · rw [if_pos rfl, show (1 : Nat) = F 2 by omega]; exact (e126 138 2 (by omega)).trans ((e125 138 2 (by omega)).trans ((e124 138 2 (by omega)).trans (hF 2 (by omega))))
          · rw [if_neg (by decide)]; exact (e126 138 3 (by omega)).trans ((e125 138 3 (by omega)).trans ((e124 138 3 (by omega)).trans (hF 3 (by omega))))
      · refine ex_go (S := (25, [(0, gx_r 0), (1, .inl 3), (2, .inl b)], [.inl b], t0, n, 0)) rfl (fun _ => rfl) rfl ?_
        by_cases hc27 : b = 0
        · refine gx_1t (c := .eq) rfl (by omega) hc27 rfl ?_
          refine ex_go (S := (65, [(0, gx_r 0), (1, .inl 3), (2, .inl b)], [gx_r 0], t0, n, 0)) rfl (fun _ => rfl) rfl ?_
          refine gxo_ref (a := 0) (c := 136) rfl g0 rfl rfl rfl rfl rfl ?_
          refine ex_go (S := (69, [(0, gx_r 0), (1, .inl 3), (2, .inl b)], [.inl 3, gx_r 136], t0, n, 0)) rfl (fun _ => rfl) rfl ?_
          refine gx_ag (v := gx_r 371) (cb := fun c => Nat.ble 4 c && Nat.ble c 7) rfl (fun _ => rfl) g0 rfl rfl (gx_slr g0 rfl (by decide) rfl) (by omega) rfl ?_
          refine ex_go (S := (71, [(0, gx_r 0), (1, .inl 3), (2, .inl b)], [gx_r 0, gx_r 371], t0, n, 0)) rfl (fun _ => rfl) rfl ?_
          refine gxo_ref (a := 0) (c := 8) rfl g0 rfl rfl rfl rfl rfl ?_
          obtain ⟨⟨rv128, t128, rn128, rs128⟩, r128, hn128, hs128, g128, fr128, E128, o128, ho128, ro128, hh128⟩ := ac_all (d + 1) 162 ce_162_36 (show ce_162_36 ∈ cm_162 from (List.mem_cons_of_mem _ (List.mem_cons_of_mem _ (List.mem_cons_of_mem _ (List.mem_cons_of_mem _ (List.mem_cons_of_mem _ (List.mem_cons_of_mem _ (List.mem_cons_of_mem _ (List.mem_cons_of_mem _ (List.mem_cons_of_mem _ (List.mem_cons_of_mem _ (List.mem_cons_of_mem _ (List.mem_cons_of_mem _ (List.mem_cons_of_mem _ (List.mem_cons_of_mem _ (List.mem_cons_of_mem _ (List.mem_cons_of_mem _ (List.mem_cons_of_mem _ (List.mem_cons_of_mem _ (List.mem_cons_of_mem _ (List.mem_cons_of_mem _ (List.mem_cons_of_mem _ (List.mem_cons_of_mem _ (List.mem_cons_of_mem _ (List.mem_cons_of_mem _ (List.mem_cons_of_mem _ (List.mem_cons_of_mem _ (List.mem_cons_of_mem _ (List.mem_cons_of_mem _ (List.mem_cons_of_mem _ (List.mem_cons_of_mem _ (List.mem_cons_of_mem _ (List.mem_cons_of_mem _ (List.mem_cons_of_mem _ (List.mem_cons_of_mem _ (List.mem_cons_of_mem _ (List.mem_cons_of_mem _ List.mem_cons_self))))))))))))))))))))))))))))))))))))) (Nat.lt_of_lt_of_le (show ce_162_36.1 < 1 by decide) (by omega)) (fun _ => 0) [gx_r 371, gx_r 8] t0 n ⟨gx_vref 371, gx_vref 8, trivial⟩ g0 (fun q hq => absurd hq List.not_mem_nil) hE
          have hn128 : n = rn128 := hn128.symm
          have hs128 : rs128 = 0 := hs128
          subst hn128 hs128
          have ho128 := List.mem_singleton.mp ho128
          subst ho128
          have hv128 : rv128 = none := by
            cases rv128 with
            | none => rfl
            | some w => exact ro128.elim
          subst hv128
          have e128 : ∀ c i, ¬ (371 ≤ c ∧ c ≤ 377) → ai_hv t128 c i = ai_hv t0 c i := fun c i h => fr128 c i (fun z => h (inw_rng (by decide) z))
          refine gx_callo (a := 371) rfl rfl g0 rfl rfl rfl r128 rfl ?_
          show en_ex _ _ _ _ (77, [(0, gx_r 0), (1, .inl 3), (2, .inl b)], [], t128, n, 0) _
          refine ex_go (S := (78, [(0, gx_r 0), (1, .inl 3), (2, .inl b)], [gx_r 0], t128, n, 0)) rfl (fun _ => rfl) rfl ?_
          refine gxo_ref (a := 0) (c := 137) rfl g128 rfl rfl rfl rfl rfl ?_
          refine ex_go (S := (82, [(0, gx_r 0), (1, .inl 3), (2, .inl b)], [.inl 3, gx_r 137], t128, n, 0)) rfl (fun _ => rfl) rfl ?_
          refine gx_ag (v := gx_r 378) (cb := fun c => Nat.ble 4 c && Nat.ble c 7) rfl (fun _ => rfl) g128 rfl rfl (gx_slr g128 rfl (by decide) rfl) (by omega) rfl ?_
          refine ex_go (S := (84, [(0, gx_r 0), (1, .inl 3), (2, .inl b)], [gx_r 0, gx_r 378], t128, n, 0)) rfl (fun _ => rfl) rfl ?_
          refine gxo_ref (a := 0) (c := 139) rfl g128 rfl rfl rfl rfl rfl ?_
          obtain ⟨⟨rv129, t129, rn129, rs129⟩, r129, hn129, hs129, g129, fr129, E129, o129, ho129, ro129, hh129⟩ := ac_all (d + 1) 170 ce_170_5 (show ce_170_5 ∈ cm_170 from (List.mem_cons_of_mem _ (List.mem_cons_of_mem _ (List.mem_cons_of_mem _ (List.mem_cons_of_mem _ (List.mem_cons_of_mem _ List.mem_cons_self)))))) (Nat.lt_of_lt_of_le (show ce_170_5.1 < 1 by decide) (by omega)) (fun _ => 0) [gx_r 378, gx_r 139] t128 n ⟨gx_vref 378, gx_vref 139, trivial⟩ g128 (fun q hq => absurd hq List.not_mem_nil) E128
          have hn129 : n = rn129 := hn129.symm
          have hs129 : rs129 = 0 := hs129
          subst hn129 hs129
          have ho129 := List.mem_singleton.mp ho129
          subst ho129
          have hv129 : rv129 = none := by
            cases rv129 with
            | none => rfl
            | some w => exact ro129.elim
          subst hv129
          have e129 : ∀ c i, ¬ (378 ≤ c ∧ c ≤ 384) → ai_hv t129 c i = ai_hv t128 c i := fun c i h => fr129 c i (fun z => h (inw_rng (by decide) z))
          refine gx_callo (a := 378) rfl rfl g128 rfl rfl rfl r129 rfl ?_
          show en_ex _ _ _ _ (90, [(0, gx_r 0), (1, .inl 3), (2, .inl b)], [], t129, n, 0) _
          refine ex_go (S := (91, [(0, gx_r 0), (1, .inl 3), (2, .inl b)], [gx_r 0], t129, n, 0)) rfl (fun _ => rfl) rfl ?_
          refine gxo_ref (a := 0) (c := 138) rfl g129 rfl rfl rfl rfl rfl ?_
          refine ex_go (S := (95, [(0, gx_r 0), (1, .inl 3), (2, .inl b)], [.inl 3, gx_r 138], t129, n, 0)) rfl (fun _ => rfl) rfl ?_
          refine ex_go (S := (96, [(0, gx_r 0), (1, .inl 3), (2, .inl b)], [.inl 1, .inl 3, gx_r 138], t129, n, 0)) rfl (fun _ => rfl) rfl ?_
          refine gx_apv (d := 2) rfl (fun _ => rfl) g129 rfl rfl rfl (show 3 < 4 from by omega) rfl (ai_in_h (by omega) (by omega) (by omega)) rfl (fun t130 g130 k130 e130 => ?_)
          refine ex_go (S := (98, [(0, gx_r 0), (1, .inl 3), (2, .inl b)], [.inl 1], t130, n, 0)) rfl (fun _ => rfl) rfl ?_
          refine ex_ret (r := (some (.inl 1), t130, n, 0)) rfl (fun _ => rfl) ?_
          refine ⟨_, rfl, 1, t130, rfl, fun _ => ⟨rfl, fun i hi => ?_⟩, fun h => absurd h (by omega)⟩
          rcases (show i = 0 ∨ i = 1 ∨ i = 2 ∨ i = 3 by omega) with rfl | rfl | rfl | rfl
          · rw [if_neg (by decide)]; exact (e130 138 0 (by omega)).trans ((e129 138 0 (by omega)).trans ((e128 138 0 (by omega)).trans (hF 0 (by omega))))
          · rw [if_neg (by decide)]; exact (e130 138 1 (by omega)).trans ((e129 138 1 (by omega)).trans ((e128 138 1 (by omega)).trans (hF 1 (by omega))))
          · rw [if_neg (by decide)]; exact (e130 138 2 (by omega)).trans ((e129 138 2 (by omega)).trans ((e128 138 2 (by omega)).trans (hF 2 (by omega))))
          · rw [if_pos rfl]; exact k130
        · refine gx_1f (c := .eq) rfl (by omega) hc27 rfl ?_
          refine ex_go (S := (29, [(0, gx_r 0), (1, .inl 3), (2, .inl b)], [gx_r 0], t0, n, 0)) rfl (fun _ => rfl) rfl ?_
          refine gxo_ref (a := 0) (c := 8) rfl g0 rfl rfl rfl rfl rfl ?_
          refine ex_go (S := (33, [(0, gx_r 0), (1, .inl 3), (2, .inl b)], [gx_r 0, gx_r 8], t0, n, 0)) rfl (fun _ => rfl) rfl ?_
          refine gxo_ref (a := 0) (c := 136) rfl g0 rfl rfl rfl rfl rfl ?_
          refine ex_go (S := (37, [(0, gx_r 0), (1, .inl 3), (2, .inl b)], [.inl 3, gx_r 136, gx_r 8], t0, n, 0)) rfl (fun _ => rfl) rfl ?_
          refine gx_ag (v := gx_r 371) (cb := fun c => Nat.ble 4 c && Nat.ble c 7) rfl (fun _ => rfl) g0 rfl rfl (gx_slr g0 rfl (by decide) rfl) (by omega) rfl ?_
          obtain ⟨⟨rv131, t131, rn131, rs131⟩, r131, hn131, hs131, g131, fr131, E131, o131, ho131, ro131, hh131⟩ := ac_all (d + 1) 162 ce_162_39 (show ce_162_39 ∈ cm_162 from (List.mem_cons_of_mem _ (List.mem_cons_of_mem _ (List.mem_cons_of_mem _ (List.mem_cons_of_mem _ (List.mem_cons_of_mem _ (List.mem_cons_of_mem _ (List.mem_cons_of_mem _ (List.mem_cons_of_mem _ (List.mem_cons_of_mem _ (List.mem_cons_of_mem _ (List.mem_cons_of_mem _ (List.mem_cons_of_mem _ (List.mem_cons_of_mem _ (List.mem_cons_of_mem _ (List.mem_cons_of_mem _ (List.mem_cons_of_mem _ (List.mem_cons_of_mem _ (List.mem_cons_of_mem _ (List.mem_cons_of_mem _ (List.mem_cons_of_mem _ (List.mem_cons_of_mem _ (List.mem_cons_of_mem _ (List.mem_cons_of_mem _ (List.mem_cons_of_mem _ (List.mem_cons_of_mem _ (List.mem_cons_of_mem _ (List.mem_cons_of_mem _ (List.mem_cons_of_mem _ (List.mem_cons_of_mem _ (List.mem_cons_of_mem _ (List.mem_cons_of_mem _ (List.mem_cons_of_mem _ (List.mem_cons_of_mem _ (List.mem_cons_of_mem _ (List.mem_cons_of_mem _ (List.mem_cons_of_mem _ (List.mem_cons_of_mem _ (List.mem_cons_of_mem _ (List.mem_cons_of_mem _ List.mem_cons_self)))))))))))))))))))))))))))))))))))))))) (Nat.lt_of_lt_of_le (show ce_162_39.1 < 1 by decide) (by omega)) (fun _ => 0) [gx_r 8, gx_r 371] t0 n ⟨gx_vref 8, gx_vref 371, trivial⟩ g0 (fun q hq => absurd hq List.not_mem_nil) hE
          have hn131 : n = rn131 := hn131.symm
          have hs131 : rs131 = 0 := hs131
          subst hn131 hs131
          have ho131 := List.mem_singleton.mp ho131
          subst ho131
          have hv131 : rv131 = none := by
            cases rv131 with
            | none => rfl
            | some w => exact ro131.elim
          subst hv131
          have e131 : ∀ c i, ¬ (8 ≤ c ∧ c ≤ 14) → ai_hv t131 c i = ai_hv t0 c i := fun c i h => fr131 c i (fun z => h (inw_rng (by decide) z))
          refine gx_callo (a := 8) rfl rfl g0 rfl rfl rfl r131 rfl ?_
          show en_ex _ _ _ _ (41, [(0, gx_r 0), (1, .inl 3), (2, .inl b)], [], t131, n, 0) _
          refine ex_go (S := (42, [(0, gx_r 0), (1, .inl 3), (2, .inl b)], [gx_r 0], t131, n, 0)) rfl (fun _ => rfl) rfl ?_
          refine gxo_ref (a := 0) (c := 139) rfl g131 rfl rfl rfl rfl rfl ?_
          refine ex_go (S := (46, [(0, gx_r 0), (1, .inl 3), (2, .inl b)], [gx_r 0, gx_r 139], t131, n, 0)) rfl (fun _ => rfl) rfl ?_
          refine gxo_ref (a := 0) (c := 137) rfl g131 rfl rfl rfl rfl rfl ?_
          refine ex_go (S := (50, [(0, gx_r 0), (1, .inl 3), (2, .inl b)], [.inl 3, gx_r 137, gx_r 139], t131, n, 0)) rfl (fun _ => rfl) rfl ?_
          refine gx_ag (v := gx_r 378) (cb := fun c => Nat.ble 4 c && Nat.ble c 7) rfl (fun _ => rfl) g131 rfl rfl (gx_slr g131 rfl (by decide) rfl) (by omega) rfl ?_
          obtain ⟨⟨rv132, t132, rn132, rs132⟩, r132, hn132, hs132, g132, fr132, E132, o132, ho132, ro132, hh132⟩ := ac_all (d + 1) 170 ce_170_3 (show ce_170_3 ∈ cm_170 from (List.mem_cons_of_mem _ (List.mem_cons_of_mem _ (List.mem_cons_of_mem _ List.mem_cons_self)))) (Nat.lt_of_lt_of_le (show ce_170_3.1 < 1 by decide) (by omega)) (fun _ => 0) [gx_r 139, gx_r 378] t131 n ⟨gx_vref 139, gx_vref 378, trivial⟩ g131 (fun q hq => absurd hq List.not_mem_nil) E131
          have hn132 : n = rn132 := hn132.symm
          have hs132 : rs132 = 0 := hs132
          subst hn132 hs132
          have ho132 := List.mem_singleton.mp ho132
          subst ho132
          have hv132 : rv132 = none := by
            cases rv132 with
            | none => rfl
            | some w => exact ro132.elim
          subst hv132
          have e132 : ∀ c i, ¬ (139 ≤ c ∧ c ≤ 145) → ai_hv t132 c i = ai_hv t131 c i := fun c i h => fr132 c i (fun z => h (inw_rng (by decide) z))
          refine gx_callo (a := 139) rfl rfl g131 rfl rfl rfl r132 rfl ?_
          show en_ex _ _ _ _ (54, [(0, gx_r 0), (1, .inl 3), (2, .inl b)], [], t132, n, 0) _
          refine ex_go (S := (55, [(0, gx_r 0), (1, .inl 3), (2, .inl b)], [gx_r 0], t132, n, 0)) rfl (fun _ => rfl) rfl ?_
          refine gxo_ref (a := 0) (c := 22) rfl g132 rfl rfl rfl rfl rfl ?_
          obtain ⟨_, r133, t133, rfl, g133, e133, -⟩ := pz_pclear d n g132
          refine gx_callo (a := 22) rfl rfl g132 rfl rfl rfl r133 rfl ?_
          show en_ex _ _ _ _ (61, [(0, gx_r 0), (1, .inl 3), (2, .inl b)], [], t133, n, 0) _
          refine ex_go (S := (97, [(0, gx_r 0), (1, .inl 3), (2, .inl b)], [], t133, n, 0)) rfl (fun _ => rfl) rfl ?_
          refine ex_go (S := (98, [(0, gx_r 0), (1, .inl 3), (2, .inl b)], [.inl 1], t133, n, 0)) rfl (fun _ => rfl) rfl ?_
          refine ex_ret (r := (some (.inl 1), t133, n, 0)) rfl (fun _ => rfl) ?_
          refine ⟨_, rfl, 1, t133, rfl, fun _ => ⟨rfl, fun i hi => ?_⟩, fun h => absurd h (by omega)⟩
          rcases (show i = 0 ∨ i = 1 ∨ i = 2 ∨ i = 3 by omega) with rfl | rfl | rfl | rfl
          · rw [if_neg (by decide)]; exact (e133 138 0 (by omega)).trans ((e132 138 0 (by omega)).trans ((e131 138 0 (by omega)).trans (hF 0 (by omega))))
          · rw [if_neg (by decide)]; exact (e133 138 1 (by omega)).trans ((e132 138 1 (by omega)).trans ((e131 138 1 (by omega)).trans (hF 1 (by omega))))
          · rw [if_neg (by decide)]; exact (e133 138 2 (by omega)).trans ((e132 138 2 (by omega)).trans ((e131 138 2 (by omega)).trans (hF 2 (by omega))))
          · rw [if_pos rfl, show (1 : Nat) = F 3 by omega]; exact (e133 138 3 (by omega)).trans ((e132 138 3 (by omega)).trans ((e131 138 3 (by omega)).trans (hF 3 (by omega))))
    · refine gx_1f (c := .eq) rfl (by omega) hc5 rfl ?_
      refine ex_go (S := (14, [(0, gx_r 0), (1, .inl m), (2, .inl b)], [gx_r 0], t0, n, 0)) rfl (fun _ => rfl) rfl ?_
      refine gxo_ref (a := 0) (c := 138) rfl g0 rfl rfl rfl rfl rfl ?_
      refine ex_go (S := (18, [(0, gx_r 0), (1, .inl m), (2, .inl b)], [.inl m, gx_r 138], t0, n, 0)) rfl (fun _ => rfl) rfl ?_
      have hf1 := hF1 m (by omega)
      refine gx_ag (v := .inl (F m)) (cb := fun c => Nat.beq c 2 || Nat.beq c 1) rfl (fun _ => rfl) g0 rfl rfl (hF m (by omega)) (by omega) rfl ?_
      by_cases hc34 : F m ≠ 0
      · refine gx_1t (c := .ne) rfl (by omega) hc34 rfl ?_
        rcases (show m = 0 ∨ m = 1 ∨ m = 2 ∨ m = 3 by omega) with rfl | rfl | rfl | rfl
        · refine ex_go (S := (25, [(0, gx_r 0), (1, .inl 0), (2, .inl b)], [.inl b], t0, n, 0)) rfl (fun _ => rfl) rfl ?_
          by_cases hc35 : b = 0
          · refine gx_1t (c := .eq) rfl (by omega) hc35 rfl ?_
            refine ex_go (S := (65, [(0, gx_r 0), (1, .inl 0), (2, .inl b)], [gx_r 0], t0, n, 0)) rfl (fun _ => rfl) rfl ?_
            refine gxo_ref (a := 0) (c := 136) rfl g0 rfl rfl rfl rfl rfl ?_
            refine ex_go (S := (69, [(0, gx_r 0), (1, .inl 0), (2, .inl b)], [.inl 0, gx_r 136], t0, n, 0)) rfl (fun _ => rfl) rfl ?_
            refine gx_ag (v := gx_r 335) (cb := fun c => Nat.ble 4 c && Nat.ble c 7) rfl (fun _ => rfl) g0 rfl rfl (gx_slr g0 rfl (by decide) rfl) (by omega) rfl ?_
            refine ex_go (S := (71, [(0, gx_r 0), (1, .inl 0), (2, .inl b)], [gx_r 0, gx_r 335], t0, n, 0)) rfl (fun _ => rfl) rfl ?_
            refine gxo_ref (a := 0) (c := 8) rfl g0 rfl rfl rfl rfl rfl ?_
            obtain ⟨⟨rv136, t136, rn136, rs136⟩, r136, hn136, hs136, g136, fr136, E136, o136, ho136, ro136, hh136⟩ := ac_all (d + 1) 162 ce_162_37 (show ce_162_37 ∈ cm_162 from (List.mem_cons_of_mem _ (List.mem_cons_of_mem _ (List.mem_cons_of_mem _ (List.mem_cons_of_mem _ (List.mem_cons_of_mem _ (List.mem_cons_of_mem _ (List.mem_cons_of_mem _ (List.mem_cons_of_mem _ (List.mem_cons_of_mem _ (List.mem_cons_of_mem _ (List.mem_cons_of_mem _ (List.mem_cons_of_mem _ (List.mem_cons_of_mem _ (List.mem_cons_of_mem _ (List.mem_cons_of_mem _ (List.mem_cons_of_mem _ (List.mem_cons_of_mem _ (List.mem_cons_of_mem _ (List.mem_cons_of_mem _ (List.mem_cons_of_mem _ (List.mem_cons_of_mem _ (List.mem_cons_of_mem _ (List.mem_cons_of_mem _ (List.mem_cons_of_mem _ (List.mem_cons_of_mem _ (List.mem_cons_of_mem _ (List.mem_cons_of_mem _ (List.mem_cons_of_mem _ (List.mem_cons_of_mem _ (List.mem_cons_of_mem _ (List.mem_cons_of_mem _ (List.mem_cons_of_mem _ (List.mem_cons_of_mem _ (List.mem_cons_of_mem _ (List.mem_cons_of_mem _ (List.mem_cons_of_mem _ (List.mem_cons_of_mem _ List.mem_cons_self)))))))))))))))))))))))))))))))))))))) (Nat.lt_of_lt_of_le (show ce_162_37.1 < 1 by decide) (by omega)) (fun _ => 0) [gx_r 335, gx_r 8] t0 n ⟨gx_vref 335, gx_vref 8, trivial⟩ g0 (fun q hq => absurd hq List.not_mem_nil) hE
            have hn136 : n = rn136 := hn136.symm
            have hs136 : rs136 = 0 := hs136
            subst hn136 hs136
            have ho136 := List.mem_singleton.mp ho136
            subst ho136
            have hv136 : rv136 = none := by
              cases rv136 with
              | none => rfl
              | some w => exact ro136.elim
            subst hv136
            have e136 : ∀ c i, ¬ (335 ≤ c ∧ c ≤ 341) → ai_hv t136 c i = ai_hv t0 c i := fun c i h => fr136 c i (fun z => h (inw_rng (by decide) z))
            refine gx_callo (a := 335) rfl rfl g0 rfl rfl rfl r136 rfl ?_
            show en_ex _ _ _ _ (77, [(0, gx_r 0), (1, .inl 0), (2, .inl b)], [], t136, n, 0) _
            refine ex_go (S := (78, [(0, gx_r 0), (1, .inl 0), (2, .inl b)], [gx_r 0], t136, n, 0)) rfl (fun _ => rfl) rfl ?_
            refine gxo_ref (a := 0) (c := 137) rfl g136 rfl rfl rfl rfl rfl ?_
            refine ex_go (S := (82, [(0, gx_r 0), (1, .inl 0), (2, .inl b)], [.inl 0, gx_r 137], t136, n, 0)) rfl (fun _ => rfl) rfl ?_
            refine gx_ag (v := gx_r 342) (cb := fun c => Nat.ble 4 c && Nat.ble c 7) rfl (fun _ => rfl) g136 rfl rfl (gx_slr g136 rfl (by decide) rfl) (by omega) rfl ?_
            refine ex_go (S := (84, [(0, gx_r 0), (1, .inl 0), (2, .inl b)], [gx_r 0, gx_r 342], t136, n, 0)) rfl (fun _ => rfl) rfl ?_
            refine gxo_ref (a := 0) (c := 139) rfl g136 rfl rfl rfl rfl rfl ?_
            obtain ⟨⟨rv137, t137, rn137, rs137⟩, r137, hn137, hs137, g137, fr137, E137, o137, ho137, ro137, hh137⟩ := ac_all (d + 1) 170 ce_170_2 (show ce_170_2 ∈ cm_170 from (List.mem_cons_of_mem _ (List.mem_cons_of_mem _ List.mem_cons_self))) (Nat.lt_of_lt_of_le (show ce_170_2.1 < 1 by decide) (by omega)) (fun _ => 0) [gx_r 342, gx_r 139] t136 n ⟨gx_vref 342, gx_vref 139, trivial⟩ g136 (fun q hq => absurd hq List.not_mem_nil) E136
            have hn137 : n = rn137 := hn137.symm
            have hs137 : rs137 = 0 := hs137
            subst hn137 hs137
            have ho137 := List.mem_singleton.mp ho137
            subst ho137
            have hv137 : rv137 = none := by
              cases rv137 with
              | none => rfl
              | some w => exact ro137.elim
            subst hv137
            have e137 : ∀ c i, ¬ (342 ≤ c ∧ c ≤ 348) → ai_hv t137 c i = ai_hv t136 c i := fun c i h => fr137 c i (fun z => h (inw_rng (by decide) z))
            refine gx_callo (a := 342) rfl rfl g136 rfl rfl rfl r137 rfl ?_
            show en_ex _ _ _ _ (90, [(0, gx_r 0), (1, .inl 0), (2, .inl b)], [], t137, n, 0) _
            refine ex_go (S := (91, [(0, gx_r 0), (1, .inl 0), (2, .inl b)], [gx_r 0], t137, n, 0)) rfl (fun _ => rfl) rfl ?_
            refine gxo_ref (a := 0) (c := 138) rfl g137 rfl rfl rfl rfl rfl ?_
            refine ex_go (S := (95, [(0, gx_r 0), (1, .inl 0), (2, .inl b)], [.inl 0, gx_r 138], t137, n, 0)) rfl (fun _ => rfl) rfl ?_
            refine ex_go (S := (96, [(0, gx_r 0), (1, .inl 0), (2, .inl b)], [.inl 1, .inl 0, gx_r 138], t137, n, 0)) rfl (fun _ => rfl) rfl ?_
            refine gx_apv (d := 2) rfl (fun _ => rfl) g137 rfl rfl rfl (show 0 < 4 from by omega) rfl (ai_in_h (by omega) (by omega) (by omega)) rfl (fun t138 g138 k138 e138 => ?_)
            refine ex_go (S := (98, [(0, gx_r 0), (1, .inl 0), (2, .inl b)], [.inl 1], t138, n, 0)) rfl (fun _ => rfl) rfl ?_
            refine ex_ret (r := (some (.inl 1), t138, n, 0)) rfl (fun _ => rfl) ?_
            refine ⟨_, rfl, 1, t138, rfl, fun _ => ⟨rfl, fun i hi => ?_⟩, fun h => absurd h (by omega)⟩
            rcases (show i = 0 ∨ i = 1 ∨ i = 2 ∨ i = 3 by omega) with rfl | rfl | rfl | rfl
            · rw [if_pos rfl]; exact k138
            · rw [if_neg (by decide)]; exact (e138 138 1 (by omega)).trans ((e137 138 1 (by omega)).trans ((e136 138 1 (by omega)).trans (hF 1 (by omega))))
            · rw [if_neg (by decide)]; exact (e138 138 2 (by omega)).trans ((e137 138 2 (by omega)).trans ((e136 138 2 (by omega)).trans (hF 2 (by omega))))
            · rw [if_neg (by decide)]; exact (e138 138 3 (by omega)).trans ((e137 138 3 (by omega)).trans ((e136 138 3 (by omega)).trans (hF 3 (by omega))))
          · refine gx_1f (c := .eq) rfl (by omega) hc35 rfl ?_
            refine ex_go (S := (29, [(0, gx_r 0), (1, .inl 0), (2, .inl b)], [gx_r 0], t0, n, 0)) rfl (fun _ => rfl) rfl ?_
            refine gxo_ref (a := 0) (c := 8) rfl g0 rfl rfl rfl rfl rfl ?_
            refine ex_go (S := (33, [(0, gx_r 0), (1, .inl 0), (2, .inl b)], [gx_r 0, gx_r 8], t0, n, 0)) rfl (fun _ => rfl) rfl ?_
            refine gxo_ref (a := 0) (c := 136) rfl g0 rfl rfl rfl rfl rfl ?_
            refine ex_go (S := (37, [(0, gx_r 0), (1, .inl 0), (2, .inl b)], [.inl 0, gx_r 136, gx_r 8], t0, n, 0)) rfl (fun _ => rfl) rfl ?_
            refine gx_ag (v := gx_r 335) (cb := fun c => Nat.ble 4 c && Nat.ble c 7) rfl (fun _ => rfl) g0 rfl rfl (gx_slr g0 rfl (by decide) rfl) (by omega) rfl ?_
            obtain ⟨⟨rv139, t139, rn139, rs139⟩, r139, hn139, hs139, g139, fr139, E139, o139, ho139, ro139, hh139⟩ := ac_all (d + 1) 162 ce_162_33 (show ce_162_33 ∈ cm_162 from (List.mem_cons_of_mem _ (List.mem_cons_of_mem _ (List.mem_cons_of_mem _ (List.mem_cons_of_mem _ (List.mem_cons_of_mem _ (List.mem_cons_of_mem _ (List.mem_cons_of_mem _ (List.mem_cons_of_mem _ (List.mem_cons_of_mem _ (List.mem_cons_of_mem _ (List.mem_cons_of_mem _ (List.mem_cons_of_mem _ (List.mem_cons_of_mem _ (List.mem_cons_of_mem _ (List.mem_cons_of_mem _ (List.mem_cons_of_mem _ (List.mem_cons_of_mem _ (List.mem_cons_of_mem _ (List.mem_cons_of_mem _ (List.mem_cons_of_mem _ (List.mem_cons_of_mem _ (List.mem_cons_of_mem _ (List.mem_cons_of_mem _ (List.mem_cons_of_mem _ (List.mem_cons_of_mem _ (List.mem_cons_of_mem _ (List.mem_cons_of_mem _ (List.mem_cons_of_mem _ (List.mem_cons_of_mem _ (List.mem_cons_of_mem _ (List.mem_cons_of_mem _ (List.mem_cons_of_mem _ (List.mem_cons_of_mem _ List.mem_cons_self)))))))))))))))))))))))))))))))))) (Nat.lt_of_lt_of_le (show ce_162_33.1 < 1 by decide) (by omega)) (fun _ => 0) [gx_r 8, gx_r 335] t0 n ⟨gx_vref 8, gx_vref 335, trivial⟩ g0 (fun q hq => absurd hq List.not_mem_nil) hE
            have hn139 : n = rn139 := hn139.symm
            have hs139 : rs139 = 0 := hs139
            subst hn139 hs139
            have ho139 := List.mem_singleton.mp ho139
            subst ho139
            have hv139 : rv139 = none := by
              cases rv139 with
              | none => rfl
              | some w => exact ro139.elim
            subst hv139
            have e139 : ∀ c i, ¬ (8 ≤ c ∧ c ≤ 14) → ai_hv t139 c i = ai_hv t0 c i := fun c i h => fr139 c i (fun z => h (inw_rng (by decide) z))
            refine gx_callo (a := 8) rfl rfl g0 rfl rfl rfl r139 rfl ?_
            show en_ex _ _ _ _ (41, [(0, gx_r 0), (1, .inl 0), (2, .inl b)], [], t139, n, 0) _
            refine ex_go (S := (42, [(0, gx_r 0), (1, .inl 0), (2, .inl b)], [gx_r 0], t139, n, 0)) rfl (fun _ => rfl) rfl ?_
            refine gxo_ref (a := 0) (c := 139) rfl g139 rfl rfl rfl rfl rfl ?_
            refine ex_go (S := (46, [(0, gx_r 0), (1, .inl 0), (2, .inl b)], [gx_r 0, gx_r 139], t139, n, 0)) rfl (fun _ => rfl) rfl ?_
            refine gxo_ref (a := 0) (c := 137) rfl g139 rfl rfl rfl rfl rfl ?_
            refine ex_go (S := (50, [(0, gx_r 0), (1, .inl 0), (2, .inl b)], [.inl 0, gx_r 137, gx_r 139], t139, n, 0)) rfl (fun _ => rfl) rfl ?_
            refine gx_ag (v := gx_r 342) (cb := fun c => Nat.ble 4 c && Nat.ble c 7) rfl (fun _ => rfl) g139 rfl rfl (gx_slr g139 rfl (by decide) rfl) (by omega) rfl ?_
            obtain ⟨⟨rv140, t140, rn140, rs140⟩, r140, hn140, hs140, g140, fr140, E140, o140, ho140, ro140, hh140⟩ := ac_all (d + 1) 170 ce_170_1 (show ce_170_1 ∈ cm_170 from (List.mem_cons_of_mem _ List.mem_cons_self)) (Nat.lt_of_lt_of_le (show ce_170_1.1 < 1 by decide) (by omega)) (fun _ => 0) [gx_r 139, gx_r 342] t139 n ⟨gx_vref 139, gx_vref 342, trivial⟩ g139 (fun q hq => absurd hq List.not_mem_nil) E139
            have hn140 : n = rn140 := hn140.symm
            have hs140 : rs140 = 0 := hs140
            subst hn140 hs140
            have ho140 := List.mem_singleton.mp ho140
            subst ho140
            have hv140 : rv140 = none := by
              cases rv140 with
              | none => rfl
              | some w => exact ro140.elim
            subst hv140
            have e140 : ∀ c i, ¬ (139 ≤ c ∧ c ≤ 145) → ai_hv t140 c i = ai_hv t139 c i := fun c i h => fr140 c i (fun z => h (inw_rng (by decide) z))
            refine gx_callo (a := 139) rfl rfl g139 rfl rfl rfl r140 rfl ?_
            show en_ex _ _ _ _ (54, [(0, gx_r 0), (1, .inl 0), (2, .inl b)], [], t140, n, 0) _
            refine ex_go (S := (55, [(0, gx_r 0), (1, .inl 0), (2, .inl b)], [gx_r 0], t140, n, 0)) rfl (fun _ => rfl) rfl ?_
            refine gxo_ref (a := 0) (c := 22) rfl g140 rfl rfl rfl rfl rfl ?_
            obtain ⟨_, r141, t141, rfl, g141, e141, -⟩ := pz_pclear d n g140
            refine gx_callo (a := 22) rfl rfl g140 rfl rfl rfl r141 rfl ?_
            show en_ex _ _ _ _ (61, [(0, gx_r 0), (1, .inl 0), (2, .inl b)], [], t141, n, 0) _
            refine ex_go (S := (97, [(0, gx_r 0), (1, .inl 0), (2, .inl b)], [], t141, n, 0)) rfl (fun _ => rfl) rfl ?_
            refine ex_go (S := (98, [(0, gx_r 0), (1, .inl 0), (2, .inl b)], [.inl 1], t141, n, 0)) rfl (fun _ => rfl) rfl ?_
            refine ex_ret (r := (some (.inl 1), t141, n, 0)) rfl (fun _ => rfl) ?_
            refine ⟨_, rfl, 1, t141, rfl, fun _ => ⟨rfl, fun i hi => ?_⟩, fun h => absurd h (by omega)⟩
            rcases (show i = 0 ∨ i = 1 ∨ i = 2 ∨ i = 3 by omega) with rfl | rfl | rfl | rfl
            · rw [if_pos rfl, show (1 : Nat) = F 0 by omega]; exact (e141 138 0 (by omega)).trans ((e140 138 0 (by omega)).trans ((e139 138 0 (by omega)).trans (hF 0 (by omega))))
            · rw [if_neg (by decide)]; exact (e141 138 1 (by omega)).trans ((e140 138 1 (by omega)).trans ((e139 138 1 (by omega)).trans (hF 1 (by omega))))
            · rw [if_neg (by decide)]; exact (e141 138 2 (by omega)).trans ((e140 138 2 (by omega)).trans ((e139 138 2 (by omega)).trans (hF 2 (by omega))))
            · rw [if_neg (by decide)]; exact (e141 138 3 (by omega)).trans ((e140 138 3 (by omega)).trans ((e139 138 3 (by omega)).trans (hF 3 (by omega))))
        · refine ex_go (S := (25, [(0, gx_r 0), (1, .inl 1), (2, .inl b)], [.inl b], t0, n, 0)) rfl (fun _ => rfl) rfl ?_
          by_cases hc42 : b = 0
          · refine gx_1t (c := .eq) rfl (by omega) hc42 rfl ?_
            refine ex_go (S := (65, [(0, gx_r 0), (1, .inl 1), (2, .inl b)], [gx_r 0], t0, n, 0)) rfl (fun _ => rfl) rfl ?_
            refine gxo_ref (a := 0) (c := 136) rfl g0 rfl rfl rfl rfl rfl ?_
            refine ex_go (S := (69, [(0, gx_r 0), (1, .inl 1), (2, .inl b)], [.inl 1, gx_r 136], t0, n, 0)) rfl (fun _ => rfl) rfl ?_
            refine gx_ag (v := gx_r 347) (cb := fun c => Nat.ble 4 c && Nat.ble c 7) rfl (fun _ => rfl) g0 rfl rfl (gx_slr g0 rfl (by decide) rfl) (by omega) rfl ?_
            refine ex_go (S := (71, [(0, gx_r 0), (1, .inl 1), (2, .inl b)], [gx_r 0, gx_r 347], t0, n, 0)) rfl (fun _ => rfl) rfl ?_
            refine gxo_ref (a := 0) (c := 8) rfl g0 rfl rfl rfl rfl rfl ?_
            obtain ⟨⟨rv143, t143, rn143, rs143⟩, r143, hn143, hs143, g143, fr143, E143, o143, ho143, ro143, hh143⟩ := ac_all (d + 1) 162 ce_162_40 (show ce_162_40 ∈ cm_162 from (List.mem_cons_of_mem _ (List.mem_cons_of_mem _ (List.mem_cons_of_mem _ (List.mem_cons_of_mem _ (List.mem_cons_of_mem _ (List.mem_cons_of_mem _ (List.mem_cons_of_mem _ (List.mem_cons_of_mem _ (List.mem_cons_of_mem _ (List.mem_cons_of_mem _ (List.mem_cons_of_mem _ (List.mem_cons_of_mem _ (List.mem_cons_of_mem _ (List.mem_cons_of_mem _ (List.mem_cons_of_mem _ (List.mem_cons_of_mem _ (List.mem_cons_of_mem _ (List.mem_cons_of_mem _ (List.mem_cons_of_mem _ (List.mem_cons_of_mem _ (List.mem_cons_of_mem _ (List.mem_cons_of_mem _ (List.mem_cons_of_mem _ (List.mem_cons_of_mem _ (List.mem_cons_of_mem _ (List.mem_cons_of_mem _ (List.mem_cons_of_mem _ (List.mem_cons_of_mem _ (List.mem_cons_of_mem _ (List.mem_cons_of_mem _ (List.mem_cons_of_mem _ (List.mem_cons_of_mem _ (List.mem_cons_of_mem _ (List.mem_cons_of_mem _ (List.mem_cons_of_mem _ (List.mem_cons_of_mem _ (List.mem_cons_of_mem _ (List.mem_cons_of_mem _ (List.mem_cons_of_mem _ (List.mem_cons_of_mem _ List.mem_cons_self))))))))))))))))))))))))))))))))))))))))) (Nat.lt_of_lt_of_le (show ce_162_40.1 < 1 by decide) (by omega)) (fun _ => 0) [gx_r 347, gx_r 8] t0 n ⟨gx_vref 347, gx_vref 8, trivial⟩ g0 (fun q hq => absurd hq List.not_mem_nil) hE
            have hn143 : n = rn143 := hn143.symm
            have hs143 : rs143 = 0 := hs143
            subst hn143 hs143
            have ho143 := List.mem_singleton.mp ho143
            subst ho143
            have hv143 : rv143 = none := by
              cases rv143 with
              | none => rfl
              | some w => exact ro143.elim
            subst hv143
            have e143 : ∀ c i, ¬ (347 ≤ c ∧ c ≤ 353) → ai_hv t143 c i = ai_hv t0 c i := fun c i h => fr143 c i (fun z => h (inw_rng (by decide) z))
            refine gx_callo (a := 347) rfl rfl g0 rfl rfl rfl r143 rfl ?_
            show en_ex _ _ _ _ (77, [(0, gx_r 0), (1, .inl 1), (2, .inl b)], [], t143, n, 0) _
            refine ex_go (S := (78, [(0, gx_r 0), (1, .inl 1), (2, .inl b)], [gx_r 0], t143, n, 0)) rfl (fun _ => rfl) rfl ?_
            refine gxo_ref (a := 0) (c := 137) rfl g143 rfl rfl rfl rfl rfl ?_
            refine ex_go (S := (82, [(0, gx_r 0), (1, .inl 1), (2, .inl b)], [.inl 1, gx_r 137], t143, n, 0)) rfl (fun _ => rfl) rfl ?_
            refine gx_ag (v := gx_r 354) (cb := fun c => Nat.ble 4 c && Nat.ble c 7) rfl (fun _ => rfl) g143 rfl rfl (gx_slr g143 rfl (by decide) rfl) (by omega) rfl ?_
            refine ex_go (S := (84, [(0, gx_r 0), (1, .inl 1), (2, .inl b)], [gx_r 0, gx_r 354], t143, n, 0)) rfl (fun _ => rfl) rfl ?_
            refine gxo_ref (a := 0) (c := 139) rfl g143 rfl rfl rfl rfl rfl ?_
            obtain ⟨⟨rv144, t144, rn144, rs144⟩, r144, hn144, hs144, g144, fr144, E144, o144, ho144, ro144, hh144⟩ := ac_all (d + 1) 170 ce_170_6 (show ce_170_6 ∈ cm_170 from (List.mem_cons_of_mem _ (List.mem_cons_of_mem _ (List.mem_cons_of_mem _ (List.mem_cons_of_mem _ (List.mem_cons_of_mem _ (List.mem_cons_of_mem _ List.mem_cons_self))))))) (Nat.lt_of_lt_of_le (show ce_170_6.1 < 1 by decide) (by omega)) (fun _ => 0) [gx_r 354, gx_r 139] t143 n ⟨gx_vref 354, gx_vref 139, trivial⟩ g143 (fun q hq => absurd hq List.not_mem_nil) E143
            have hn144 : n = rn144 := hn144.symm
            have hs144 : rs144 = 0 := hs144
            subst hn144 hs144
            have ho144 := List.mem_singleton.mp ho144
            subst ho144
            have hv144 : rv144 = none := by
              cases rv144 with
              | none => rfl
              | some w => exact ro144.elim
            subst hv144
            have e144 : ∀ c i, ¬ (354 ≤ c ∧ c ≤ 360) → ai_hv t144 c i = ai_hv t143 c i := fun c i h => fr144 c i (fun z => h (inw_rng (by decide) z))
            refine gx_callo (a := 354) rfl rfl g143 rfl rfl rfl r144 rfl ?_
            show en_ex _ _ _ _ (90, [(0, gx_r 0), (1, .inl 1), (2, .inl b)], [], t144, n, 0) _
            refine ex_go (S := (91, [(0, gx_r 0), (1, .inl 1), (2, .inl b)], [gx_r 0], t144, n, 0)) rfl (fun _ => rfl) rfl ?_
            refine gxo_ref (a := 0) (c := 138) rfl g144 rfl rfl rfl rfl rfl ?_
            refine ex_go (S := (95, [(0, gx_r 0), (1, .inl 1), (2, .inl b)], [.inl 1, gx_r 138], t144, n, 0)) rfl (fun _ => rfl) rfl ?_
            refine ex_go (S := (96, [(0, gx_r 0), (1, .inl 1), (2, .inl b)], [.inl 1, .inl 1, gx_r 138], t144, n, 0)) rfl (fun _ => rfl) rfl ?_
            refine gx_apv (d := 2) rfl (fun _ => rfl) g144 rfl rfl rfl (show 1 < 4 from by omega) rfl (ai_in_h (by omega) (by omega) (by omega)) rfl (fun t145 g145 k145 e145 => ?_)
            refine ex_go (S := (98, [(0, gx_r 0), (1, .inl 1), (2, .inl b)], [.inl 1], t145, n, 0)) rfl (fun _ => rfl) rfl ?_
            refine ex_ret (r := (some (.inl 1), t145, n, 0)) rfl (fun _ => rfl) ?_
            refine ⟨_, rfl, 1, t145, rfl, fun _ => ⟨rfl, fun i hi => ?_⟩, fun h => absurd h (by omega)⟩
            rcases (show i = 0 ∨ i = 1 ∨ i = 2 ∨ i = 3 by omega) with rfl | rfl | rfl | rfl
            · rw [if_neg (by decide)]; exact (e145 138 0 (by omega)).trans ((e144 138 0 (by omega)).trans ((e143 138 0 (by omega)).trans (hF 0 (by omega))))
            · rw [if_pos rfl]; exact k145
            · rw [if_neg (by decide)]; exact (e145 138 2 (by omega)).trans ((e144 138 2 (by omega)).trans ((e143 138 2 (by omega)).trans (hF 2 (by omega))))
            · rw [if_neg (by decide)]; exact (e145 138 3 (by omega)).trans ((e144 138 3 (by omega)).trans ((e143 138 3 (by omega)).trans (hF 3 (by omega))))
          · refine gx_1f (c := .eq) rfl (by omega) hc42 rfl ?_
            refine ex_go (S := (29, [(0, gx_r 0), (1, .inl 1), (2, .inl b)], [gx_r 0], t0, n, 0)) rfl (fun _ => rfl) rfl ?_
            refine gxo_ref (a := 0) (c := 8) rfl g0 rfl rfl rfl rfl rfl ?_
            refine ex_go (S := (33, [(0, gx_r 0), (1, .inl 1), (2, .inl b)], [gx_r 0, gx_r 8], t0, n, 0)) rfl (fun _ => rfl) rfl ?_
            refine gxo_ref (a := 0) (c := 136) rfl g0 rfl rfl rfl rfl rfl ?_
            refine ex_go (S := (37, [(0, gx_r 0), (1, .inl 1), (2, .inl b)], [.inl 1, gx_r 136, gx_r 8], t0, n, 0)) rfl (fun _ => rfl) rfl ?_
            refine gx_ag (v := gx_r 347) (cb := fun c => Nat.ble 4 c && Nat.ble c 7) rfl (fun _ => rfl) g0 rfl rfl (gx_slr g0 rfl (by decide) rfl) (by omega) rfl ?_
            obtain ⟨⟨rv146, t146, rn146, rs146⟩, r146, hn146, hs146, g146, fr146, E146, o146, ho146, ro146, hh146⟩ := ac_all (d + 1) 162 ce_162_34 (show ce_162_34 ∈ cm_162 from (List.mem_cons_of_mem _ (List.mem_cons_of_mem _ (List.mem_cons_of_mem _ (List.mem_cons_of_mem _ (List.mem_cons_of_mem _ (List.mem_cons_of_mem _ (List.mem_cons_of_mem _ (List.mem_cons_of_mem _ (List.mem_cons_of_mem _ (List.mem_cons_of_mem _ (List.mem_cons_of_mem _ (List.mem_cons_of_mem _ (List.mem_cons_of_mem _ (List.mem_cons_of_mem _ (List.mem_cons_of_mem _ (List.mem_cons_of_mem _ (List.mem_cons_of_mem _ (List.mem_cons_of_mem _ (List.mem_cons_of_mem _ (List.mem_cons_of_mem _ (List.mem_cons_of_mem _ (List.mem_cons_of_mem _ (List.mem_cons_of_mem _ (List.mem_cons_of_mem _ (List.mem_cons_of_mem _ (List.mem_cons_of_mem _ (List.mem_cons_of_mem _ (List.mem_cons_of_mem _ (List.mem_cons_of_mem _ (List.mem_cons_of_mem _ (List.mem_cons_of_mem _ (List.mem_cons_of_mem _ (List.mem_cons_of_mem _ (List.mem_cons_of_mem _ List.mem_cons_self))))))))))))))))))))))))))))))))))) (Nat.lt_of_lt_of_le (show ce_162_34.1 < 1 by decide) (by omega)) (fun _ => 0) [gx_r 8, gx_r 347] t0 n ⟨gx_vref 8, gx_vref 347, trivial⟩ g0 (fun q hq => absurd hq List.not_mem_nil) hE
            have hn146 : n = rn146 := hn146.symm
            have hs146 : rs146 = 0 := hs146
            subst hn146 hs146
            have ho146 := List.mem_singleton.mp ho146
            subst ho146
            have hv146 : rv146 = none := by
              cases rv146 with
              | none => rfl
              | some w => exact ro146.elim
            subst hv146
            have e146 : ∀ c i, ¬ (8 ≤ c ∧ c ≤ 14) → ai_hv t146 c i = ai_hv t0 c i := fun c i h => fr146 c i (fun z => h (inw_rng (by decide) z))
            refine gx_callo (a := 8) rfl rfl g0 rfl rfl rfl r146 rfl ?_
            show en_ex _ _ _ _ (41, [(0, gx_r 0), (1, .inl 1), (2, .inl b)], [], t146, n, 0) _
            refine ex_go (S := (42, [(0, gx_r 0), (1, .inl 1), (2, .inl b)], [gx_r 0], t146, n, 0)) rfl (fun _ => rfl) rfl ?_
            refine gxo_ref (a := 0) (c := 139) rfl g146 rfl rfl rfl rfl rfl ?_
            refine ex_go (S := (46, [(0, gx_r 0), (1, .inl 1), (2, .inl b)], [gx_r 0, gx_r 139], t146, n, 0)) rfl (fun _ => rfl) rfl ?_
            refine gxo_ref (a := 0) (c := 137) rfl g146 rfl rfl rfl rfl rfl ?_
            refine ex_go (S := (50, [(0, gx_r 0), (1, .inl 1), (2, .inl b)], [.inl 1, gx_r 137, gx_r 139], t146, n, 0)) rfl (fun _ => rfl) rfl ?_
            refine gx_ag (v := gx_r 354) (cb := fun c => Nat.ble 4 c && Nat.ble c 7) rfl (fun _ => rfl) g146 rfl rfl (gx_slr g146 rfl (by decide) rfl) (by omega) rfl ?_
            obtain ⟨⟨rv147, t147, rn147, rs147⟩, r147, hn147, hs147, g147, fr147, E147, o147, ho147, ro147, hh147⟩ := ac_all (d + 1) 170 ce_170_7 (show ce_170_7 ∈ cm_170 from (List.mem_cons_of_mem _ (List.mem_cons_of_mem _ (List.mem_cons_of_mem _ (List.mem_cons_of_mem _ (List.mem_cons_of_mem _ (List.mem_cons_of_mem _ (List.mem_cons_of_mem _ List.mem_cons_self)))))))) (Nat.lt_of_lt_of_le (show ce_170_7.1 < 1 by decide) (by omega)) (fun _ => 0) [gx_r 139, gx_r 354] t146 n ⟨gx_vref 139, gx_vref 354, trivial⟩ g146 (fun q hq => absurd hq List.not_mem_nil) E146
            have hn147 : n = rn147 := hn147.symm
            have hs147 : rs147 = 0 := hs147
            subst hn147 hs147
            have ho147 := List.mem_singleton.mp ho147
            subst ho147
            have hv147 : rv147 = none := by
              cases rv147 with
              | none => rfl
              | some w => exact ro147.elim
            subst hv147
            have e147 : ∀ c i, ¬ (139 ≤ c ∧ c ≤ 145) → ai_hv t147 c i = ai_hv t146 c i := fun c i h => fr147 c i (fun z => h (inw_rng (by decide) z))
            refine gx_callo (a := 139) rfl rfl g146 rfl rfl rfl r147 rfl ?_
            show en_ex _ _ _ _ (54, [(0, gx_r 0), (1, .inl 1), (2, .inl b)], [], t147, n, 0) _
            refine ex_go (S := (55, [(0, gx_r 0), (1, .inl 1), (2, .inl b)], [gx_r 0], t147, n, 0)) rfl (fun _ => rfl) rfl ?_
            refine gxo_ref (a := 0) (c := 22) rfl g147 rfl rfl rfl rfl rfl ?_
            obtain ⟨_, r148, t148, rfl, g148, e148, -⟩ := pz_pclear d n g147
            refine gx_callo (a := 22) rfl rfl g147 rfl rfl rfl r148 rfl ?_
            show en_ex _ _ _ _ (61, [(0, gx_r 0), (1, .inl 1), (2, .inl b)], [], t148, n, 0) _
            refine ex_go (S := (97, [(0, gx_r 0), (1, .inl 1), (2, .inl b)], [], t148, n, 0)) rfl (fun _ => rfl) rfl ?_
            refine ex_go (S := (98, [(0, gx_r 0), (1, .inl 1), (2, .inl b)], [.inl 1], t148, n, 0)) rfl (fun _ => rfl) rfl ?_
            refine ex_ret (r := (some (.inl 1), t148, n, 0)) rfl (fun _ => rfl) ?_
            refine ⟨_, rfl, 1, t148, rfl, fun _ => ⟨rfl, fun i hi => ?_⟩, fun h => absurd h (by omega)⟩
            rcases (show i = 0 ∨ i = 1 ∨ i = 2 ∨ i = 3 by omega) with rfl | rfl | rfl | rfl
            · rw [if_neg (by decide)]; exact (e148 138 0 (by omega)).trans ((e147 138 0 (by omega)).trans ((e146 138 0 (by omega)).trans (hF 0 (by omega))))
            · rw [if_pos rfl, show (1 : Nat) = F 1 by omega]; exact (e148 138 1 (by omega)).trans ((e147 138 1 (by omega)).trans ((e146 138 1 (by omega)).trans (hF 1 (by omega))))
            · rw [if_neg (by decide)]; exact (e148 138 2 (by omega)).trans ((e147 138 2 (by omega)).trans ((e146 138 2 (by omega)).trans (hF 2 (by omega))))
            · rw [if_neg (by decide)]; exact (e148 138 3 (by omega)).trans ((e147 138 3 (by omega)).trans ((e146 138 3 (by omega)).trans (hF 3 (by omega))))
        · refine ex_go (S := (25, [(0, gx_r 0), (1, .inl 2), (2, .inl b)], [.inl b], t0, n, 0)) rfl (fun _ => rfl) rfl ?_
          by_cases hc49 : b = 0
          · refine gx_1t (c := .eq) rfl (by omega) hc49 rfl ?_
            refine ex_go (S := (65, [(0, gx_r 0), (1, .inl 2), (2, .inl b)], [gx_r 0], t0, n, 0)) rfl (fun _ => rfl) rfl ?_
            refine gxo_ref (a := 0) (c := 136) rfl g0 rfl rfl rfl rfl rfl ?_
            refine ex_go (S := (69, [(0, gx_r 0), (1, .inl 2), (2, .inl b)], [.inl 2, gx_r 136], t0, n, 0)) rfl (fun _ => rfl) rfl ?_
            refine gx_ag (v := gx_r 359) (cb := fun c => Nat.ble 4 c && Nat.ble c 7) rfl (fun _ => rfl) g0 rfl rfl (gx_slr g0 rfl (by decide) rfl) (by omega) rfl ?_
            refine ex_go (S := (71, [(0, gx_r 0), (1, .inl 2), (2, .inl b)], [gx_r 0, gx_r 359], t0, n, 0)) rfl (fun _ => rfl) rfl ?_
            refine gxo_ref (a := 0) (c := 8) rfl g0 rfl rfl rfl rfl rfl ?_
            obtain ⟨⟨rv150, t150, rn150, rs150⟩, r150, hn150, hs150, g150, fr150, E150, o150, ho150, ro150, hh150⟩ := ac_all (d + 1) 162 ce_162_38 (show ce_162_38 ∈ cm_162 from (List.mem_cons_of_mem _ (List.mem_cons_of_mem _ (List.mem_cons_of_mem _ (List.mem_cons_of_mem _ (List.mem_cons_of_mem _ (List.mem_cons_of_mem _ (List.mem_cons_of_mem _ (List.mem_cons_of_mem _ (List.mem_cons_of_mem _ (List.mem_cons_of_mem _ (List.mem_cons_of_mem _ (List.mem_cons_of_mem _ (List.mem_cons_of_mem _ (List.mem_cons_of_mem _ (List.mem_cons_of_mem _ (List.mem_cons_of_mem _ (List.mem_cons_of_mem _ (List.mem_cons_of_mem _ (List.mem_cons_of_mem _ (List.mem_cons_of_mem _ (List.mem_cons_of_mem _ (List.mem_cons_of_mem _ (List.mem_cons_of_mem _ (List.mem_cons_of_mem _ (List.mem_cons_of_mem _ (List.mem_cons_of_mem _ (List.mem_cons_of_mem _ (List.mem_cons_of_mem _ (List.mem_cons_of_mem _ (List.mem_cons_of_mem _ (List.mem_cons_of_mem _ (List.mem_cons_of_mem _ (List.mem_cons_of_mem _ (List.mem_cons_of_mem _ (List.mem_cons_of_mem _ (List.mem_cons_of_mem _ (List.mem_cons_of_mem _ (List.mem_cons_of_mem _ List.mem_cons_self))))))))))))))))))))))))))))))))))))))) (Nat.lt_of_lt_of_le (show ce_162_38.1 < 1 by decide) (by omega)) (fun _ => 0) [gx_r 359, gx_r 8] t0 n ⟨gx_vref 359, gx_vref 8, trivial⟩ g0 (fun q hq => absurd hq List.not_mem_nil) hE
            have hn150 : n = rn150 := hn150.symm
            have hs150 : rs150 = 0 := hs150
            subst hn150 hs150
            have ho150 := List.mem_singleton.mp ho150
            subst ho150
            have hv150 : rv150 = none := by
              cases rv150 with
              | none => rfl
              | some w => exact ro150.elim
            subst hv150
            have e150 : ∀ c i, ¬ (359 ≤ c ∧ c ≤ 365) → ai_hv t150 c i = ai_hv t0 c i := fun c i h => fr150 c i (fun z => h (inw_rng (by decide) z))
            refine gx_callo (a := 359) rfl rfl g0 rfl rfl rfl r150 rfl ?_
            show en_ex _ _ _ _ (77, [(0, gx_r 0), (1, .inl 2), (2, .inl b)], [], t150, n, 0) _
            refine ex_go (S := (78, [(0, gx_r 0), (1, .inl 2), (2, .inl b)], [gx_r 0], t150, n, 0)) rfl (fun _ => rfl) rfl ?_
            refine gxo_ref (a := 0) (c := 137) rfl g150 rfl rfl rfl rfl rfl ?_
            refine ex_go (S := (82, [(0, gx_r 0), (1, .inl 2), (2, .inl b)], [.inl 2, gx_r 137], t150, n, 0)) rfl (fun _ => rfl) rfl ?_
            refine gx_ag (v := gx_r 366) (cb := fun c => Nat.ble 4 c && Nat.ble c 7) rfl (fun _ => rfl) g150 rfl rfl (gx_slr g150 rfl (by decide) rfl) (by omega) rfl ?_
            refine ex_go (S := (84, [(0, gx_r 0), (1, .inl 2), (2, .inl b)], [gx_r 0, gx_r 366], t150, n, 0)) rfl (fun _ => rfl) rfl ?_
            refine gxo_ref (a := 0) (c := 139) rfl g150 rfl rfl rfl rfl rfl ?_
            obtain ⟨⟨rv151, t151, rn151, rs151⟩, r151, hn151, hs151, g151, fr151, E151, o151, ho151, ro151, hh151⟩ := ac_all (d + 1) 170 ce_170_4 (show ce_170_4 ∈ cm_170 from (List.mem_cons_of_mem _ (List.mem_cons_of_mem _ (List.mem_cons_of_mem _ (List.mem_cons_of_mem _ List.mem_cons_self))))) (Nat.lt_of_lt_of_le (show ce_170_4.1 < 1 by decide) (by omega)) (fun _ => 0) [gx_r 366, gx_r 139] t150 n ⟨gx_vref 366, gx_vref 139, trivial⟩ g150 (fun q hq => absurd hq List.not_mem_nil) E150
            have hn151 : n = rn151 := hn151.symm
            have hs151 : rs151 = 0 := hs151
            subst hn151 hs151
            have ho151 := List.mem_singleton.mp ho151
            subst ho151
            have hv151 : rv151 = none := by
              cases rv151 with
              | none => rfl
              | some w => exact ro151.elim
            subst hv151
            have e151 : ∀ c i, ¬ (366 ≤ c ∧ c ≤ 372) → ai_hv t151 c i = ai_hv t150 c i := fun c i h => fr151 c i (fun z => h (inw_rng (by decide) z))
            refine gx_callo (a := 366) rfl rfl g150 rfl rfl rfl r151 rfl ?_
            show en_ex _ _ _ _ (90, [(0, gx_r 0), (1, .inl 2), (2, .inl b)], [], t151, n, 0) _
            refine ex_go (S := (91, [(0, gx_r 0), (1, .inl 2), (2, .inl b)], [gx_r 0], t151, n, 0)) rfl (fun _ => rfl) rfl ?_
            refine gxo_ref (a := 0) (c := 138) rfl g151 rfl rfl rfl rfl rfl ?_
            refine ex_go (S := (95, [(0, gx_r 0), (1, .inl 2), (2, .inl b)], [.inl 2, gx_r 138], t151, n, 0)) rfl (fun _ => rfl) rfl ?_
            refine ex_go (S := (96, [(0, gx_r 0), (1, .inl 2), (2, .inl b)], [.inl 1, .inl 2, gx_r 138], t151, n, 0)) rfl (fun _ => rfl) rfl ?_
            refine gx_apv (d := 2) rfl (fun _ => rfl) g151 rfl rfl rfl (show 2 < 4 from by omega) rfl (ai_in_h (by omega) (by omega) (by omega)) rfl (fun t152 g152 k152 e152 => ?_)
            refine ex_go (S := (98, [(0, gx_r 0), (1, .inl 2), (2, .inl b)], [.inl 1], t152, n, 0)) rfl (fun _ => rfl) rfl ?_
            refine ex_ret (r := (some (.inl 1), t152, n, 0)) rfl (fun _ => rfl) ?_
            refine ⟨_, rfl, 1, t152, rfl, fun _ => ⟨rfl, fun i hi => ?_⟩, fun h => absurd h (by omega)⟩
            rcases (show i = 0 ∨ i = 1 ∨ i = 2 ∨ i = 3 by omega) with rfl | rfl | rfl | rfl
            · rw [if_neg (by decide)]; exact (e152 138 0 (by omega)).trans ((e151 138 0 (by omega)).trans ((e150 138 0 (by omega)).trans (hF 0 (by omega))))
            · rw [if_neg (by decide)]; exact (e152 138 1 (by omega)).trans ((e151 138 1 (by omega)).trans ((e150 138 1 (by omega)).trans (hF 1 (by omega))))
            · rw [if_pos rfl]; exact k152
            · rw [if_neg (by decide)]; exact (e152 138 3 (by omega)).trans ((e151 138 3 (by omega)).trans ((e150 138 3 (by omega)).trans (hF 3 (by omega))))
          · refine gx_1f (c := .eq) rfl (by omega) hc49 rfl ?_
            refine ex_go (S := (29, [(0, gx_r 0), (1, .inl 2), (2, .inl b)], [gx_r 0], t0, n, 0)) rfl (fun _ => rfl) rfl ?_
            refine gxo_ref (a := 0) (c := 8) rfl g0 rfl rfl rfl rfl rfl ?_
            refine ex_go (S := (33, [(0, gx_r 0), (1, .inl 2), (2, .inl b)], [gx_r 0, gx_r 8], t0, n, 0)) rfl (fun _ => rfl) rfl ?_
            refine gxo_ref (a := 0) (c := 136) rfl g0 rfl rfl rfl rfl rfl ?_
            refine ex_go (S := (37, [(0, gx_r 0), (1, .inl 2), (2, .inl b)], [.inl 2, gx_r 136, gx_r 8], t0, n, 0)) rfl (fun _ => rfl) rfl ?_
            refine gx_ag (v := gx_r 359) (cb := fun c => Nat.ble 4 c && Nat.ble c 7) rfl (fun _ => rfl) g0 rfl rfl (gx_slr g0 rfl (by decide) rfl) (by omega) rfl ?_
            obtain ⟨⟨rv153, t153, rn153, rs153⟩, r153, hn153, hs153, g153, fr153, E153, o153, ho153, ro153, hh153⟩ := ac_all (d + 1) 162 ce_162_35 (show ce_162_35 ∈ cm_162 from (List.mem_cons_of_mem _ (List.mem_cons_of_mem _ (List.mem_cons_of_mem _ (List.mem_cons_of_mem _ (List.mem_cons_of_mem _ (List.mem_cons_of_mem _ (List.mem_cons_of_mem _ (List.mem_cons_of_mem _ (List.mem_cons_of_mem _ (List.mem_cons_of_mem _ (List.mem_cons_of_mem _ (List.mem_cons_of_mem _ (List.mem_cons_of_mem _ (List.mem_cons_of_mem _ (List.mem_cons_of_mem _ (List.mem_cons_of_mem _ (List.mem_cons_of_mem _ (List.mem_cons_of_mem _ (List.mem_cons_of_mem _ (List.mem_cons_of_mem _ (List.mem_cons_of_mem _ (List.mem_cons_of_mem _ (List.mem_cons_of_mem _ (List.mem_cons_of_mem _ (List.mem_cons_of_mem _ (List.mem_cons_of_mem _ (List.mem_cons_of_mem _ (List.mem_cons_of_mem _ (List.mem_cons_of_mem _ (List.mem_cons_of_mem _ (List.mem_cons_of_mem _ (List.mem_cons_of_mem _ (List.mem_cons_of_mem _ (List.mem_cons_of_mem _ (List.mem_cons_of_mem _ List.mem_cons_self)))))))))))))))))))))))))))))))))))) (Nat.lt_of_lt_of_le (show ce_162_35.1 < 1 by decide) (by omega)) (fun _ => 0) [gx_r 8, gx_r 359] t0 n ⟨gx_vref 8, gx_vref 359, trivial⟩ g0 (fun q hq => absurd hq List.not_mem_nil) hE
            have hn153 : n = rn153 := hn153.symm
            have hs153 : rs153 = 0 := hs153
            subst hn153 hs153
            have ho153 := List.mem_singleton.mp ho153
            subst ho153
            have hv153 : rv153 = none := by
              cases rv153 with
              | none => rfl
              | some w => exact ro153.elim
            subst hv153
            have e153 : ∀ c i, ¬ (8 ≤ c ∧ c ≤ 14) → ai_hv t153 c i = ai_hv t0 c i := fun c i h => fr153 c i (fun z => h (inw_rng (by decide) z))
            refine gx_callo (a := 8) rfl rfl g0 rfl rfl rfl r153 rfl ?_
            show en_ex _ _ _ _ (41, [(0, gx_r 0), (1, .inl 2), (2, .inl b)], [], t153, n, 0) _
            refine ex_go (S := (42, [(0, gx_r 0), (1, .inl 2), (2, .inl b)], [gx_r 0], t153, n, 0)) rfl (fun _ => rfl) rfl ?_
            refine gxo_ref (a := 0) (c := 139) rfl g153 rfl rfl rfl rfl rfl ?_
            refine ex_go (S := (46, [(0, gx_r 0), (1, .inl 2), (2, .inl b)], [gx_r 0, gx_r 139], t153, n, 0)) rfl (fun _ => rfl) rfl ?_
            refine gxo_ref (a := 0) (c := 137) rfl g153 rfl rfl rfl rfl rfl ?_
            refine ex_go (S := (50, [(0, gx_r 0), (1, .inl 2), (2, .inl b)], [.inl 2, gx_r 137, gx_r 139], t153, n, 0)) rfl (fun _ => rfl) rfl ?_
            refine gx_ag (v := gx_r 366) (cb := fun c => Nat.ble 4 c && Nat.ble c 7) rfl (fun _ => rfl) g153 rfl rfl (gx_slr g153 rfl (by decide) rfl) (by omega) rfl ?_
            obtain ⟨⟨rv154, t154, rn154, rs154⟩, r154, hn154, hs154, g154, fr154, E154, o154, ho154, ro154, hh154⟩ := ac_all (d + 1) 170 ce_170_0 (show ce_170_0 ∈ cm_170 from List.mem_cons_self) (Nat.lt_of_lt_of_le (show ce_170_0.1 < 1 by decide) (by omega)) (fun _ => 0) [gx_r 139, gx_r 366] t153 n ⟨gx_vref 139, gx_vref 366, trivial⟩ g153 (fun q hq => absurd hq List.not_mem_nil) E153
            have hn154 : n = rn154 := hn154.symm
            have hs154 : rs154 = 0 := hs154
            subst hn154 hs154
            have ho154 := List.mem_singleton.mp ho154
            subst ho154
            have hv154 : rv154 = none := by
              cases rv154 with
              | none => rfl
              | some w => exact ro154.elim
            subst hv154
            have e154 : ∀ c i, ¬ (139 ≤ c ∧ c ≤ 145) → ai_hv t154 c i = ai_hv t153 c i := fun c i h => fr154 c i (fun z => h (inw_rng (by decide) z))
            refine gx_callo (a := 139) rfl rfl g153 rfl rfl rfl r154 rfl ?_
            show en_ex _ _ _ _ (54, [(0, gx_r 0), (1, .inl 2), (2, .inl b)], [], t154, n, 0) _
            refine ex_go (S := (55, [(0, gx_r 0), (1, .inl 2), (2, .inl b)], [gx_r 0], t154, n, 0)) rfl (fun _ => rfl) rfl ?_
            refine gxo_ref (a := 0) (c := 22) rfl g154 rfl rfl rfl rfl rfl ?_
            obtain ⟨_, r155, t155, rfl, g155, e155, -⟩ := pz_pclear d n g154
            refine gx_callo (a := 22) rfl rfl g154 rfl rfl rfl r155 rfl ?_
            show en_ex _ _ _ _ (61, [(0, gx_r 0), (1, .inl 2), (2, .inl b)], [], t155, n, 0) _
            refine ex_go (S := (97, [(0, gx_r 0), (1, .inl 2), (2, .inl b)], [], t155, n, 0)) rfl (fun _ => rfl) rfl ?_
            refine ex_go (S := (98, [(0, gx_r 0), (1, .inl 2), (2, .inl b)], [.inl 1], t155, n, 0)) rfl (fun _ => rfl) rfl ?_
            refine ex_ret (r := (some (.inl 1), t155, n, 0)) rfl (fun _ => rfl) ?_
            refine ⟨_, rfl, 1, t155, rfl, fun _ => ⟨rfl, fun i hi => ?_⟩, fun h => absurd h (by omega)⟩
            rcases (show i = 0 ∨ i = 1 ∨ i = 2 ∨ i = 3 by omega) with rfl | rfl | rfl | rfl
            · rw [if_neg (by decide)]; exact (e155 138 0 (by omega)).trans ((e154 138 0 (by omega)).trans ((e153 138 0 (by omega)).trans (hF 0 (by omega))))
            · rw [if_neg (by decide)]; exact (e155 138 1 (by omega)).trans ((e154 138 1 (by omega)).trans ((e153 138 1 (by omega)).trans (hF 1 (by omega))))
            · rw [if_pos rfl, show (1 : Nat) = F 2 by omega]; exact (e155 138 2 (by omega)).trans ((e154 138 2 (by omega)).trans ((e153 138 2 (by omega)).trans (hF 2 (by omega))))
            · rw [if_neg (by decide)]; exact (e155 138 3 (by omega)).trans ((e154 138 3 (by omega)).trans ((e153 138 3 (by omega)).trans (hF 3 (by omega))))
        · refine ex_go (S := (25, [(0, gx_r 0), (1, .inl 3), (2, .inl b)], [.inl b], t0, n, 0)) rfl (fun _ => rfl) rfl ?_
          by_cases hc56 : b = 0
          · refine gx_1t (c := .eq) rfl (by omega) hc56 rfl ?_
            refine ex_go (S := (65, [(0, gx_r 0), (1, .inl 3), (2, .inl b)], [gx_r 0], t0, n, 0)) rfl (fun _ => rfl) rfl ?_
            refine gxo_ref (a := 0) (c := 136) rfl g0 rfl rfl rfl rfl rfl ?_
            refine ex_go (S := (69, [(0, gx_r 0), (1, .inl 3), (2, .inl b)], [.inl 3, gx_r 136], t0, n, 0)) rfl (fun _ => rfl) rfl ?_
            refine gx_ag (v := gx_r 371) (cb := fun c => Nat.ble 4 c && Nat.ble c 7) rfl (fun _ => rfl) g0 rfl rfl (gx_slr g0 rfl (by decide) rfl) (by omega) rfl ?_
            refine ex_go (S := (71, [(0, gx_r 0), (1, .inl 3), (2, .inl b)], [gx_r 0, gx_r 371], t0, n, 0)) rfl (fun _ => rfl) rfl ?_
            refine gxo_ref (a := 0) (c := 8) rfl g0 rfl rfl rfl rfl rfl ?_
            obtain ⟨⟨rv157, t157, rn157, rs157⟩, r157, hn157, hs157, g157, fr157, E157, o157, ho157, ro157, hh157⟩ := ac_all (d + 1) 162 ce_162_36 (show ce_162_36 ∈ cm_162 from (List.mem_cons_of_mem _ (List.mem_cons_of_mem _ (List.mem_cons_of_mem _ (List.mem_cons_of_mem _ (List.mem_cons_of_mem _ (List.mem_cons_of_mem _ (List.mem_cons_of_mem _ (List.mem_cons_of_mem _ (List.mem_cons_of_mem _ (List.mem_cons_of_mem _ (List.mem_cons_of_mem _ (List.mem_cons_of_mem _ (List.mem_cons_of_mem _ (List.mem_cons_of_mem _ (List.mem_cons_of_mem _ (List.mem_cons_of_mem _ (List.mem_cons_of_mem _ (List.mem_cons_of_mem _ (List.mem_cons_of_mem _ (List.mem_cons_of_mem _ (List.mem_cons_of_mem _ (List.mem_cons_of_mem _ (List.mem_cons_of_mem _ (List.mem_cons_of_mem _ (List.mem_cons_of_mem _ (List.mem_cons_of_mem _ (List.mem_cons_of_mem _ (List.mem_cons_of_mem _ (List.mem_cons_of_mem _ (List.mem_cons_of_mem _ (List.mem_cons_of_mem _ (List.mem_cons_of_mem _ (List.mem_cons_of_mem _ (List.mem_cons_of_mem _ (List.mem_cons_of_mem _ (List.mem_cons_of_mem _ List.mem_cons_self))))))))))))))))))))))))))))))))))))) (Nat.lt_of_lt_of_le (show ce_162_36.1 < 1 by decide) (by omega)) (fun _ => 0) [gx_r 371, gx_r 8] t0 n ⟨gx_vref 371, gx_vref 8, trivial⟩ g0 (fun q hq => absurd hq List.not_mem_nil) hE
            have hn157 : n = rn157 := hn157.symm
            have hs157 : rs157 = 0 := hs157
            subst hn157 hs157
            have ho157 := List.mem_singleton.mp ho157
            subst ho157
            have hv157 : rv157 = none := by
              cases rv157 with
              | none => rfl
              | some w => exact ro157.elim
            subst hv157
            have e157 : ∀ c i, ¬ (371 ≤ c ∧ c ≤ 377) → ai_hv t157 c i = ai_hv t0 c i := fun c i h => fr157 c i (fun z => h (inw_rng (by decide) z))
            refine gx_callo (a := 371) rfl rfl g0 rfl rfl rfl r157 rfl ?_
            show en_ex _ _ _ _ (77, [(0, gx_r 0), (1, .inl 3), (2, .inl b)], [], t157, n, 0) _
            refine ex_go (S := (78, [(0, gx_r 0), (1, .inl 3), (2, .inl b)], [gx_r 0], t157, n, 0)) rfl (fun _ => rfl) rfl ?_
            refine gxo_ref (a := 0) (c := 137) rfl g157 rfl rfl rfl rfl rfl ?_
            refine ex_go (S := (82, [(0, gx_r 0), (1, .inl 3), (2, .inl b)], [.inl 3, gx_r 137], t157, n, 0)) rfl (fun _ => rfl) rfl ?_
            refine gx_ag (v := gx_r 378) (cb := fun c => Nat.ble 4 c && Nat.ble c 7) rfl (fun _ => rfl) g157 rfl rfl (gx_slr g157 rfl (by decide) rfl) (by omega) rfl ?_
            refine ex_go (S := (84, [(0, gx_r 0), (1, .inl 3), (2, .inl b)], [gx_r 0, gx_r 378], t157, n, 0)) rfl (fun _ => rfl) rfl ?_
            refine gxo_ref (a := 0) (c := 139) rfl g157 rfl rfl rfl rfl rfl ?_
            obtain ⟨⟨rv158, t158, rn158, rs158⟩, r158, hn158, hs158, g158, fr158, E158, o158, ho158, ro158, hh158⟩ := ac_all (d + 1) 170 ce_170_5 (show ce_170_5 ∈ cm_170 from (List.mem_cons_of_mem _ (List.mem_cons_of_mem _ (List.mem_cons_of_mem _ (List.mem_cons_of_mem _ (List.mem_cons_of_mem _ List.mem_cons_self)))))) (Nat.lt_of_lt_of_le (show ce_170_5.1 < 1 by decide) (by omega)) (fun _ => 0) [gx_r 378, gx_r 139] t157 n ⟨gx_vref 378, gx_vref 139, trivial⟩ g157 (fun q hq => absurd hq List.not_mem_nil) E157
            have hn158 : n = rn158 := hn158.symm
            have hs158 : rs158 = 0 := hs158
            subst hn158 hs158
            have ho158 := List.mem_singleton.mp ho158
            subst ho158
            have hv158 : rv158 = none := by
              cases rv158 with
              | none => rfl
              | some w => exact ro158.elim
            subst hv158
            have e158 : ∀ c i, ¬ (378 ≤ c ∧ c ≤ 384) → ai_hv t158 c i = ai_hv t157 c i := fun c i h => fr158 c i (fun z => h (inw_rng (by decide) z))
            refine gx_callo (a := 378) rfl rfl g157 rfl rfl rfl r158 rfl ?_
            show en_ex _ _ _ _ (90, [(0, gx_r 0), (1, .inl 3), (2, .inl b)], [], t158, n, 0) _
            refine ex_go (S := (91, [(0, gx_r 0), (1, .inl 3), (2, .inl b)], [gx_r 0], t158, n, 0)) rfl (fun _ => rfl) rfl ?_
            refine gxo_ref (a := 0) (c := 138) rfl g158 rfl rfl rfl rfl rfl ?_
            refine ex_go (S := (95, [(0, gx_r 0), (1, .inl 3), (2, .inl b)], [.inl 3, gx_r 138], t158, n, 0)) rfl (fun _ => rfl) rfl ?_
            refine ex_go (S := (96, [(0, gx_r 0), (1, .inl 3), (2, .inl b)], [.inl 1, .inl 3, gx_r 138], t158, n, 0)) rfl (fun _ => rfl) rfl ?_
            refine gx_apv (d := 2) rfl (fun _ => rfl) g158 rfl rfl rfl (show 3 < 4 from by omega) rfl (ai_in_h (by omega) (by omega) (by omega)) rfl (fun t159 g159 k159 e159 => ?_)
            refine ex_go (S := (98, [(0, gx_r 0), (1, .inl 3), (2, .inl b)], [.inl 1], t159, n, 0)) rfl (fun _ => rfl) rfl ?_
            refine ex_ret (r := (some (.inl 1), t159, n, 0)) rfl (fun _ => rfl) ?_
            refine ⟨_, rfl, 1, t159, rfl, fun _ => ⟨rfl, fun i hi => ?_⟩, fun h => absurd h (by omega)⟩
            rcases (show i = 0 ∨ i = 1 ∨ i = 2 ∨ i = 3 by omega) with rfl | rfl | rfl | rfl
            · rw [if_neg (by decide)]; exact (e159 138 0 (by omega)).trans ((e158 138 0 (by omega)).trans ((e157 138 0 (by omega)).trans (hF 0 (by omega))))
            · rw [if_neg (by decide)]; exact (e159 138 1 (by omega)).trans ((e158 138 1 (by omega)).trans ((e157 138 1 (by omega)).trans (hF 1 (by omega))))
            · rw [if_neg (by decide)]; exact (e159 138 2 (by omega)).trans ((e158 138 2 (by omega)).trans ((e157 138 2 (by omega)).trans (hF 2 (by omega))))
            · rw [if_pos rfl]; exact k159
          · refine gx_1f (c := .eq) rfl (by omega) hc56 rfl ?_
            refine ex_go (S := (29, [(0, gx_r 0), (1, .inl 3), (2, .inl b)], [gx_r 0], t0, n, 0)) rfl (fun _ => rfl) rfl ?_
            refine gxo_ref (a := 0) (c := 8) rfl g0 rfl rfl rfl rfl rfl ?_
            refine ex_go (S := (33, [(0, gx_r 0), (1, .inl 3), (2, .inl b)], [gx_r 0, gx_r 8], t0, n, 0)) rfl (fun _ => rfl) rfl ?_
            refine gxo_ref (a := 0) (c := 136) rfl g0 rfl rfl rfl rfl rfl ?_
            refine ex_go (S := (37, [(0, gx_r 0), (1, .inl 3), (2, .inl b)], [.inl 3, gx_r 136, gx_r 8], t0, n, 0)) rfl (fun _ => rfl) rfl ?_
            refine gx_ag (v := gx_r 371) (cb := fun c => Nat.ble 4 c && Nat.ble c 7) rfl (fun _ => rfl) g0 rfl rfl (gx_slr g0 rfl (by decide) rfl) (by omega) rfl ?_
            obtain ⟨⟨rv160, t160, rn160, rs160⟩, r160, hn160, hs160, g160, fr160, E160, o160, ho160, ro160, hh160⟩ := ac_all (d + 1) 162 ce_162_39 (show ce_162_39 ∈ cm_162 from (List.mem_cons_of_mem _ (List.mem_cons_of_mem _ (List.mem_cons_of_mem _ (List.mem_cons_of_mem _ (List.mem_cons_of_mem _ (List.mem_cons_of_mem _ (List.mem_cons_of_mem _ (List.mem_cons_of_mem _ (List.mem_cons_of_mem _ (List.mem_cons_of_mem _ (List.mem_cons_of_mem _ (List.mem_cons_of_mem _ (List.mem_cons_of_mem _ (List.mem_cons_of_mem _ (List.mem_cons_of_mem _ (List.mem_cons_of_mem _ (List.mem_cons_of_mem _ (List.mem_cons_of_mem _ (List.mem_cons_of_mem _ (List.mem_cons_of_mem _ (List.mem_cons_of_mem _ (List.mem_cons_of_mem _ (List.mem_cons_of_mem _ (List.mem_cons_of_mem _ (List.mem_cons_of_mem _ (List.mem_cons_of_mem _ (List.mem_cons_of_mem _ (List.mem_cons_of_mem _ (List.mem_cons_of_mem _ (List.mem_cons_of_mem _ (List.mem_cons_of_mem _ (List.mem_cons_of_mem _ (List.mem_cons_of_mem _ (List.mem_cons_of_mem _ (List.mem_cons_of_mem _ (List.mem_cons_of_mem _ (List.mem_cons_of_mem _ (List.mem_cons_of_mem _ (List.mem_cons_of_mem _ List.mem_cons_self)))))))))))))))))))))))))))))))))))))))) (Nat.lt_of_lt_of_le (show ce_162_39.1 < 1 by decide) (by omega)) (fun _ => 0) [gx_r 8, gx_r 371] t0 n ⟨gx_vref 8, gx_vref 371, trivial⟩ g0 (fun q hq => absurd hq List.not_mem_nil) hE
            have hn160 : n = rn160 := hn160.symm
            have hs160 : rs160 = 0 := hs160
            subst hn160 hs160
            have ho160 := List.mem_singleton.mp ho160
            subst ho160
            have hv160 : rv160 = none := by
              cases rv160 with
              | none => rfl
              | some w => exact ro160.elim
            subst hv160
            have e160 : ∀ c i, ¬ (8 ≤ c ∧ c ≤ 14) → ai_hv t160 c i = ai_hv t0 c i := fun c i h => fr160 c i (fun z => h (inw_rng (by decide) z))
            refine gx_callo (a := 8) rfl rfl g0 rfl rfl rfl r160 rfl ?_
            show en_ex _ _ _ _ (41, [(0, gx_r 0), (1, .inl 3), (2, .inl b)], [], t160, n, 0) _
            refine ex_go (S := (42, [(0, gx_r 0), (1, .inl 3), (2, .inl b)], [gx_r 0], t160, n, 0)) rfl (fun _ => rfl) rfl ?_
            refine gxo_ref (a := 0) (c := 139) rfl g160 rfl rfl rfl rfl rfl ?_
            refine ex_go (S := (46, [(0, gx_r 0), (1, .inl 3), (2, .inl b)], [gx_r 0, gx_r 139], t160, n, 0)) rfl (fun _ => rfl) rfl ?_
            refine gxo_ref (a := 0) (c := 137) rfl g160 rfl rfl rfl rfl rfl ?_
            refine ex_go (S := (50, [(0, gx_r 0), (1, .inl 3), (2, .inl b)], [.inl 3, gx_r 137, gx_r 139], t160, n, 0)) rfl (fun _ => rfl) rfl ?_
            refine gx_ag (v := gx_r 378) (cb := fun c => Nat.ble 4 c && Nat.ble c 7) rfl (fun _ => rfl) g160 rfl rfl (gx_slr g160 rfl (by decide) rfl) (by omega) rfl ?_
            obtain ⟨⟨rv161, t161, rn161, rs161⟩, r161, hn161, hs161, g161, fr161, E161, o161, ho161, ro161, hh161⟩ := ac_all (d + 1) 170 ce_170_3 (show ce_170_3 ∈ cm_170 from (List.mem_cons_of_mem _ (List.mem_cons_of_mem _ (List.mem_cons_of_mem _ List.mem_cons_self)))) (Nat.lt_of_lt_of_le (show ce_170_3.1 < 1 by decide) (by omega)) (fun _ => 0) [gx_r 139, gx_r 378] t160 n ⟨gx_vref 139, gx_vref 378, trivial⟩ g160 (fun q hq => absurd hq List.not_mem_nil) E160
            have hn161 : n = rn161 := hn161.symm
            have hs161 : rs161 = 0 := hs161
            subst hn161 hs161
            have ho161 := List.mem_singleton.mp ho161
            subst ho161
            have hv161 : rv161 = none := by
              cases rv161 with
              | none => rfl
              | some w => exact ro161.elim
            subst hv161
            have e161 : ∀ c i, ¬ (139 ≤ c ∧ c ≤ 145) → ai_hv t161 c i = ai_hv t160 c i := fun c i h => fr161 c i (fun z => h (inw_rng (by decide) z))
            refine gx_callo (a := 139) rfl rfl g160 rfl rfl rfl r161 rfl ?_
            show en_ex _ _ _ _ (54, [(0, gx_r 0), (1, .inl 3), (2, .inl b)], [], t161, n, 0) _
            refine ex_go (S := (55, [(0, gx_r 0), (1, .inl 3), (2, .inl b)], [gx_r 0], t161, n, 0)) rfl (fun _ => rfl) rfl ?_
            refine gxo_ref (a := 0) (c := 22) rfl g161 rfl rfl rfl rfl rfl ?_
            obtain ⟨_, r162, t162, rfl, g162, e162, -⟩ := pz_pclear d n g161
            refine gx_callo (a := 22) rfl rfl g161 rfl rfl rfl r162 rfl ?_
            show en_ex _ _ _ _ (61, [(0, gx_r 0), (1, .inl 3), (2, .inl b)], [], t162, n, 0) _
            refine ex_go (S := (97, [(0, gx_r 0), (1, .inl 3), (2, .inl b)], [], t162, n, 0)) rfl (fun _ => rfl) rfl ?_
            refine ex_go (S := (98, [(0, gx_r 0), (1, .inl 3), (2, .inl b)], [.inl 1], t162, n, 0)) rfl (fun _ => rfl) rfl ?_
            refine ex_ret (r := (some (.inl 1), t162, n, 0)) rfl (fun _ => rfl) ?_
            refine ⟨_, rfl, 1, t162, rfl, fun _ => ⟨rfl, fun i hi => ?_⟩, fun h => absurd h (by omega)⟩
            rcases (show i = 0 ∨ i = 1 ∨ i = 2 ∨ i = 3 by omega) with rfl | rfl | rfl | rfl
            · rw [if_neg (by decide)]; exact (e162 138 0 (by omega)).trans ((e161 138 0 (by omega)).trans ((e160 138 0 (by omega)).trans (hF 0 (by omega))))
            · rw [if_neg (by decide)]; exact (e162 138 1 (by omega)).trans ((e161 138 1 (by omega)).trans ((e160 138 1 (by omega)).trans (hF 1 (by omega))))
            · rw [if_neg (by decide)]; exact (e162 138 2 (by omega)).trans ((e161 138 2 (by omega)).trans ((e160 138 2 (by omega)).trans (hF 2 (by omega))))
            · rw [if_pos rfl, show (1 : Nat) = F 3 by omega]; exact (e162 138 3 (by omega)).trans ((e161 138 3 (by omega)).trans ((e160 138 3 (by omega)).trans (hF 3 (by omega))))
      · refine gx_1f (c := .ne) rfl (by omega) hc34 rfl ?_
        refine ex_go (S := (23, [(0, gx_r 0), (1, .inl m), (2, .inl b)], [.inl 0], t0, n, 0)) rfl (fun _ => rfl) rfl ?_
        refine ex_ret (r := (some (.inl 0), t0, n, 0)) rfl (fun _ => rfl) ?_
        exact ⟨_, rfl, 0, t0, rfl, fun h => absurd h (by omega), fun _ => ⟨rfl, fun i hi => hF i hi⟩⟩
end SZN
