section SZN
theorem pe_copies (d n : Nat) {t0 : en_H} {f t m : Nat} (g0 : ai_HG ah_G t0) (hck : ha_all (cp_fit f t) m = true) (hf : f + m ≤ 1035) (ht : t + m ≤ 1035) (hd : f + 45 ≤ t ∨ t + 45 ≤ f) (hm : m ≤ 45) : ∃ r, en_u (d + 1) 123 [gx_r 383, .inl f, .inl t, .inl m] t0 n = some r ∧ ∃ t', r = (none, t', n, 0) ∧ ai_HG ah_G t' ∧ (∀ c i, ¬ c = 399 → ai_hv t' c i = ai_hv t0 c i) ∧ ∀ i, ai_hv t' 399 i = if t ≤ i ∧ i < t + m then ai_hv t0 399 (i - t + f) else ai_hv t0 399 i := by
  refine en_u_ex rfl ?_
  show en_ex _ _ _ _ (0, [(0, gx_r 383), (1, .inl f), (2, .inl t), (3, .inl m)], [], t0, n, 0) _
  refine ex_go (S := (1, [(0, gx_r 383), (1, .inl f), (2, .inl t), (3, .inl m)], [.inl 0], t0, n, 0)) rfl (fun _ => rfl) rfl ?_
  refine ex_go (S := (3, cp_L f t m 0, [], t0, n, 0)) rfl (fun _ => rfl) rfl ?_
  exact cp_loop hck hf ht hd hm (fun t' k1 k2 k3 => ⟨_, rfl, t', rfl, k1, k2, k3⟩) m 0 t0 (by first | decide | omega) g0 (fun _ _ _ => rfl) (fun i => by rw [if_neg (by first | decide | omega)])
set_option maxRecDepth 1000000 in
theorem pe_mark (d n : Nat) {t0 : en_H} (g0 : ai_HG ah_G t0) {m b : Nat} {F : Nat → Nat} (hm : m < 4294967296) (hb : b ≤ 1) (hF : ∀ i, i < 4 → ai_hv t0 400 i = some (.inl (F i))) (hF1 : ∀ i, i < 4 → F i ≤ 1) : ∃ r, en_u (d + 2) 84 [gx_r 383, .inl m, .inl b] t0 n = some r ∧ ∃ v t', r = (some (.inl v), t', n, 0) ∧ ((m ≤ 3 ∧ (b = 0 ∨ F m = 1)) → v = 1 ∧ ∀ i, i < 4 → ai_hv t' 400 i = some (.inl (if i = m then 1 else F i))) ∧ (¬ (m ≤ 3 ∧ (b = 0 ∨ F m = 1)) → v = 0 ∧ ∀ i, i < 4 → ai_hv t' 400 i = some (.inl (F i))) := by
  refine en_u_ex (d := d + 1) rfl ?_
  show en_ex _ _ _ _ (0, [(0, gx_r 383), (1, .inl m), (2, .inl b)], [], t0, n, 0) _
  refine ex_go (S := (1, [(0, gx_r 383), (1, .inl m), (2, .inl b)], [gx_r 383], t0, n, 0)) rfl (fun _ => rfl) rfl ?_
  refine ex_go (S := (2, [(0, gx_r 383), (1, .inl m), (2, .inl b)], [.inl 0, gx_r 383], t0, n, 0)) rfl (fun _ => rfl) rfl ?_
  refine gx_put rfl g0 rfl rfl (ai_in_h (by first | decide | omega) (by first | decide | omega) (by first | decide | omega)) rfl (fun t101 g101 k101 e101 => ?_)
  refine ex_go (S := (6, [(0, gx_r 383), (1, .inl m), (2, .inl b)], [.inl m], t101, n, 0)) rfl (fun _ => rfl) rfl ?_
  refine ex_go (S := (7, [(0, gx_r 383), (1, .inl m), (2, .inl b)], [.inl 0, .inl m], t101, n, 0)) rfl (fun _ => rfl) rfl ?_
  refine ex_go (S := (8, [(0, gx_r 383), (1, .inl m), (2, .inl b)], [.inl 3, .inl 0, .inl m], t101, n, 0)) rfl (fun _ => rfl) rfl ?_
  obtain ⟨_, r2, b3, rfl, b3b, q4⟩ := pz_within (d) n (t0 := t101) (x := m) (lo := 0) (hi := 3) (by first | decide | omega) (by first | decide | omega) (by first | decide | omega)
  refine ex_stat rfl rfl rfl rfl rfl r2 (Nat.le_refl _) rfl ?_
  show en_ex _ _ _ _ (11, [(0, gx_r 383), (1, .inl m), (2, .inl b)], [.inl b3], t101, n, 0) _
  by_cases hc5 : b3 = 0
  · refine gx_1t (c := .eq) rfl (by first | decide | omega) hc5 rfl ?_
    refine ex_go (S := (28, [(0, gx_r 383), (1, .inl m), (2, .inl b)], [.inl 0], t101, n, 0)) rfl (fun _ => rfl) rfl ?_
    refine ex_ret (r := (some (.inl 0), t101, n, 0)) rfl (fun _ => rfl) ?_
    exact ⟨_, rfl, 0, t101, rfl, fun h => absurd h (by first | decide | omega), fun _ => ⟨rfl, fun i hi => (e101 400 i (by first | decide | omega)).trans (hF i hi)⟩⟩
  · refine gx_1f (c := .eq) rfl (by first | decide | omega) hc5 rfl ?_
    refine ex_go (S := (15, [(0, gx_r 383), (1, .inl m), (2, .inl b)], [.inl b], t101, n, 0)) rfl (fun _ => rfl) rfl ?_
    by_cases hc6 : b = 0
    · refine gx_1t (c := .eq) rfl (by first | decide | omega) hc6 rfl ?_
      rcases (show m = 0 ∨ m = 1 ∨ m = 2 ∨ m = 3 by omega) with rfl | rfl | rfl | rfl
      · refine ex_go (S := (30, [(0, gx_r 383), (1, .inl 0), (2, .inl b)], [gx_r 383], t101, n, 0)) rfl (fun _ => rfl) rfl ?_
        refine gx_ref (c := 400) rfl g101 rfl rfl rfl rfl ?_
        refine ex_go (S := (34, [(0, gx_r 383), (1, .inl 0), (2, .inl b)], [.inl 0, gx_r 400], t101, n, 0)) rfl (fun _ => rfl) rfl ?_
        refine ex_go (S := (35, [(0, gx_r 383), (1, .inl 0), (2, .inl b)], [.inl 1, .inl 0, gx_r 400], t101, n, 0)) rfl (fun _ => rfl) rfl ?_
        refine gx_apv (d := 2) rfl (fun _ => rfl) g101 rfl rfl rfl (show 0 < 4 from by omega) rfl (ai_in_h (by first | decide | omega) (by first | decide | omega) (by first | decide | omega)) rfl (fun t107 g107 k107 e107 => ?_)
        refine ex_go (S := (37, [(0, gx_r 383), (1, .inl 0), (2, .inl b)], [gx_r 383], t107, n, 0)) rfl (fun _ => rfl) rfl ?_
        refine ex_go (S := (38, [(0, gx_r 383), (1, .inl 0), (2, .inl b)], [.inl b, gx_r 383], t107, n, 0)) rfl (fun _ => rfl) rfl ?_
        by_cases hc8 : b = 0
        · refine gx_1t (c := .eq) rfl (by first | decide | omega) hc8 rfl ?_
          refine ex_go (S := (51, [(0, gx_r 383), (1, .inl 0), (2, .inl b)], [.inl 0, gx_r 383], t107, n, 0)) rfl (fun _ => rfl) rfl ?_
          refine ex_go (S := (52, [(0, gx_r 383), (1, .inl 0), (2, .inl b)], [.inl b, .inl 0, gx_r 383], t107, n, 0)) rfl (fun _ => rfl) rfl ?_
          by_cases hc9 : b = 0
          · refine gx_1t (c := .eq) rfl (by first | decide | omega) hc9 rfl ?_
            refine ex_go (S := (61, [(0, gx_r 383), (1, .inl 0), (2, .inl b)], [.inl 45, .inl 0, gx_r 383], t107, n, 0)) rfl (fun _ => rfl) rfl ?_
            refine ex_go (S := (62, [(0, gx_r 383), (1, .inl 0), (2, .inl b)], [.inl 1, .inl 45, .inl 0, gx_r 383], t107, n, 0)) rfl (fun _ => rfl) rfl ?_
            refine ex_go (S := (63, [(0, gx_r 383), (1, .inl 0), (2, .inl b)], [.inl 0, .inl 1, .inl 45, .inl 0, gx_r 383], t107, n, 0)) rfl (fun _ => rfl) rfl ?_
            refine ex_go (S := (64, [(0, gx_r 383), (1, .inl 0), (2, .inl b)], [.inl 1, .inl 45, .inl 0, gx_r 383], t107, n, 0)) rfl (fun _ => rfl) rfl ?_
            refine ex_go (S := (65, [(0, gx_r 383), (1, .inl 0), (2, .inl b)], [.inl 45, .inl 0, gx_r 383], t107, n, 0)) rfl (fun _ => rfl) rfl ?_
            refine ex_go (S := (67, [(0, gx_r 383), (1, .inl 0), (2, .inl b)], [.inl 45, .inl 45, .inl 0, gx_r 383], t107, n, 0)) rfl (fun _ => rfl) rfl ?_
            obtain ⟨_, r110, t110, rfl, g110, e110, -⟩ := pe_copies d n (f := 0) (t := 45) (m := 45) g107 (by decide +kernel) (by decide) (by decide) (by decide) (by decide)
            refine gx_call0 rfl rfl g107 rfl rfl r110 rfl ?_
            have k11 : ai_hv t110 400 0 = some (.inl 1) := (e110 400 0 (by first | decide | omega)).trans k107
            show en_ex _ _ _ _ (70, [(0, gx_r 383), (1, .inl 0), (2, .inl b)], [], t110, n, 0) _
            refine ex_go (S := (71, [(0, gx_r 383), (1, .inl 0), (2, .inl b)], [gx_r 383], t110, n, 0)) rfl (fun _ => rfl) rfl ?_
            refine ex_go (S := (72, [(0, gx_r 383), (1, .inl 0), (2, .inl b)], [.inl b, gx_r 383], t110, n, 0)) rfl (fun _ => rfl) rfl ?_
            by_cases hc12 : b = 0
            · refine gx_1t (c := .eq) rfl (by first | decide | omega) hc12 rfl ?_
              refine ex_go (S := (80, [(0, gx_r 383), (1, .inl 0), (2, .inl b)], [gx_r 383, gx_r 383], t110, n, 0)) rfl (fun _ => rfl) rfl ?_
              obtain ⟨m13, k14, m13l, m13h⟩ := gx_in (c := 383) (i := 26) (lo := 0) (hi := 16) g110 rfl rfl rfl rfl
              refine gx_get rfl g110 rfl k14 rfl ?_
              refine gx_put rfl g110 rfl rfl (ai_in_h (by first | decide | omega) (by first | decide | omega) (by first | decide | omega)) rfl (fun t115 g115 k115 e115 => ?_)
              have k16 : ai_hv t115 400 0 = some (.inl 1) := (e115 400 0 (by first | decide | omega)).trans k11
              refine ex_go (S := (87, [(0, gx_r 383), (1, .inl 0), (2, .inl b)], [.inl 1], t115, n, 0)) rfl (fun _ => rfl) rfl ?_
              refine ex_ret (r := (some (.inl 1), t115, n, 0)) rfl (fun _ => rfl) ?_
              refine ⟨_, rfl, 1, t115, rfl, fun _ => ⟨rfl, fun i hi => ?_⟩, fun h => absurd h (by first | decide | omega)⟩
              rcases (show i = 0 ∨ i = 1 ∨ i = 2 ∨ i = 3 by omega) with rfl | rfl | rfl | rfl
              · rw [if_pos rfl]; exact k16
              · rw [if_neg (by decide)]; exact (e115 400 1 (by first | decide | omega)).trans ((e110 400 1 (by first | decide | omega)).trans ((e107 400 1 (by first | decide | omega)).trans ((e101 400 1 (by first | decide | omega)).trans (hF 1 (by first | decide | omega)))))
              · rw [if_neg (by decide)]; exact (e115 400 2 (by first | decide | omega)).trans ((e110 400 2 (by first | decide | omega)).trans ((e107 400 2 (by first | decide | omega)).trans ((e101 400 2 (by first | decide | omega)).trans (hF 2 (by first | decide | omega)))))
              · rw [if_neg (by decide)]; exact (e115 400 3 (by first | decide | omega)).trans ((e110 400 3 (by first | decide | omega)).trans ((e107 400 3 (by first | decide | omega)).trans ((e101 400 3 (by first | decide | omega)).trans (hF 3 (by first | decide | omega)))))
            · refine gx_1f (c := .eq) rfl (by first | decide | omega) hc12 rfl ?_
              refine ex_go (S := (76, [(0, gx_r 383), (1, .inl 0), (2, .inl b)], [.inl 0, gx_r 383], t110, n, 0)) rfl (fun _ => rfl) rfl ?_
              refine ex_go (S := (83, [(0, gx_r 383), (1, .inl 0), (2, .inl b)], [.inl 0, gx_r 383], t110, n, 0)) rfl (fun _ => rfl) rfl ?_
              refine gx_put rfl g110 rfl rfl (ai_in_h (by first | decide | omega) (by first | decide | omega) (by first | decide | omega)) rfl (fun t117 g117 k117 e117 => ?_)
              have k18 : ai_hv t117 400 0 = some (.inl 1) := (e117 400 0 (by first | decide | omega)).trans k11
              refine ex_go (S := (87, [(0, gx_r 383), (1, .inl 0), (2, .inl b)], [.inl 1], t117, n, 0)) rfl (fun _ => rfl) rfl ?_
              refine ex_ret (r := (some (.inl 1), t117, n, 0)) rfl (fun _ => rfl) ?_
              refine ⟨_, rfl, 1, t117, rfl, fun _ => ⟨rfl, fun i hi => ?_⟩, fun h => absurd h (by first | decide | omega)⟩
              rcases (show i = 0 ∨ i = 1 ∨ i = 2 ∨ i = 3 by omega) with rfl | rfl | rfl | rfl
              · rw [if_pos rfl]; exact k18
              · rw [if_neg (by decide)]; exact (e117 400 1 (by first | decide | omega)).trans ((e110 400 1 (by first | decide | omega)).trans ((e107 400 1 (by first | decide | omega)).trans ((e101 400 1 (by first | decide | omega)).trans (hF 1 (by first | decide | omega)))))
              · rw [if_neg (by decide)]; exact (e117 400 2 (by first | decide | omega)).trans ((e110 400 2 (by first | decide | omega)).trans ((e107 400 2 (by first | decide | omega)).trans ((e101 400 2 (by first | decide | omega)).trans (hF 2 (by first | decide | omega)))))
              · rw [if_neg (by decide)]; exact (e117 400 3 (by first | decide | omega)).trans ((e110 400 3 (by first | decide | omega)).trans ((e107 400 3 (by first | decide | omega)).trans ((e101 400 3 (by first | decide | omega)).trans (hF 3 (by first | decide | omega)))))
          · refine gx_1f (c := .eq) rfl (by first | decide | omega) hc9 rfl ?_
            refine ex_go (S := (56, [(0, gx_r 383), (1, .inl 0), (2, .inl b)], [.inl 0, .inl 0, gx_r 383], t107, n, 0)) rfl (fun _ => rfl) rfl ?_
            refine ex_go (S := (65, [(0, gx_r 383), (1, .inl 0), (2, .inl b)], [.inl 0, .inl 0, gx_r 383], t107, n, 0)) rfl (fun _ => rfl) rfl ?_
            refine ex_go (S := (67, [(0, gx_r 383), (1, .inl 0), (2, .inl b)], [.inl 45, .inl 0, .inl 0, gx_r 383], t107, n, 0)) rfl (fun _ => rfl) rfl ?_
            omega
        · refine gx_1f (c := .eq) rfl (by first | decide | omega) hc8 rfl ?_
          refine ex_go (S := (43, [(0, gx_r 383), (1, .inl 0), (2, .inl b)], [.inl 45, gx_r 383], t107, n, 0)) rfl (fun _ => rfl) rfl ?_
          refine ex_go (S := (44, [(0, gx_r 383), (1, .inl 0), (2, .inl b)], [.inl 1, .inl 45, gx_r 383], t107, n, 0)) rfl (fun _ => rfl) rfl ?_
          refine ex_go (S := (45, [(0, gx_r 383), (1, .inl 0), (2, .inl b)], [.inl 0, .inl 1, .inl 45, gx_r 383], t107, n, 0)) rfl (fun _ => rfl) rfl ?_
          refine ex_go (S := (46, [(0, gx_r 383), (1, .inl 0), (2, .inl b)], [.inl 1, .inl 45, gx_r 383], t107, n, 0)) rfl (fun _ => rfl) rfl ?_
          refine ex_go (S := (47, [(0, gx_r 383), (1, .inl 0), (2, .inl b)], [.inl 45, gx_r 383], t107, n, 0)) rfl (fun _ => rfl) rfl ?_
          refine ex_go (S := (51, [(0, gx_r 383), (1, .inl 0), (2, .inl b)], [.inl 45, gx_r 383], t107, n, 0)) rfl (fun _ => rfl) rfl ?_
          refine ex_go (S := (52, [(0, gx_r 383), (1, .inl 0), (2, .inl b)], [.inl b, .inl 45, gx_r 383], t107, n, 0)) rfl (fun _ => rfl) rfl ?_
          by_cases hc20 : b = 0
          · refine gx_1t (c := .eq) rfl (by first | decide | omega) hc20 rfl ?_
            refine ex_go (S := (61, [(0, gx_r 383), (1, .inl 0), (2, .inl b)], [.inl 45, .inl 45, gx_r 383], t107, n, 0)) rfl (fun _ => rfl) rfl ?_
            refine ex_go (S := (62, [(0, gx_r 383), (1, .inl 0), (2, .inl b)], [.inl 1, .inl 45, .inl 45, gx_r 383], t107, n, 0)) rfl (fun _ => rfl) rfl ?_
            refine ex_go (S := (63, [(0, gx_r 383), (1, .inl 0), (2, .inl b)], [.inl 0, .inl 1, .inl 45, .inl 45, gx_r 383], t107, n, 0)) rfl (fun _ => rfl) rfl ?_
            refine ex_go (S := (64, [(0, gx_r 383), (1, .inl 0), (2, .inl b)], [.inl 1, .inl 45, .inl 45, gx_r 383], t107, n, 0)) rfl (fun _ => rfl) rfl ?_
            refine ex_go (S := (65, [(0, gx_r 383), (1, .inl 0), (2, .inl b)], [.inl 45, .inl 45, gx_r 383], t107, n, 0)) rfl (fun _ => rfl) rfl ?_
            refine ex_go (S := (67, [(0, gx_r 383), (1, .inl 0), (2, .inl b)], [.inl 45, .inl 45, .inl 45, gx_r 383], t107, n, 0)) rfl (fun _ => rfl) rfl ?_
            omega
          · refine gx_1f (c := .eq) rfl (by first | decide | omega) hc20 rfl ?_
            refine ex_go (S := (56, [(0, gx_r 383), (1, .inl 0), (2, .inl b)], [.inl 0, .inl 45, gx_r 383], t107, n, 0)) rfl (fun _ => rfl) rfl ?_
            refine ex_go (S := (65, [(0, gx_r 383), (1, .inl 0), (2, .inl b)], [.inl 0, .inl 45, gx_r 383], t107, n, 0)) rfl (fun _ => rfl) rfl ?_
            refine ex_go (S := (67, [(0, gx_r 383), (1, .inl 0), (2, .inl b)], [.inl 45, .inl 0, .inl 45, gx_r 383], t107, n, 0)) rfl (fun _ => rfl) rfl ?_
            obtain ⟨_, r122, t122, rfl, g122, e122, -⟩ := pe_copies d n (f := 45) (t := 0) (m := 45) g107 (by decide +kernel) (by decide) (by decide) (by decide) (by decide)
            refine gx_call0 rfl rfl g107 rfl rfl r122 rfl ?_
            have k23 : ai_hv t122 400 0 = some (.inl 1) := (e122 400 0 (by first | decide | omega)).trans k107
            show en_ex _ _ _ _ (70, [(0, gx_r 383), (1, .inl 0), (2, .inl b)], [], t122, n, 0) _
            refine ex_go (S := (71, [(0, gx_r 383), (1, .inl 0), (2, .inl b)], [gx_r 383], t122, n, 0)) rfl (fun _ => rfl) rfl ?_
            refine ex_go (S := (72, [(0, gx_r 383), (1, .inl 0), (2, .inl b)], [.inl b, gx_r 383], t122, n, 0)) rfl (fun _ => rfl) rfl ?_
            by_cases hc24 : b = 0
            · refine gx_1t (c := .eq) rfl (by first | decide | omega) hc24 rfl ?_
              refine ex_go (S := (80, [(0, gx_r 383), (1, .inl 0), (2, .inl b)], [gx_r 383, gx_r 383], t122, n, 0)) rfl (fun _ => rfl) rfl ?_
              obtain ⟨m25, k26, m25l, m25h⟩ := gx_in (c := 383) (i := 26) (lo := 0) (hi := 16) g122 rfl rfl rfl rfl
              refine gx_get rfl g122 rfl k26 rfl ?_
              refine gx_put rfl g122 rfl rfl (ai_in_h (by first | decide | omega) (by first | decide | omega) (by first | decide | omega)) rfl (fun t127 g127 k127 e127 => ?_)
              have k28 : ai_hv t127 400 0 = some (.inl 1) := (e127 400 0 (by first | decide | omega)).trans k23
              refine ex_go (S := (87, [(0, gx_r 383), (1, .inl 0), (2, .inl b)], [.inl 1], t127, n, 0)) rfl (fun _ => rfl) rfl ?_
              refine ex_ret (r := (some (.inl 1), t127, n, 0)) rfl (fun _ => rfl) ?_
              refine ⟨_, rfl, 1, t127, rfl, fun _ => ⟨rfl, fun i hi => ?_⟩, fun h => absurd h (by first | decide | omega)⟩
              rcases (show i = 0 ∨ i = 1 ∨ i = 2 ∨ i = 3 by omega) with rfl | rfl | rfl | rfl
              · rw [if_pos rfl]; exact k28
              · rw [if_neg (by decide)]; exact (e127 400 1 (by first | decide | omega)).trans ((e122 400 1 (by first | decide | omega)).trans ((e107 400 1 (by first | decide | omega)).trans ((e101 400 1 (by first | decide | omega)).trans (hF 1 (by first | decide | omega)))))
              · rw [if_neg (by decide)]; exact (e127 400 2 (by first | decide | omega)).trans ((e122 400 2 (by first | decide | omega)).trans ((e107 400 2 (by first | decide | omega)).trans ((e101 400 2 (by first | decide | omega)).trans (hF 2 (by first | decide | omega)))))
              · rw [if_neg (by decide)]; exact (e127 400 3 (by first | decide | omega)).trans ((e122 400 3 (by first | decide | omega)).trans ((e107 400 3 (by first | decide | omega)).trans ((e101 400 3 (by first | decide | omega)).trans (hF 3 (by first | decide | omega)))))
            · refine gx_1f (c := .eq) rfl (by first | decide | omega) hc24 rfl ?_
              refine ex_go (S := (76, [(0, gx_r 383), (1, .inl 0), (2, .inl b)], [.inl 0, gx_r 383], t122, n, 0)) rfl (fun _ => rfl) rfl ?_
              refine ex_go (S := (83, [(0, gx_r 383), (1, .inl 0), (2, .inl b)], [.inl 0, gx_r 383], t122, n, 0)) rfl (fun _ => rfl) rfl ?_
              refine gx_put rfl g122 rfl rfl (ai_in_h (by first | decide | omega) (by first | decide | omega) (by first | decide | omega)) rfl (fun t129 g129 k129 e129 => ?_)
              have k30 : ai_hv t129 400 0 = some (.inl 1) := (e129 400 0 (by first | decide | omega)).trans k23
              refine ex_go (S := (87, [(0, gx_r 383), (1, .inl 0), (2, .inl b)], [.inl 1], t129, n, 0)) rfl (fun _ => rfl) rfl ?_
              refine ex_ret (r := (some (.inl 1), t129, n, 0)) rfl (fun _ => rfl) ?_
              refine ⟨_, rfl, 1, t129, rfl, fun _ => ⟨rfl, fun i hi => ?_⟩, fun h => absurd h (by first | decide | omega)⟩
              rcases (show i = 0 ∨ i = 1 ∨ i = 2 ∨ i = 3 by omega) with rfl | rfl | rfl | rfl
              · rw [if_pos rfl]; exact k30
              · rw [if_neg (by decide)]; exact (e129 400 1 (by first | decide | omega)).trans ((e122 400 1 (by first | decide | omega)).trans ((e107 400 1 (by first | decide | omega)).trans ((e101 400 1 (by first | decide | omega)).trans (hF 1 (by first | decide | omega)))))
              · rw [if_neg (by decide)]; exact (e129 400 2 (by first | decide | omega)).trans ((e122 400 2 (by first | decide | omega)).trans ((e107 400 2 (by first | decide | omega)).trans ((e101 400 2 (by first | decide | omega)).trans (hF 2 (by first | decide | omega)))))
              · rw [if_neg (by decide)]; exact (e129 400 3 (by first | decide | omega)).trans ((e122 400 3 (by first | decide | omega)).trans ((e107 400 3 (by first | decide | omega)).trans ((e101 400 3 (by first | decide | omega)).trans (hF 3 (by first | decide | omega)))))
      · refine ex_go (S := (30, [(0, gx_r 383), (1, .inl 1), (2, .inl b)], [gx_r 383], t101, n, 0)) rfl (fun _ => rfl) rfl ?_
        refine gx_ref (c := 400) rfl g101 rfl rfl rfl rfl ?_
        refine ex_go (S := (34, [(0, gx_r 383), (1, .inl 1), (2, .inl b)], [.inl 1, gx_r 400], t101, n, 0)) rfl (fun _ => rfl) rfl ?_
        refine ex_go (S := (35, [(0, gx_r 383), (1, .inl 1), (2, .inl b)], [.inl 1, .inl 1, gx_r 400], t101, n, 0)) rfl (fun _ => rfl) rfl ?_
        refine gx_apv (d := 2) rfl (fun _ => rfl) g101 rfl rfl rfl (show 1 < 4 from by omega) rfl (ai_in_h (by first | decide | omega) (by first | decide | omega) (by first | decide | omega)) rfl (fun t131 g131 k131 e131 => ?_)
        refine ex_go (S := (37, [(0, gx_r 383), (1, .inl 1), (2, .inl b)], [gx_r 383], t131, n, 0)) rfl (fun _ => rfl) rfl ?_
        refine ex_go (S := (38, [(0, gx_r 383), (1, .inl 1), (2, .inl b)], [.inl b, gx_r 383], t131, n, 0)) rfl (fun _ => rfl) rfl ?_
        by_cases hc32 : b = 0
        · refine gx_1t (c := .eq) rfl (by first | decide | omega) hc32 rfl ?_
          refine ex_go (S := (51, [(0, gx_r 383), (1, .inl 1), (2, .inl b)], [.inl 0, gx_r 383], t131, n, 0)) rfl (fun _ => rfl) rfl ?_
          refine ex_go (S := (52, [(0, gx_r 383), (1, .inl 1), (2, .inl b)], [.inl b, .inl 0, gx_r 383], t131, n, 0)) rfl (fun _ => rfl) rfl ?_
          by_cases hc33 : b = 0
          · refine gx_1t (c := .eq) rfl (by first | decide | omega) hc33 rfl ?_
            refine ex_go (S := (61, [(0, gx_r 383), (1, .inl 1), (2, .inl b)], [.inl 45, .inl 0, gx_r 383], t131, n, 0)) rfl (fun _ => rfl) rfl ?_
            refine ex_go (S := (62, [(0, gx_r 383), (1, .inl 1), (2, .inl b)], [.inl 1, .inl 45, .inl 0, gx_r 383], t131, n, 0)) rfl (fun _ => rfl) rfl ?_
            refine ex_go (S := (63, [(0, gx_r 383), (1, .inl 1), (2, .inl b)], [.inl 1, .inl 1, .inl 45, .inl 0, gx_r 383], t131, n, 0)) rfl (fun _ => rfl) rfl ?_
            refine ex_go (S := (64, [(0, gx_r 383), (1, .inl 1), (2, .inl b)], [.inl 2, .inl 45, .inl 0, gx_r 383], t131, n, 0)) rfl (fun _ => rfl) rfl ?_
            refine ex_go (S := (65, [(0, gx_r 383), (1, .inl 1), (2, .inl b)], [.inl 90, .inl 0, gx_r 383], t131, n, 0)) rfl (fun _ => rfl) rfl ?_
            refine ex_go (S := (67, [(0, gx_r 383), (1, .inl 1), (2, .inl b)], [.inl 45, .inl 90, .inl 0, gx_r 383], t131, n, 0)) rfl (fun _ => rfl) rfl ?_
            obtain ⟨_, r134, t134, rfl, g134, e134, -⟩ := pe_copies d n (f := 0) (t := 90) (m := 45) g131 (by decide +kernel) (by decide) (by decide) (by decide) (by decide)
            refine gx_call0 rfl rfl g131 rfl rfl r134 rfl ?_
            have k35 : ai_hv t134 400 1 = some (.inl 1) := (e134 400 1 (by first | decide | omega)).trans k131
            show en_ex _ _ _ _ (70, [(0, gx_r 383), (1, .inl 1), (2, .inl b)], [], t134, n, 0) _
            refine ex_go (S := (71, [(0, gx_r 383), (1, .inl 1), (2, .inl b)], [gx_r 383], t134, n, 0)) rfl (fun _ => rfl) rfl ?_
            refine ex_go (S := (72, [(0, gx_r 383), (1, .inl 1), (2, .inl b)], [.inl b, gx_r 383], t134, n, 0)) rfl (fun _ => rfl) rfl ?_
            by_cases hc36 : b = 0
            · refine gx_1t (c := .eq) rfl (by first | decide | omega) hc36 rfl ?_
              refine ex_go (S := (80, [(0, gx_r 383), (1, .inl 1), (2, .inl b)], [gx_r 383, gx_r 383], t134, n, 0)) rfl (fun _ => rfl) rfl ?_
              obtain ⟨m37, k38, m37l, m37h⟩ := gx_in (c := 383) (i := 26) (lo := 0) (hi := 16) g134 rfl rfl rfl rfl
              refine gx_get rfl g134 rfl k38 rfl ?_
              refine gx_put rfl g134 rfl rfl (ai_in_h (by first | decide | omega) (by first | decide | omega) (by first | decide | omega)) rfl (fun t139 g139 k139 e139 => ?_)
              have k40 : ai_hv t139 400 1 = some (.inl 1) := (e139 400 1 (by first | decide | omega)).trans k35
              refine ex_go (S := (87, [(0, gx_r 383), (1, .inl 1), (2, .inl b)], [.inl 1], t139, n, 0)) rfl (fun _ => rfl) rfl ?_
              refine ex_ret (r := (some (.inl 1), t139, n, 0)) rfl (fun _ => rfl) ?_
              refine ⟨_, rfl, 1, t139, rfl, fun _ => ⟨rfl, fun i hi => ?_⟩, fun h => absurd h (by first | decide | omega)⟩
              rcases (show i = 0 ∨ i = 1 ∨ i = 2 ∨ i = 3 by omega) with rfl | rfl | rfl | rfl
              · rw [if_neg (by decide)]; exact (e139 400 0 (by first | decide | omega)).trans ((e134 400 0 (by first | decide | omega)).trans ((e131 400 0 (by first | decide | omega)).trans ((e101 400 0 (by first | decide | omega)).trans (hF 0 (by first | decide | omega)))))
              · rw [if_pos rfl]; exact k40
              · rw [if_neg (by decide)]; exact (e139 400 2 (by first | decide | omega)).trans ((e134 400 2 (by first | decide | omega)).trans ((e131 400 2 (by first | decide | omega)).trans ((e101 400 2 (by first | decide | omega)).trans (hF 2 (by first | decide | omega)))))
              · rw [if_neg (by decide)]; exact (e139 400 3 (by first | decide | omega)).trans ((e134 400 3 (by first | decide | omega)).trans ((e131 400 3 (by first | decide | omega)).trans ((e101 400 3 (by first | decide | omega)).trans (hF 3 (by first | decide | omega)))))
            · refine gx_1f (c := .eq) rfl (by first | decide | omega) hc36 rfl ?_
              refine ex_go (S := (76, [(0, gx_r 383), (1, .inl 1), (2, .inl b)], [.inl 0, gx_r 383], t134, n, 0)) rfl (fun _ => rfl) rfl ?_
              refine ex_go (S := (83, [(0, gx_r 383), (1, .inl 1), (2, .inl b)], [.inl 0, gx_r 383], t134, n, 0)) rfl (fun _ => rfl) rfl ?_
              refine gx_put rfl g134 rfl rfl (ai_in_h (by first | decide | omega) (by first | decide | omega) (by first | decide | omega)) rfl (fun t141 g141 k141 e141 => ?_)
              have k42 : ai_hv t141 400 1 = some (.inl 1) := (e141 400 1 (by first | decide | omega)).trans k35
              refine ex_go (S := (87, [(0, gx_r 383), (1, .inl 1), (2, .inl b)], [.inl 1], t141, n, 0)) rfl (fun _ => rfl) rfl ?_
              refine ex_ret (r := (some (.inl 1), t141, n, 0)) rfl (fun _ => rfl) ?_
              refine ⟨_, rfl, 1, t141, rfl, fun _ => ⟨rfl, fun i hi => ?_⟩, fun h => absurd h (by first | decide | omega)⟩
              rcases (show i = 0 ∨ i = 1 ∨ i = 2 ∨ i = 3 by omega) with rfl | rfl | rfl | rfl
              · rw [if_neg (by decide)]; exact (e141 400 0 (by first | decide | omega)).trans ((e134 400 0 (by first | decide | omega)).trans ((e131 400 0 (by first | decide | omega)).trans ((e101 400 0 (by first | decide | omega)).trans (hF 0 (by first | decide | omega)))))
              · rw [if_pos rfl]; exact k42
              · rw [if_neg (by decide)]; exact (e141 400 2 (by first | decide | omega)).trans ((e134 400 2 (by first | decide | omega)).trans ((e131 400 2 (by first | decide | omega)).trans ((e101 400 2 (by first | decide | omega)).trans (hF 2 (by first | decide | omega)))))
              · rw [if_neg (by decide)]; exact (e141 400 3 (by first | decide | omega)).trans ((e134 400 3 (by first | decide | omega)).trans ((e131 400 3 (by first | decide | omega)).trans ((e101 400 3 (by first | decide | omega)).trans (hF 3 (by first | decide | omega)))))
          · refine gx_1f (c := .eq) rfl (by first | decide | omega) hc33 rfl ?_
            refine ex_go (S := (56, [(0, gx_r 383), (1, .inl 1), (2, .inl b)], [.inl 0, .inl 0, gx_r 383], t131, n, 0)) rfl (fun _ => rfl) rfl ?_
            refine ex_go (S := (65, [(0, gx_r 383), (1, .inl 1), (2, .inl b)], [.inl 0, .inl 0, gx_r 383], t131, n, 0)) rfl (fun _ => rfl) rfl ?_
            refine ex_go (S := (67, [(0, gx_r 383), (1, .inl 1), (2, .inl b)], [.inl 45, .inl 0, .inl 0, gx_r 383], t131, n, 0)) rfl (fun _ => rfl) rfl ?_
            omega
        · refine gx_1f (c := .eq) rfl (by first | decide | omega) hc32 rfl ?_
          refine ex_go (S := (43, [(0, gx_r 383), (1, .inl 1), (2, .inl b)], [.inl 45, gx_r 383], t131, n, 0)) rfl (fun _ => rfl) rfl ?_
          refine ex_go (S := (44, [(0, gx_r 383), (1, .inl 1), (2, .inl b)], [.inl 1, .inl 45, gx_r 383], t131, n, 0)) rfl (fun _ => rfl) rfl ?_
          refine ex_go (S := (45, [(0, gx_r 383), (1, .inl 1), (2, .inl b)], [.inl 1, .inl 1, .inl 45, gx_r 383], t131, n, 0)) rfl (fun _ => rfl) rfl ?_
          refine ex_go (S := (46, [(0, gx_r 383), (1, .inl 1), (2, .inl b)], [.inl 2, .inl 45, gx_r 383], t131, n, 0)) rfl (fun _ => rfl) rfl ?_
          refine ex_go (S := (47, [(0, gx_r 383), (1, .inl 1), (2, .inl b)], [.inl 90, gx_r 383], t131, n, 0)) rfl (fun _ => rfl) rfl ?_
          refine ex_go (S := (51, [(0, gx_r 383), (1, .inl 1), (2, .inl b)], [.inl 90, gx_r 383], t131, n, 0)) rfl (fun _ => rfl) rfl ?_
          refine ex_go (S := (52, [(0, gx_r 383), (1, .inl 1), (2, .inl b)], [.inl b, .inl 90, gx_r 383], t131, n, 0)) rfl (fun _ => rfl) rfl ?_
          by_cases hc44 : b = 0
          · refine gx_1t (c := .eq) rfl (by first | decide | omega) hc44 rfl ?_
            refine ex_go (S := (61, [(0, gx_r 383), (1, .inl 1), (2, .inl b)], [.inl 45, .inl 90, gx_r 383], t131, n, 0)) rfl (fun _ => rfl) rfl ?_
            refine ex_go (S := (62, [(0, gx_r 383), (1, .inl 1), (2, .inl b)], [.inl 1, .inl 45, .inl 90, gx_r 383], t131, n, 0)) rfl (fun _ => rfl) rfl ?_
            refine ex_go (S := (63, [(0, gx_r 383), (1, .inl 1), (2, .inl b)], [.inl 1, .inl 1, .inl 45, .inl 90, gx_r 383], t131, n, 0)) rfl (fun _ => rfl) rfl ?_
            refine ex_go (S := (64, [(0, gx_r 383), (1, .inl 1), (2, .inl b)], [.inl 2, .inl 45, .inl 90, gx_r 383], t131, n, 0)) rfl (fun _ => rfl) rfl ?_
            refine ex_go (S := (65, [(0, gx_r 383), (1, .inl 1), (2, .inl b)], [.inl 90, .inl 90, gx_r 383], t131, n, 0)) rfl (fun _ => rfl) rfl ?_
            refine ex_go (S := (67, [(0, gx_r 383), (1, .inl 1), (2, .inl b)], [.inl 45, .inl 90, .inl 90, gx_r 383], t131, n, 0)) rfl (fun _ => rfl) rfl ?_
            omega
          · refine gx_1f (c := .eq) rfl (by first | decide | omega) hc44 rfl ?_
            refine ex_go (S := (56, [(0, gx_r 383), (1, .inl 1), (2, .inl b)], [.inl 0, .inl 90, gx_r 383], t131, n, 0)) rfl (fun _ => rfl) rfl ?_
            refine ex_go (S := (65, [(0, gx_r 383), (1, .inl 1), (2, .inl b)], [.inl 0, .inl 90, gx_r 383], t131, n, 0)) rfl (fun _ => rfl) rfl ?_
            refine ex_go (S := (67, [(0, gx_r 383), (1, .inl 1), (2, .inl b)], [.inl 45, .inl 0, .inl 90, gx_r 383], t131, n, 0)) rfl (fun _ => rfl) rfl ?_
            obtain ⟨_, r146, t146, rfl, g146, e146, -⟩ := pe_copies d n (f := 90) (t := 0) (m := 45) g131 (by decide +kernel) (by decide) (by decide) (by decide) (by decide)
            refine gx_call0 rfl rfl g131 rfl rfl r146 rfl ?_
            have k47 : ai_hv t146 400 1 = some (.inl 1) := (e146 400 1 (by first | decide | omega)).trans k131
            show en_ex _ _ _ _ (70, [(0, gx_r 383), (1, .inl 1), (2, .inl b)], [], t146, n, 0) _
            refine ex_go (S := (71, [(0, gx_r 383), (1, .inl 1), (2, .inl b)], [gx_r 383], t146, n, 0)) rfl (fun _ => rfl) rfl ?_
            refine ex_go (S := (72, [(0, gx_r 383), (1, .inl 1), (2, .inl b)], [.inl b, gx_r 383], t146, n, 0)) rfl (fun _ => rfl) rfl ?_
            by_cases hc48 : b = 0
            · refine gx_1t (c := .eq) rfl (by first | decide | omega) hc48 rfl ?_
              refine ex_go (S := (80, [(0, gx_r 383), (1, .inl 1), (2, .inl b)], [gx_r 383, gx_r 383], t146, n, 0)) rfl (fun _ => rfl) rfl ?_
              obtain ⟨m49, k50, m49l, m49h⟩ := gx_in (c := 383) (i := 26) (lo := 0) (hi := 16) g146 rfl rfl rfl rfl
              refine gx_get rfl g146 rfl k50 rfl ?_
              refine gx_put rfl g146 rfl rfl (ai_in_h (by first | decide | omega) (by first | decide | omega) (by first | decide | omega)) rfl (fun t151 g151 k151 e151 => ?_)
              have k52 : ai_hv t151 400 1 = some (.inl 1) := (e151 400 1 (by first | decide | omega)).trans k47
              refine ex_go (S := (87, [(0, gx_r 383), (1, .inl 1), (2, .inl b)], [.inl 1], t151, n, 0)) rfl (fun _ => rfl) rfl ?_
              refine ex_ret (r := (some (.inl 1), t151, n, 0)) rfl (fun _ => rfl) ?_
              refine ⟨_, rfl, 1, t151, rfl, fun _ => ⟨rfl, fun i hi => ?_⟩, fun h => absurd h (by first | decide | omega)⟩
              rcases (show i = 0 ∨ i = 1 ∨ i = 2 ∨ i = 3 by omega) with rfl | rfl | rfl | rfl
              · rw [if_neg (by decide)]; exact (e151 400 0 (by first | decide | omega)).trans ((e146 400 0 (by first | decide | omega)).trans ((e131 400 0 (by first | decide | omega)).trans ((e101 400 0 (by first | decide | omega)).trans (hF 0 (by first | decide | omega)))))
              · rw [if_pos rfl]; exact k52
              · rw [if_neg (by decide)]; exact (e151 400 2 (by first | decide | omega)).trans ((e146 400 2 (by first | decide | omega)).trans ((e131 400 2 (by first | decide | omega)).trans ((e101 400 2 (by first | decide | omega)).trans (hF 2 (by first | decide | omega)))))
              · rw [if_neg (by decide)]; exact (e151 400 3 (by first | decide | omega)).trans ((e146 400 3 (by first | decide | omega)).trans ((e131 400 3 (by first | decide | omega)).trans ((e101 400 3 (by first | decide | omega)).trans (hF 3 (by first | decide | omega)))))
            · refine gx_1f (c := .eq) rfl (by first | decide | omega) hc48 rfl ?_
              refine ex_go (S := (76, [(0, gx_r 383), (1, .inl 1), (2, .inl b)], [.inl 0, gx_r 383], t146, n, 0)) rfl (fun _ => rfl) rfl ?_
              refine ex_go (S := (83, [(0, gx_r 383), (1, .inl 1), (2, .inl b)], [.inl 0, gx_r 383], t146, n, 0)) rfl (fun _ => rfl) rfl ?_
              refine gx_put rfl g146 rfl rfl (ai_in_h (by first | decide | omega) (by first | decide | omega) (by first | decide | omega)) rfl (fun t153 g153 k153 e153 => ?_)
              have k54 : ai_hv t153 400 1 = some (.inl 1) := (e153 400 1 (by first | decide | omega)).trans k47
              refine ex_go (S := (87, [(0, gx_r 383), (1, .inl 1), (2, .inl b)], [.inl 1], t153, n, 0)) rfl (fun _ => rfl) rfl ?_
              refine ex_ret (r := (some (.inl 1), t153, n, 0)) rfl (fun _ => rfl) ?_
              refine ⟨_, rfl, 1, t153, rfl, fun _ => ⟨rfl, fun i hi => ?_⟩, fun h => absurd h (by first | decide | omega)⟩
              rcases (show i = 0 ∨ i = 1 ∨ i = 2 ∨ i = 3 by omega) with rfl | rfl | rfl | rfl
              · rw [if_neg (by decide)]; exact (e153 400 0 (by first | decide | omega)).trans ((e146 400 0 (by first | decide | omega)).trans ((e131 400 0 (by first | decide | omega)).trans ((e101 400 0 (by first | decide | omega)).trans (hF 0 (by first | decide | omega)))))
              · rw [if_pos rfl]; exact k54
              · rw [if_neg (by decide)]; exact (e153 400 2 (by first | decide | omega)).trans ((e146 400 2 (by first | decide | omega)).trans ((e131 400 2 (by first | decide | omega)).trans ((e101 400 2 (by first | decide | omega)).trans (hF 2 (by first | decide | omega)))))
              · rw [if_neg (by decide)]; exact (e153 400 3 (by first | decide | omega)).trans ((e146 400 3 (by first | decide | omega)).trans ((e131 400 3 (by first | decide | omega)).trans ((e101 400 3 (by first | decide | omega)).trans (hF 3 (by first | decide | omega)))))
      · refine ex_go (S := (30, [(0, gx_r 383), (1, .inl 2), (2, .inl b)], [gx_r 383], t101, n, 0)) rfl (fun _ => rfl) rfl ?_
        refine gx_ref (c := 400) rfl g101 rfl rfl rfl rfl ?_
        refine ex_go (S := (34, [(0, gx_r 383), (1, .inl 2), (2, .inl b)], [.inl 2, gx_r 400], t101, n, 0)) rfl (fun _ => rfl) rfl ?_
        refine ex_go (S := (35, [(0, gx_r 383), (1, .inl 2), (2, .inl b)], [.inl 1, .inl 2, gx_r 400], t101, n, 0)) rfl (fun _ => rfl) rfl ?_
        refine gx_apv (d := 2) rfl (fun _ => rfl) g101 rfl rfl rfl (show 2 < 4 from by omega) rfl (ai_in_h (by first | decide | omega) (by first | decide | omega) (by first | decide | omega)) rfl (fun t155 g155 k155 e155 => ?_)
        refine ex_go (S := (37, [(0, gx_r 383), (1, .inl 2), (2, .inl b)], [gx_r 383], t155, n, 0)) rfl (fun _ => rfl) rfl ?_
        refine ex_go (S := (38, [(0, gx_r 383), (1, .inl 2), (2, .inl b)], [.inl b, gx_r 383], t155, n, 0)) rfl (fun _ => rfl) rfl ?_
        by_cases hc56 : b = 0
        · refine gx_1t (c := .eq) rfl (by first | decide | omega) hc56 rfl ?_
          refine ex_go (S := (51, [(0, gx_r 383), (1, .inl 2), (2, .inl b)], [.inl 0, gx_r 383], t155, n, 0)) rfl (fun _ => rfl) rfl ?_
          refine ex_go (S := (52, [(0, gx_r 383), (1, .inl 2), (2, .inl b)], [.inl b, .inl 0, gx_r 383], t155, n, 0)) rfl (fun _ => rfl) rfl ?_
          by_cases hc57 : b = 0
          · refine gx_1t (c := .eq) rfl (by first | decide | omega) hc57 rfl ?_
            refine ex_go (S := (61, [(0, gx_r 383), (1, .inl 2), (2, .inl b)], [.inl 45, .inl 0, gx_r 383], t155, n, 0)) rfl (fun _ => rfl) rfl ?_
            refine ex_go (S := (62, [(0, gx_r 383), (1, .inl 2), (2, .inl b)], [.inl 1, .inl 45, .inl 0, gx_r 383], t155, n, 0)) rfl (fun _ => rfl) rfl ?_
            refine ex_go (S := (63, [(0, gx_r 383), (1, .inl 2), (2, .inl b)], [.inl 2, .inl 1, .inl 45, .inl 0, gx_r 383], t155, n, 0)) rfl (fun _ => rfl) rfl ?_
            refine ex_go (S := (64, [(0, gx_r 383), (1, .inl 2), (2, .inl b)], [.inl 3, .inl 45, .inl 0, gx_r 383], t155, n, 0)) rfl (fun _ => rfl) rfl ?_
            refine ex_go (S := (65, [(0, gx_r 383), (1, .inl 2), (2, .inl b)], [.inl 135, .inl 0, gx_r 383], t155, n, 0)) rfl (fun _ => rfl) rfl ?_
            refine ex_go (S := (67, [(0, gx_r 383), (1, .inl 2), (2, .inl b)], [.inl 45, .inl 135, .inl 0, gx_r 383], t155, n, 0)) rfl (fun _ => rfl) rfl ?_
            obtain ⟨_, r158, t158, rfl, g158, e158, -⟩ := pe_copies d n (f := 0) (t := 135) (m := 45) g155 (by decide +kernel) (by decide) (by decide) (by decide) (by decide)
            refine gx_call0 rfl rfl g155 rfl rfl r158 rfl ?_
            have k59 : ai_hv t158 400 2 = some (.inl 1) := (e158 400 2 (by first | decide | omega)).trans k155
            show en_ex _ _ _ _ (70, [(0, gx_r 383), (1, .inl 2), (2, .inl b)], [], t158, n, 0) _
            refine ex_go (S := (71, [(0, gx_r 383), (1, .inl 2), (2, .inl b)], [gx_r 383], t158, n, 0)) rfl (fun _ => rfl) rfl ?_
            refine ex_go (S := (72, [(0, gx_r 383), (1, .inl 2), (2, .inl b)], [.inl b, gx_r 383], t158, n, 0)) rfl (fun _ => rfl) rfl ?_
            by_cases hc60 : b = 0
            · refine gx_1t (c := .eq) rfl (by first | decide | omega) hc60 rfl ?_
              refine ex_go (S := (80, [(0, gx_r 383), (1, .inl 2), (2, .inl b)], [gx_r 383, gx_r 383], t158, n, 0)) rfl (fun _ => rfl) rfl ?_
              obtain ⟨m61, k62, m61l, m61h⟩ := gx_in (c := 383) (i := 26) (lo := 0) (hi := 16) g158 rfl rfl rfl rfl
              refine gx_get rfl g158 rfl k62 rfl ?_
              refine gx_put rfl g158 rfl rfl (ai_in_h (by first | decide | omega) (by first | decide | omega) (by first | decide | omega)) rfl (fun t163 g163 k163 e163 => ?_)
              have k64 : ai_hv t163 400 2 = some (.inl 1) := (e163 400 2 (by first | decide | omega)).trans k59
              refine ex_go (S := (87, [(0, gx_r 383), (1, .inl 2), (2, .inl b)], [.inl 1], t163, n, 0)) rfl (fun _ => rfl) rfl ?_
              refine ex_ret (r := (some (.inl 1), t163, n, 0)) rfl (fun _ => rfl) ?_
              refine ⟨_, rfl, 1, t163, rfl, fun _ => ⟨rfl, fun i hi => ?_⟩, fun h => absurd h (by first | decide | omega)⟩
              rcases (show i = 0 ∨ i = 1 ∨ i = 2 ∨ i = 3 by omega) with rfl | rfl | rfl | rfl
              · rw [if_neg (by decide)]; exact (e163 400 0 (by first | decide | omega)).trans ((e158 400 0 (by first | decide | omega)).trans ((e155 400 0 (by first | decide | omega)).trans ((e101 400 0 (by first | decide | omega)).trans (hF 0 (by first | decide | omega)))))
              · rw [if_neg (by decide)]; exact (e163 400 1 (by first | decide | omega)).trans ((e158 400 1 (by first | decide | omega)).trans ((e155 400 1 (by first | decide | omega)).trans ((e101 400 1 (by first | decide | omega)).trans (hF 1 (by first | decide | omega)))))
              · rw [if_pos rfl]; exact k64
              · rw [if_neg (by decide)]; exact (e163 400 3 (by first | decide | omega)).trans ((e158 400 3 (by first | decide | omega)).trans ((e155 400 3 (by first | decide | omega)).trans ((e101 400 3 (by first | decide | omega)).trans (hF 3 (by first | decide | omega)))))
            · refine gx_1f (c := .eq) rfl (by first | decide | omega) hc60 rfl ?_
              refine ex_go (S := (76, [(0, gx_r 383), (1, .inl 2), (2, .inl b)], [.inl 0, gx_r 383], t158, n, 0)) rfl (fun _ => rfl) rfl ?_
              refine ex_go (S := (83, [(0, gx_r 383), (1, .inl 2), (2, .inl b)], [.inl 0, gx_r 383], t158, n, 0)) rfl (fun _ => rfl) rfl ?_
              refine gx_put rfl g158 rfl rfl (ai_in_h (by first | decide | omega) (by first | decide | omega) (by first | decide | omega)) rfl (fun t165 g165 k165 e165 => ?_)
              have k66 : ai_hv t165 400 2 = some (.inl 1) := (e165 400 2 (by first | decide | omega)).trans k59
              refine ex_go (S := (87, [(0, gx_r 383), (1, .inl 2), (2, .inl b)], [.inl 1], t165, n, 0)) rfl (fun _ => rfl) rfl ?_
              refine ex_ret (r := (some (.inl 1), t165, n, 0)) rfl (fun _ => rfl) ?_
              refine ⟨_, rfl, 1, t165, rfl, fun _ => ⟨rfl, fun i hi => ?_⟩, fun h => absurd h (by first | decide | omega)⟩
              rcases (show i = 0 ∨ i = 1 ∨ i = 2 ∨ i = 3 by omega) with rfl | rfl | rfl | rfl
              · rw [if_neg (by decide)]; exact (e165 400 0 (by first | decide | omega)).trans ((e158 400 0 (by first | decide | omega)).trans ((e155 400 0 (by first | decide | omega)).trans ((e101 400 0 (by first | decide | omega)).trans (hF 0 (by first | decide | omega)))))
              · rw [if_neg (by decide)]; exact (e165 400 1 (by first | decide | omega)).trans ((e158 400 1 (by first | decide | omega)).trans ((e155 400 1 (by first | decide | omega)).trans ((e101 400 1 (by first | decide | omega)).trans (hF 1 (by first | decide | omega)))))
              · rw [if_pos rfl]; exact k66
              · rw [if_neg (by decide)]; exact (e165 400 3 (by first | decide | omega)).trans ((e158 400 3 (by first | decide | omega)).trans ((e155 400 3 (by first | decide | omega)).trans ((e101 400 3 (by first | decide | omega)).trans (hF 3 (by first | decide | omega)))))
          · refine gx_1f (c := .eq) rfl (by first | decide | omega) hc57 rfl ?_
            refine ex_go (S := (56, [(0, gx_r 383), (1, .inl 2), (2, .inl b)], [.inl 0, .inl 0, gx_r 383], t155, n, 0)) rfl (fun _ => rfl) rfl ?_
            refine ex_go (S := (65, [(0, gx_r 383), (1, .inl 2), (2, .inl b)], [.inl 0, .inl 0, gx_r 383], t155, n, 0)) rfl (fun _ => rfl) rfl ?_
            refine ex_go (S := (67, [(0, gx_r 383), (1, .inl 2), (2, .inl b)], [.inl 45, .inl 0, .inl 0, gx_r 383], t155, n, 0)) rfl (fun _ => rfl) rfl ?_
            omega
        · refine gx_1f (c := .eq) rfl (by first | decide | omega) hc56 rfl ?_
          refine ex_go (S := (43, [(0, gx_r 383), (1, .inl 2), (2, .inl b)], [.inl 45, gx_r 383], t155, n, 0)) rfl (fun _ => rfl) rfl ?_
          refine ex_go (S := (44, [(0, gx_r 383), (1, .inl 2), (2, .inl b)], [.inl 1, .inl 45, gx_r 383], t155, n, 0)) rfl (fun _ => rfl) rfl ?_
          refine ex_go (S := (45, [(0, gx_r 383), (1, .inl 2), (2, .inl b)], [.inl 2, .inl 1, .inl 45, gx_r 383], t155, n, 0)) rfl (fun _ => rfl) rfl ?_
          refine ex_go (S := (46, [(0, gx_r 383), (1, .inl 2), (2, .inl b)], [.inl 3, .inl 45, gx_r 383], t155, n, 0)) rfl (fun _ => rfl) rfl ?_
          refine ex_go (S := (47, [(0, gx_r 383), (1, .inl 2), (2, .inl b)], [.inl 135, gx_r 383], t155, n, 0)) rfl (fun _ => rfl) rfl ?_
          refine ex_go (S := (51, [(0, gx_r 383), (1, .inl 2), (2, .inl b)], [.inl 135, gx_r 383], t155, n, 0)) rfl (fun _ => rfl) rfl ?_
          refine ex_go (S := (52, [(0, gx_r 383), (1, .inl 2), (2, .inl b)], [.inl b, .inl 135, gx_r 383], t155, n, 0)) rfl (fun _ => rfl) rfl ?_
          by_cases hc68 : b = 0
          · refine gx_1t (c := .eq) rfl (by first | decide | omega) hc68 rfl ?_
            refine ex_go (S := (61, [(0, gx_r 383), (1, .inl 2), (2, .inl b)], [.inl 45, .inl 135, gx_r 383], t155, n, 0)) rfl (fun _ => rfl) rfl ?_
            refine ex_go (S := (62, [(0, gx_r 383), (1, .inl 2), (2, .inl b)], [.inl 1, .inl 45, .inl 135, gx_r 383], t155, n, 0)) rfl (fun _ => rfl) rfl ?_
            refine ex_go (S := (63, [(0, gx_r 383), (1, .inl 2), (2, .inl b)], [.inl 2, .inl 1, .inl 45, .inl 135, gx_r 383], t155, n, 0)) rfl (fun _ => rfl) rfl ?_
            refine ex_go (S := (64, [(0, gx_r 383), (1, .inl 2), (2, .inl b)], [.inl 3, .inl 45, .inl 135, gx_r 383], t155, n, 0)) rfl (fun _ => rfl) rfl ?_
            refine ex_go (S := (65, [(0, gx_r 383), (1, .inl 2), (2, .inl b)], [.inl 135, .inl 135, gx_r 383], t155, n, 0)) rfl (fun _ => rfl) rfl ?_
            refine ex_go (S := (67, [(0, gx_r 383), (1, .inl 2), (2, .inl b)], [.inl 45, .inl 135, .inl 135, gx_r 383], t155, n, 0)) rfl (fun _ => rfl) rfl ?_
            omega
          · refine gx_1f (c := .eq) rfl (by first | decide | omega) hc68 rfl ?_
            refine ex_go (S := (56, [(0, gx_r 383), (1, .inl 2), (2, .inl b)], [.inl 0, .inl 135, gx_r 383], t155, n, 0)) rfl (fun _ => rfl) rfl ?_
            refine ex_go (S := (65, [(0, gx_r 383), (1, .inl 2), (2, .inl b)], [.inl 0, .inl 135, gx_r 383], t155, n, 0)) rfl (fun _ => rfl) rfl ?_
            refine ex_go (S := (67, [(0, gx_r 383), (1, .inl 2), (2, .inl b)], [.inl 45, .inl 0, .inl 135, gx_r 383], t155, n, 0)) rfl (fun _ => rfl) rfl ?_
            obtain ⟨_, r170, t170, rfl, g170, e170, -⟩ := pe_copies d n (f := 135) (t := 0) (m := 45) g155 (by decide +kernel) (by decide) (by decide) (by decide) (by decide)
            refine gx_call0 rfl rfl g155 rfl rfl r170 rfl ?_
            have k71 : ai_hv t170 400 2 = some (.inl 1) := (e170 400 2 (by first | decide | omega)).trans k155
            show en_ex _ _ _ _ (70, [(0, gx_r 383), (1, .inl 2), (2, .inl b)], [], t170, n, 0) _
            refine ex_go (S := (71, [(0, gx_r 383), (1, .inl 2), (2, .inl b)], [gx_r 383], t170, n, 0)) rfl (fun _ => rfl) rfl ?_
            refine ex_go (S := (72, [(0, gx_r 383), (1, .inl 2), (2, .inl b)], [.inl b, gx_r 383], t170, n, 0)) rfl (fun _ => rfl) rfl ?_
            by_cases hc72 : b = 0
            · refine gx_1t (c := .eq) rfl (by first | decide | omega) hc72 rfl ?_
              refine ex_go (S := (80, [(0, gx_r 383), (1, .inl 2), (2, .inl b)], [gx_r 383, gx_r 383], t170, n, 0)) rfl (fun _ => rfl) rfl ?_
              obtain ⟨m73, k74, m73l, m73h⟩ := gx_in (c := 383) (i := 26) (lo := 0) (hi := 16) g170 rfl rfl rfl rfl
              refine gx_get rfl g170 rfl k74 rfl ?_
              refine gx_put rfl g170 rfl rfl (ai_in_h (by first | decide | omega) (by first | decide | omega) (by first | decide | omega)) rfl (fun t175 g175 k175 e175 => ?_)
              have k76 : ai_hv t175 400 2 = some (.inl 1) := (e175 400 2 (by first | decide | omega)).trans k71
              refine ex_go (S := (87, [(0, gx_r 383), (1, .inl 2), (2, .inl b)], [.inl 1], t175, n, 0)) rfl (fun _ => rfl) rfl ?_
              refine ex_ret (r := (some (.inl 1), t175, n, 0)) rfl (fun _ => rfl) ?_
              refine ⟨_, rfl, 1, t175, rfl, fun _ => ⟨rfl, fun i hi => ?_⟩, fun h => absurd h (by first | decide | omega)⟩
              rcases (show i = 0 ∨ i = 1 ∨ i = 2 ∨ i = 3 by omega) with rfl | rfl | rfl | rfl
              · rw [if_neg (by decide)]; exact (e175 400 0 (by first | decide | omega)).trans ((e170 400 0 (by first | decide | omega)).trans ((e155 400 0 (by first | decide | omega)).trans ((e101 400 0 (by first | decide | omega)).trans (hF 0 (by first | decide | omega)))))
              · rw [if_neg (by decide)]; exact (e175 400 1 (by first | decide | omega)).trans ((e170 400 1 (by first | decide | omega)).trans ((e155 400 1 (by first | decide | omega)).trans ((e101 400 1 (by first | decide | omega)).trans (hF 1 (by first | decide | omega)))))
              · rw [if_pos rfl]; exact k76
              · rw [if_neg (by decide)]; exact (e175 400 3 (by first | decide | omega)).trans ((e170 400 3 (by first | decide | omega)).trans ((e155 400 3 (by first | decide | omega)).trans ((e101 400 3 (by first | decide | omega)).trans (hF 3 (by first | decide | omega)))))
            · refine gx_1f (c := .eq) rfl (by first | decide | omega) hc72 rfl ?_
              refine ex_go (S := (76, [(0, gx_r 383), (1, .inl 2), (2, .inl b)], [.inl 0, gx_r 383], t170, n, 0)) rfl (fun _ => rfl) rfl ?_
              refine ex_go (S := (83, [(0, gx_r 383), (1, .inl 2), (2, .inl b)], [.inl 0, gx_r 383], t170, n, 0)) rfl (fun _ => rfl) rfl ?_
              refine gx_put rfl g170 rfl rfl (ai_in_h (by first | decide | omega) (by first | decide | omega) (by first | decide | omega)) rfl (fun t177 g177 k177 e177 => ?_)
              have k78 : ai_hv t177 400 2 = some (.inl 1) := (e177 400 2 (by first | decide | omega)).trans k71
              refine ex_go (S := (87, [(0, gx_r 383), (1, .inl 2), (2, .inl b)], [.inl 1], t177, n, 0)) rfl (fun _ => rfl) rfl ?_
              refine ex_ret (r := (some (.inl 1), t177, n, 0)) rfl (fun _ => rfl) ?_
              refine ⟨_, rfl, 1, t177, rfl, fun _ => ⟨rfl, fun i hi => ?_⟩, fun h => absurd h (by first | decide | omega)⟩
              rcases (show i = 0 ∨ i = 1 ∨ i = 2 ∨ i = 3 by omega) with rfl | rfl | rfl | rfl
              · rw [if_neg (by decide)]; exact (e177 400 0 (by first | decide | omega)).trans ((e170 400 0 (by first | decide | omega)).trans ((e155 400 0 (by first | decide | omega)).trans ((e101 400 0 (by first | decide | omega)).trans (hF 0 (by first | decide | omega)))))
              · rw [if_neg (by decide)]; exact (e177 400 1 (by first | decide | omega)).trans ((e170 400 1 (by first | decide | omega)).trans ((e155 400 1 (by first | decide | omega)).trans ((e101 400 1 (by first | decide | omega)).trans (hF 1 (by first | decide | omega)))))
              · rw [if_pos rfl]; exact k78
              · rw [if_neg (by decide)]; exact (e177 400 3 (by first | decide | omega)).trans ((e170 400 3 (by first | decide | omega)).trans ((e155 400 3 (by first | decide | omega)).trans ((e101 400 3 (by first | decide | omega)).trans (hF 3 (by first | decide | omega)))))
      · refine ex_go (S := (30, [(0, gx_r 383), (1, .inl 3), (2, .inl b)], [gx_r 383], t101, n, 0)) rfl (fun _ => rfl) rfl ?_
        refine gx_ref (c := 400) rfl g101 rfl rfl rfl rfl ?_
        refine ex_go (S := (34, [(0, gx_r 383), (1, .inl 3), (2, .inl b)], [.inl 3, gx_r 400], t101, n, 0)) rfl (fun _ => rfl) rfl ?_
        refine ex_go (S := (35, [(0, gx_r 383), (1, .inl 3), (2, .inl b)], [.inl 1, .inl 3, gx_r 400], t101, n, 0)) rfl (fun _ => rfl) rfl ?_
        refine gx_apv (d := 2) rfl (fun _ => rfl) g101 rfl rfl rfl (show 3 < 4 from by omega) rfl (ai_in_h (by first | decide | omega) (by first | decide | omega) (by first | decide | omega)) rfl (fun t179 g179 k179 e179 => ?_)
        refine ex_go (S := (37, [(0, gx_r 383), (1, .inl 3), (2, .inl b)], [gx_r 383], t179, n, 0)) rfl (fun _ => rfl) rfl ?_
        refine ex_go (S := (38, [(0, gx_r 383), (1, .inl 3), (2, .inl b)], [.inl b, gx_r 383], t179, n, 0)) rfl (fun _ => rfl) rfl ?_
        by_cases hc80 : b = 0
        · refine gx_1t (c := .eq) rfl (by first | decide | omega) hc80 rfl ?_
          refine ex_go (S := (51, [(0, gx_r 383), (1, .inl 3), (2, .inl b)], [.inl 0, gx_r 383], t179, n, 0)) rfl (fun _ => rfl) rfl ?_
          refine ex_go (S := (52, [(0, gx_r 383), (1, .inl 3), (2, .inl b)], [.inl b, .inl 0, gx_r 383], t179, n, 0)) rfl (fun _ => rfl) rfl ?_
          by_cases hc81 : b = 0
          · refine gx_1t (c := .eq) rfl (by first | decide | omega) hc81 rfl ?_
            refine ex_go (S := (61, [(0, gx_r 383), (1, .inl 3), (2, .inl b)], [.inl 45, .inl 0, gx_r 383], t179, n, 0)) rfl (fun _ => rfl) rfl ?_
            refine ex_go (S := (62, [(0, gx_r 383), (1, .inl 3), (2, .inl b)], [.inl 1, .inl 45, .inl 0, gx_r 383], t179, n, 0)) rfl (fun _ => rfl) rfl ?_
            refine ex_go (S := (63, [(0, gx_r 383), (1, .inl 3), (2, .inl b)], [.inl 3, .inl 1, .inl 45, .inl 0, gx_r 383], t179, n, 0)) rfl (fun _ => rfl) rfl ?_
            refine ex_go (S := (64, [(0, gx_r 383), (1, .inl 3), (2, .inl b)], [.inl 4, .inl 45, .inl 0, gx_r 383], t179, n, 0)) rfl (fun _ => rfl) rfl ?_
            refine ex_go (S := (65, [(0, gx_r 383), (1, .inl 3), (2, .inl b)], [.inl 180, .inl 0, gx_r 383], t179, n, 0)) rfl (fun _ => rfl) rfl ?_
            refine ex_go (S := (67, [(0, gx_r 383), (1, .inl 3), (2, .inl b)], [.inl 45, .inl 180, .inl 0, gx_r 383], t179, n, 0)) rfl (fun _ => rfl) rfl ?_
            obtain ⟨_, r182, t182, rfl, g182, e182, -⟩ := pe_copies d n (f := 0) (t := 180) (m := 45) g179 (by decide +kernel) (by decide) (by decide) (by decide) (by decide)
            refine gx_call0 rfl rfl g179 rfl rfl r182 rfl ?_
            have k83 : ai_hv t182 400 3 = some (.inl 1) := (e182 400 3 (by first | decide | omega)).trans k179
            show en_ex _ _ _ _ (70, [(0, gx_r 383), (1, .inl 3), (2, .inl b)], [], t182, n, 0) _
            refine ex_go (S := (71, [(0, gx_r 383), (1, .inl 3), (2, .inl b)], [gx_r 383], t182, n, 0)) rfl (fun _ => rfl) rfl ?_
            refine ex_go (S := (72, [(0, gx_r 383), (1, .inl 3), (2, .inl b)], [.inl b, gx_r 383], t182, n, 0)) rfl (fun _ => rfl) rfl ?_
            by_cases hc84 : b = 0
            · refine gx_1t (c := .eq) rfl (by first | decide | omega) hc84 rfl ?_
              refine ex_go (S := (80, [(0, gx_r 383), (1, .inl 3), (2, .inl b)], [gx_r 383, gx_r 383], t182, n, 0)) rfl (fun _ => rfl) rfl ?_
              obtain ⟨m85, k86, m85l, m85h⟩ := gx_in (c := 383) (i := 26) (lo := 0) (hi := 16) g182 rfl rfl rfl rfl
              refine gx_get rfl g182 rfl k86 rfl ?_
              refine gx_put rfl g182 rfl rfl (ai_in_h (by first | decide | omega) (by first | decide | omega) (by first | decide | omega)) rfl (fun t187 g187 k187 e187 => ?_)
              have k88 : ai_hv t187 400 3 = some (.inl 1) := (e187 400 3 (by first | decide | omega)).trans k83
              refine ex_go (S := (87, [(0, gx_r 383), (1, .inl 3), (2, .inl b)], [.inl 1], t187, n, 0)) rfl (fun _ => rfl) rfl ?_
              refine ex_ret (r := (some (.inl 1), t187, n, 0)) rfl (fun _ => rfl) ?_
              refine ⟨_, rfl, 1, t187, rfl, fun _ => ⟨rfl, fun i hi => ?_⟩, fun h => absurd h (by first | decide | omega)⟩
              rcases (show i = 0 ∨ i = 1 ∨ i = 2 ∨ i = 3 by omega) with rfl | rfl | rfl | rfl
              · rw [if_neg (by decide)]; exact (e187 400 0 (by first | decide | omega)).trans ((e182 400 0 (by first | decide | omega)).trans ((e179 400 0 (by first | decide | omega)).trans ((e101 400 0 (by first | decide | omega)).trans (hF 0 (by first | decide | omega)))))
              · rw [if_neg (by decide)]; exact (e187 400 1 (by first | decide | omega)).trans ((e182 400 1 (by first | decide | omega)).trans ((e179 400 1 (by first | decide | omega)).trans ((e101 400 1 (by first | decide | omega)).trans (hF 1 (by first | decide | omega)))))
              · rw [if_neg (by decide)]; exact (e187 400 2 (by first | decide | omega)).trans ((e182 400 2 (by first | decide | omega)).trans ((e179 400 2 (by first | decide | omega)).trans ((e101 400 2 (by first | decide | omega)).trans (hF 2 (by first | decide | omega)))))
              · rw [if_pos rfl]; exact k88
            · refine gx_1f (c := .eq) rfl (by first | decide | omega) hc84 rfl ?_
              refine ex_go (S := (76, [(0, gx_r 383), (1, .inl 3), (2, .inl b)], [.inl 0, gx_r 383], t182, n, 0)) rfl (fun _ => rfl) rfl ?_
              refine ex_go (S := (83, [(0, gx_r 383), (1, .inl 3), (2, .inl b)], [.inl 0, gx_r 383], t182, n, 0)) rfl (fun _ => rfl) rfl ?_
              refine gx_put rfl g182 rfl rfl (ai_in_h (by first | decide | omega) (by first | decide | omega) (by first | decide | omega)) rfl (fun t189 g189 k189 e189 => ?_)
              have k90 : ai_hv t189 400 3 = some (.inl 1) := (e189 400 3 (by first | decide | omega)).trans k83
              refine ex_go (S := (87, [(0, gx_r 383), (1, .inl 3), (2, .inl b)], [.inl 1], t189, n, 0)) rfl (fun _ => rfl) rfl ?_
              refine ex_ret (r := (some (.inl 1), t189, n, 0)) rfl (fun _ => rfl) ?_
              refine ⟨_, rfl, 1, t189, rfl, fun _ => ⟨rfl, fun i hi => ?_⟩, fun h => absurd h (by first | decide | omega)⟩
              rcases (show i = 0 ∨ i = 1 ∨ i = 2 ∨ i = 3 by omega) with rfl | rfl | rfl | rfl
              · rw [if_neg (by decide)]; exact (e189 400 0 (by first | decide | omega)).trans ((e182 400 0 (by first | decide | omega)).trans ((e179 400 0 (by first | decide | omega)).trans ((e101 400 0 (by first | decide | omega)).trans (hF 0 (by first | decide | omega)))))
              · rw [if_neg (by decide)]; exact (e189 400 1 (by first | decide | omega)).trans ((e182 400 1 (by first | decide | omega)).trans ((e179 400 1 (by first | decide | omega)).trans ((e101 400 1 (by first | decide | omega)).trans (hF 1 (by first | decide | omega)))))
              · rw [if_neg (by decide)]; exact (e189 400 2 (by first | decide | omega)).trans ((e182 400 2 (by first | decide | omega)).trans ((e179 400 2 (by first | decide | omega)).trans ((e101 400 2 (by first | decide | omega)).trans (hF 2 (by first | decide | omega)))))
              · rw [if_pos rfl]; exact k90
          · refine gx_1f (c := .eq) rfl (by first | decide | omega) hc81 rfl ?_
            refine ex_go (S := (56, [(0, gx_r 383), (1, .inl 3), (2, .inl b)], [.inl 0, .inl 0, gx_r 383], t179, n, 0)) rfl (fun _ => rfl) rfl ?_
            refine ex_go (S := (65, [(0, gx_r 383), (1, .inl 3), (2, .inl b)], [.inl 0, .inl 0, gx_r 383], t179, n, 0)) rfl (fun _ => rfl) rfl ?_
            refine ex_go (S := (67, [(0, gx_r 383), (1, .inl 3), (2, .inl b)], [.inl 45, .inl 0, .inl 0, gx_r 383], t179, n, 0)) rfl (fun _ => rfl) rfl ?_
            omega
        · refine gx_1f (c := .eq) rfl (by first | decide | omega) hc80 rfl ?_
          refine ex_go (S := (43, [(0, gx_r 383), (1, .inl 3), (2, .inl b)], [.inl 45, gx_r 383], t179, n, 0)) rfl (fun _ => rfl) rfl ?_
          refine ex_go (S := (44, [(0, gx_r 383), (1, .inl 3), (2, .inl b)], [.inl 1, .inl 45, gx_r 383], t179, n, 0)) rfl (fun _ => rfl) rfl ?_
          refine ex_go (S := (45, [(0, gx_r 383), (1, .inl 3), (2, .inl b)], [.inl 3, .inl 1, .inl 45, gx_r 383], t179, n, 0)) rfl (fun _ => rfl) rfl ?_
          refine ex_go (S := (46, [(0, gx_r 383), (1, .inl 3), (2, .inl b)], [.inl 4, .inl 45, gx_r 383], t179, n, 0)) rfl (fun _ => rfl) rfl ?_
          refine ex_go (S := (47, [(0, gx_r 383), (1, .inl 3), (2, .inl b)], [.inl 180, gx_r 383], t179, n, 0)) rfl (fun _ => rfl) rfl ?_
          refine ex_go (S := (51, [(0, gx_r 383), (1, .inl 3), (2, .inl b)], [.inl 180, gx_r 383], t179, n, 0)) rfl (fun _ => rfl) rfl ?_
          refine ex_go (S := (52, [(0, gx_r 383), (1, .inl 3), (2, .inl b)], [.inl b, .inl 180, gx_r 383], t179, n, 0)) rfl (fun _ => rfl) rfl ?_
          by_cases hc92 : b = 0
          · refine gx_1t (c := .eq) rfl (by first | decide | omega) hc92 rfl ?_
            refine ex_go (S := (61, [(0, gx_r 383), (1, .inl 3), (2, .inl b)], [.inl 45, .inl 180, gx_r 383], t179, n, 0)) rfl (fun _ => rfl) rfl ?_
            refine ex_go (S := (62, [(0, gx_r 383), (1, .inl 3), (2, .inl b)], [.inl 1, .inl 45, .inl 180, gx_r 383], t179, n, 0)) rfl (fun _ => rfl) rfl ?_
            refine ex_go (S := (63, [(0, gx_r 383), (1, .inl 3), (2, .inl b)], [.inl 3, .inl 1, .inl 45, .inl 180, gx_r 383], t179, n, 0)) rfl (fun _ => rfl) rfl ?_
            refine ex_go (S := (64, [(0, gx_r 383), (1, .inl 3), (2, .inl b)], [.inl 4, .inl 45, .inl 180, gx_r 383], t179, n, 0)) rfl (fun _ => rfl) rfl ?_
            refine ex_go (S := (65, [(0, gx_r 383), (1, .inl 3), (2, .inl b)], [.inl 180, .inl 180, gx_r 383], t179, n, 0)) rfl (fun _ => rfl) rfl ?_
            refine ex_go (S := (67, [(0, gx_r 383), (1, .inl 3), (2, .inl b)], [.inl 45, .inl 180, .inl 180, gx_r 383], t179, n, 0)) rfl (fun _ => rfl) rfl ?_
            omega
          · refine gx_1f (c := .eq) rfl (by first | decide | omega) hc92 rfl ?_
            refine ex_go (S := (56, [(0, gx_r 383), (1, .inl 3), (2, .inl b)], [.inl 0, .inl 180, gx_r 383], t179, n, 0)) rfl (fun _ => rfl) rfl ?_
            refine ex_go (S := (65, [(0, gx_r 383), (1, .inl 3), (2, .inl b)], [.inl 0, .inl 180, gx_r 383], t179, n, 0)) rfl (fun _ => rfl) rfl ?_
            refine ex_go (S := (67, [(0, gx_r 383), (1, .inl 3), (2, .inl b)], [.inl 45, .inl 0, .inl 180, gx_r 383], t179, n, 0)) rfl (fun _ => rfl) rfl ?_
            obtain ⟨_, r194, t194, rfl, g194, e194, -⟩ := pe_copies d n (f := 180) (t := 0) (m := 45) g179 (by decide +kernel) (by decide) (by decide) (by decide) (by decide)
            refine gx_call0 rfl rfl g179 rfl rfl r194 rfl ?_
            have k95 : ai_hv t194 400 3 = some (.inl 1) := (e194 400 3 (by first | decide | omega)).trans k179
            show en_ex _ _ _ _ (70, [(0, gx_r 383), (1, .inl 3), (2, .inl b)], [], t194, n, 0) _
            refine ex_go (S := (71, [(0, gx_r 383), (1, .inl 3), (2, .inl b)], [gx_r 383], t194, n, 0)) rfl (fun _ => rfl) rfl ?_
            refine ex_go (S := (72, [(0, gx_r 383), (1, .inl 3), (2, .inl b)], [.inl b, gx_r 383], t194, n, 0)) rfl (fun _ => rfl) rfl ?_
            by_cases hc96 : b = 0
            · refine gx_1t (c := .eq) rfl (by first | decide | omega) hc96 rfl ?_
              refine ex_go (S := (80, [(0, gx_r 383), (1, .inl 3), (2, .inl b)], [gx_r 383, gx_r 383], t194, n, 0)) rfl (fun _ => rfl) rfl ?_
              obtain ⟨m97, k98, m97l, m97h⟩ := gx_in (c := 383) (i := 26) (lo := 0) (hi := 16) g194 rfl rfl rfl rfl
              refine gx_get rfl g194 rfl k98 rfl ?_
              refine gx_put rfl g194 rfl rfl (ai_in_h (by first | decide | omega) (by first | decide | omega) (by first | decide | omega)) rfl (fun t199 g199 k199 e199 => ?_)
              have k100 : ai_hv t199 400 3 = some (.inl 1) := (e199 400 3 (by first | decide | omega)).trans k95
              refine ex_go (S := (87, [(0, gx_r 383), (1, .inl 3), (2, .inl b)], [.inl 1], t199, n, 0)) rfl (fun _ => rfl) rfl ?_
              refine ex_ret (r := (some (.inl 1), t199, n, 0)) rfl (fun _ => rfl) ?_
              refine ⟨_, rfl, 1, t199, rfl, fun _ => ⟨rfl, fun i hi => ?_⟩, fun h => absurd h (by first | decide | omega)⟩
              rcases (show i = 0 ∨ i = 1 ∨ i = 2 ∨ i = 3 by omega) with rfl | rfl | rfl | rfl
              · rw [if_neg (by decide)]; exact (e199 400 0 (by first | decide | omega)).trans ((e194 400 0 (by first | decide | omega)).trans ((e179 400 0 (by first | decide | omega)).trans ((e101 400 0 (by first | decide | omega)).trans (hF 0 (by first | decide | omega)))))
              · rw [if_neg (by decide)]; exact (e199 400 1 (by first | decide | omega)).trans ((e194 400 1 (by first | decide | omega)).trans ((e179 400 1 (by first | decide | omega)).trans ((e101 400 1 (by first | decide | omega)).trans (hF 1 (by first | decide | omega)))))
              · rw [if_neg (by decide)]; exact (e199 400 2 (by first | decide | omega)).trans ((e194 400 2 (by first | decide | omega)).trans ((e179 400 2 (by first | decide | omega)).trans ((e101 400 2 (by first | decide | omega)).trans (hF 2 (by first | decide | omega)))))
              · rw [if_pos rfl]; exact k100
            · refine gx_1f (c := .eq) rfl (by first | decide | omega) hc96 rfl ?_
              refine ex_go (S := (76, [(0, gx_r 383), (1, .inl 3), (2, .inl b)], [.inl 0, gx_r 383], t194, n, 0)) rfl (fun _ => rfl) rfl ?_
              refine ex_go (S := (83, [(0, gx_r 383), (1, .inl 3), (2, .inl b)], [.inl 0, gx_r 383], t194, n, 0)) rfl (fun _ => rfl) rfl ?_
              refine gx_put rfl g194 rfl rfl (ai_in_h (by first | decide | omega) (by first | decide | omega) (by first | decide | omega)) rfl (fun t201 g201 k201 e201 => ?_)
              have k102 : ai_hv t201 400 3 = some (.inl 1) := (e201 400 3 (by first | decide | omega)).trans k95
              refine ex_go (S := (87, [(0, gx_r 383), (1, .inl 3), (2, .inl b)], [.inl 1], t201, n, 0)) rfl (fun _ => rfl) rfl ?_
              refine ex_ret (r := (some (.inl 1), t201, n, 0)) rfl (fun _ => rfl) ?_
              refine ⟨_, rfl, 1, t201, rfl, fun _ => ⟨rfl, fun i hi => ?_⟩, fun h => absurd h (by first | decide | omega)⟩
              rcases (show i = 0 ∨ i = 1 ∨ i = 2 ∨ i = 3 by omega) with rfl | rfl | rfl | rfl
              · rw [if_neg (by decide)]; exact (e201 400 0 (by first | decide | omega)).trans ((e194 400 0 (by first | decide | omega)).trans ((e179 400 0 (by first | decide | omega)).trans ((e101 400 0 (by first | decide | omega)).trans (hF 0 (by first | decide | omega)))))
              · rw [if_neg (by decide)]; exact (e201 400 1 (by first | decide | omega)).trans ((e194 400 1 (by first | decide | omega)).trans ((e179 400 1 (by first | decide | omega)).trans ((e101 400 1 (by first | decide | omega)).trans (hF 1 (by first | decide | omega)))))
              · rw [if_neg (by decide)]; exact (e201 400 2 (by first | decide | omega)).trans ((e194 400 2 (by first | decide | omega)).trans ((e179 400 2 (by first | decide | omega)).trans ((e101 400 2 (by first | decide | omega)).trans (hF 2 (by first | decide | omega)))))
              · rw [if_pos rfl]; exact k102
    · refine gx_1f (c := .eq) rfl (by first | decide | omega) hc6 rfl ?_
      refine ex_go (S := (19, [(0, gx_r 383), (1, .inl m), (2, .inl b)], [gx_r 383], t101, n, 0)) rfl (fun _ => rfl) rfl ?_
      refine gx_ref (c := 400) rfl g101 rfl rfl rfl rfl ?_
      refine ex_go (S := (23, [(0, gx_r 383), (1, .inl m), (2, .inl b)], [.inl m, gx_r 400], t101, n, 0)) rfl (fun _ => rfl) rfl ?_
      have hf1 := hF1 m (by first | decide | omega)
      refine gx_ag (v := .inl (F m)) (cb := fun c => Nat.beq c 2 || Nat.beq c 1) rfl (fun _ => rfl) g101 rfl rfl ((e101 400 m (by first | decide | omega)).trans (hF m (by first | decide | omega))) (by first | decide | omega) rfl ?_
      by_cases hc103 : F m ≠ 0
      · refine gx_1t (c := .ne) rfl (by first | decide | omega) hc103 rfl ?_
        rcases (show m = 0 ∨ m = 1 ∨ m = 2 ∨ m = 3 by omega) with rfl | rfl | rfl | rfl
        · refine ex_go (S := (30, [(0, gx_r 383), (1, .inl 0), (2, .inl b)], [gx_r 383], t101, n, 0)) rfl (fun _ => rfl) rfl ?_
          refine gx_ref (c := 400) rfl g101 rfl rfl rfl rfl ?_
          refine ex_go (S := (34, [(0, gx_r 383), (1, .inl 0), (2, .inl b)], [.inl 0, gx_r 400], t101, n, 0)) rfl (fun _ => rfl) rfl ?_
          refine ex_go (S := (35, [(0, gx_r 383), (1, .inl 0), (2, .inl b)], [.inl 1, .inl 0, gx_r 400], t101, n, 0)) rfl (fun _ => rfl) rfl ?_
          refine gx_apv (d := 2) rfl (fun _ => rfl) g101 rfl rfl rfl (show 0 < 4 from by omega) rfl (ai_in_h (by first | decide | omega) (by first | decide | omega) (by first | decide | omega)) rfl (fun t204 g204 k204 e204 => ?_)
          refine ex_go (S := (37, [(0, gx_r 383), (1, .inl 0), (2, .inl b)], [gx_r 383], t204, n, 0)) rfl (fun _ => rfl) rfl ?_
          refine ex_go (S := (38, [(0, gx_r 383), (1, .inl 0), (2, .inl b)], [.inl b, gx_r 383], t204, n, 0)) rfl (fun _ => rfl) rfl ?_
          by_cases hc105 : b = 0
          · refine gx_1t (c := .eq) rfl (by first | decide | omega) hc105 rfl ?_
            refine ex_go (S := (51, [(0, gx_r 383), (1, .inl 0), (2, .inl b)], [.inl 0, gx_r 383], t204, n, 0)) rfl (fun _ => rfl) rfl ?_
            refine ex_go (S := (52, [(0, gx_r 383), (1, .inl 0), (2, .inl b)], [.inl b, .inl 0, gx_r 383], t204, n, 0)) rfl (fun _ => rfl) rfl ?_
            by_cases hc106 : b = 0
            · refine gx_1t (c := .eq) rfl (by first | decide | omega) hc106 rfl ?_
              refine ex_go (S := (61, [(0, gx_r 383), (1, .inl 0), (2, .inl b)], [.inl 45, .inl 0, gx_r 383], t204, n, 0)) rfl (fun _ => rfl) rfl ?_
              refine ex_go (S := (62, [(0, gx_r 383), (1, .inl 0), (2, .inl b)], [.inl 1, .inl 45, .inl 0, gx_r 383], t204, n, 0)) rfl (fun _ => rfl) rfl ?_
              refine ex_go (S := (63, [(0, gx_r 383), (1, .inl 0), (2, .inl b)], [.inl 0, .inl 1, .inl 45, .inl 0, gx_r 383], t204, n, 0)) rfl (fun _ => rfl) rfl ?_
              refine ex_go (S := (64, [(0, gx_r 383), (1, .inl 0), (2, .inl b)], [.inl 1, .inl 45, .inl 0, gx_r 383], t204, n, 0)) rfl (fun _ => rfl) rfl ?_
              refine ex_go (S := (65, [(0, gx_r 383), (1, .inl 0), (2, .inl b)], [.inl 45, .inl 0, gx_r 383], t204, n, 0)) rfl (fun _ => rfl) rfl ?_
              refine ex_go (S := (67, [(0, gx_r 383), (1, .inl 0), (2, .inl b)], [.inl 45, .inl 45, .inl 0, gx_r 383], t204, n, 0)) rfl (fun _ => rfl) rfl ?_
              obtain ⟨_, r207, t207, rfl, g207, e207, -⟩ := pe_copies d n (f := 0) (t := 45) (m := 45) g204 (by decide +kernel) (by decide) (by decide) (by decide) (by decide)
              refine gx_call0 rfl rfl g204 rfl rfl r207 rfl ?_
              have k108 : ai_hv t207 400 0 = some (.inl 1) := (e207 400 0 (by first | decide | omega)).trans k204
              show en_ex _ _ _ _ (70, [(0, gx_r 383), (1, .inl 0), (2, .inl b)], [], t207, n, 0) _
              refine ex_go (S := (71, [(0, gx_r 383), (1, .inl 0), (2, .inl b)], [gx_r 383], t207, n, 0)) rfl (fun _ => rfl) rfl ?_
              refine ex_go (S := (72, [(0, gx_r 383), (1, .inl 0), (2, .inl b)], [.inl b, gx_r 383], t207, n, 0)) rfl (fun _ => rfl) rfl ?_
              by_cases hc109 : b = 0
              · refine gx_1t (c := .eq) rfl (by first | decide | omega) hc109 rfl ?_
                refine ex_go (S := (80, [(0, gx_r 383), (1, .inl 0), (2, .inl b)], [gx_r 383, gx_r 383], t207, n, 0)) rfl (fun _ => rfl) rfl ?_
                obtain ⟨m110, k111, m110l, m110h⟩ := gx_in (c := 383) (i := 26) (lo := 0) (hi := 16) g207 rfl rfl rfl rfl
                refine gx_get rfl g207 rfl k111 rfl ?_
                refine gx_put rfl g207 rfl rfl (ai_in_h (by first | decide | omega) (by first | decide | omega) (by first | decide | omega)) rfl (fun t212 g212 k212 e212 => ?_)
                have k113 : ai_hv t212 400 0 = some (.inl 1) := (e212 400 0 (by first | decide | omega)).trans k108
                refine ex_go (S := (87, [(0, gx_r 383), (1, .inl 0), (2, .inl b)], [.inl 1], t212, n, 0)) rfl (fun _ => rfl) rfl ?_
                refine ex_ret (r := (some (.inl 1), t212, n, 0)) rfl (fun _ => rfl) ?_
                refine ⟨_, rfl, 1, t212, rfl, fun _ => ⟨rfl, fun i hi => ?_⟩, fun h => absurd h (by first | decide | omega)⟩
                rcases (show i = 0 ∨ i = 1 ∨ i = 2 ∨ i = 3 by omega) with rfl | rfl | rfl | rfl
                · rw [if_pos rfl]; exact k113
                · rw [if_neg (by decide)]; exact (e212 400 1 (by first | decide | omega)).trans ((e207 400 1 (by first | decide | omega)).trans ((e204 400 1 (by first | decide | omega)).trans ((e101 400 1 (by first | decide | omega)).trans (hF 1 (by first | decide | omega)))))
                · rw [if_neg (by decide)]; exact (e212 400 2 (by first | decide | omega)).trans ((e207 400 2 (by first | decide | omega)).trans ((e204 400 2 (by first | decide | omega)).trans ((e101 400 2 (by first | decide | omega)).trans (hF 2 (by first | decide | omega)))))
                · rw [if_neg (by decide)]; exact (e212 400 3 (by first | decide | omega)).trans ((e207 400 3 (by first | decide | omega)).trans ((e204 400 3 (by first | decide | omega)).trans ((e101 400 3 (by first | decide | omega)).trans (hF 3 (by first | decide | omega)))))
              · refine gx_1f (c := .eq) rfl (by first | decide | omega) hc109 rfl ?_
                refine ex_go (S := (76, [(0, gx_r 383), (1, .inl 0), (2, .inl b)], [.inl 0, gx_r 383], t207, n, 0)) rfl (fun _ => rfl) rfl ?_
                refine ex_go (S := (83, [(0, gx_r 383), (1, .inl 0), (2, .inl b)], [.inl 0, gx_r 383], t207, n, 0)) rfl (fun _ => rfl) rfl ?_
                refine gx_put rfl g207 rfl rfl (ai_in_h (by first | decide | omega) (by first | decide | omega) (by first | decide | omega)) rfl (fun t214 g214 k214 e214 => ?_)
                have k115 : ai_hv t214 400 0 = some (.inl 1) := (e214 400 0 (by first | decide | omega)).trans k108
                refine ex_go (S := (87, [(0, gx_r 383), (1, .inl 0), (2, .inl b)], [.inl 1], t214, n, 0)) rfl (fun _ => rfl) rfl ?_
                refine ex_ret (r := (some (.inl 1), t214, n, 0)) rfl (fun _ => rfl) ?_
                refine ⟨_, rfl, 1, t214, rfl, fun _ => ⟨rfl, fun i hi => ?_⟩, fun h => absurd h (by first | decide | omega)⟩
                rcases (show i = 0 ∨ i = 1 ∨ i = 2 ∨ i = 3 by omega) with rfl | rfl | rfl | rfl
                · rw [if_pos rfl]; exact k115
                · rw [if_neg (by decide)]; exact (e214 400 1 (by first | decide | omega)).trans ((e207 400 1 (by first | decide | omega)).trans ((e204 400 1 (by first | decide | omega)).trans ((e101 400 1 (by first | decide | omega)).trans (hF 1 (by first | decide | omega)))))
                · rw [if_neg (by decide)]; exact (e214 400 2 (by first | decide | omega)).trans ((e207 400 2 (by first | decide | omega)).trans ((e204 400 2 (by first | decide | omega)).trans ((e101 400 2 (by first | decide | omega)).trans (hF 2 (by first | decide | omega)))))
                · rw [if_neg (by decide)]; exact (e214 400 3 (by first | decide | omega)).trans ((e207 400 3 (by first | decide | omega)).trans ((e204 400 3 (by first | decide | omega)).trans ((e101 400 3 (by first | decide | omega)).trans (hF 3 (by first | decide | omega)))))
            · refine gx_1f (c := .eq) rfl (by first | decide | omega) hc106 rfl ?_
              refine ex_go (S := (56, [(0, gx_r 383), (1, .inl 0), (2, .inl b)], [.inl 0, .inl 0, gx_r 383], t204, n, 0)) rfl (fun _ => rfl) rfl ?_
              refine ex_go (S := (65, [(0, gx_r 383), (1, .inl 0), (2, .inl b)], [.inl 0, .inl 0, gx_r 383], t204, n, 0)) rfl (fun _ => rfl) rfl ?_
              refine ex_go (S := (67, [(0, gx_r 383), (1, .inl 0), (2, .inl b)], [.inl 45, .inl 0, .inl 0, gx_r 383], t204, n, 0)) rfl (fun _ => rfl) rfl ?_
              omega
          · refine gx_1f (c := .eq) rfl (by first | decide | omega) hc105 rfl ?_
            refine ex_go (S := (43, [(0, gx_r 383), (1, .inl 0), (2, .inl b)], [.inl 45, gx_r 383], t204, n, 0)) rfl (fun _ => rfl) rfl ?_
            refine ex_go (S := (44, [(0, gx_r 383), (1, .inl 0), (2, .inl b)], [.inl 1, .inl 45, gx_r 383], t204, n, 0)) rfl (fun _ => rfl) rfl ?_
            refine ex_go (S := (45, [(0, gx_r 383), (1, .inl 0), (2, .inl b)], [.inl 0, .inl 1, .inl 45, gx_r 383], t204, n, 0)) rfl (fun _ => rfl) rfl ?_
            refine ex_go (S := (46, [(0, gx_r 383), (1, .inl 0), (2, .inl b)], [.inl 1, .inl 45, gx_r 383], t204, n, 0)) rfl (fun _ => rfl) rfl ?_
            refine ex_go (S := (47, [(0, gx_r 383), (1, .inl 0), (2, .inl b)], [.inl 45, gx_r 383], t204, n, 0)) rfl (fun _ => rfl) rfl ?_
            refine ex_go (S := (51, [(0, gx_r 383), (1, .inl 0), (2, .inl b)], [.inl 45, gx_r 383], t204, n, 0)) rfl (fun _ => rfl) rfl ?_
            refine ex_go (S := (52, [(0, gx_r 383), (1, .inl 0), (2, .inl b)], [.inl b, .inl 45, gx_r 383], t204, n, 0)) rfl (fun _ => rfl) rfl ?_
            by_cases hc117 : b = 0
            · refine gx_1t (c := .eq) rfl (by first | decide | omega) hc117 rfl ?_
              refine ex_go (S := (61, [(0, gx_r 383), (1, .inl 0), (2, .inl b)], [.inl 45, .inl 45, gx_r 383], t204, n, 0)) rfl (fun _ => rfl) rfl ?_
              refine ex_go (S := (62, [(0, gx_r 383), (1, .inl 0), (2, .inl b)], [.inl 1, .inl 45, .inl 45, gx_r 383], t204, n, 0)) rfl (fun _ => rfl) rfl ?_
              refine ex_go (S := (63, [(0, gx_r 383), (1, .inl 0), (2, .inl b)], [.inl 0, .inl 1, .inl 45, .inl 45, gx_r 383], t204, n, 0)) rfl (fun _ => rfl) rfl ?_
              refine ex_go (S := (64, [(0, gx_r 383), (1, .inl 0), (2, .inl b)], [.inl 1, .inl 45, .inl 45, gx_r 383], t204, n, 0)) rfl (fun _ => rfl) rfl ?_
              refine ex_go (S := (65, [(0, gx_r 383), (1, .inl 0), (2, .inl b)], [.inl 45, .inl 45, gx_r 383], t204, n, 0)) rfl (fun _ => rfl) rfl ?_
              refine ex_go (S := (67, [(0, gx_r 383), (1, .inl 0), (2, .inl b)], [.inl 45, .inl 45, .inl 45, gx_r 383], t204, n, 0)) rfl (fun _ => rfl) rfl ?_
              omega
            · refine gx_1f (c := .eq) rfl (by first | decide | omega) hc117 rfl ?_
              refine ex_go (S := (56, [(0, gx_r 383), (1, .inl 0), (2, .inl b)], [.inl 0, .inl 45, gx_r 383], t204, n, 0)) rfl (fun _ => rfl) rfl ?_
              refine ex_go (S := (65, [(0, gx_r 383), (1, .inl 0), (2, .inl b)], [.inl 0, .inl 45, gx_r 383], t204, n, 0)) rfl (fun _ => rfl) rfl ?_
              refine ex_go (S := (67, [(0, gx_r 383), (1, .inl 0), (2, .inl b)], [.inl 45, .inl 0, .inl 45, gx_r 383], t204, n, 0)) rfl (fun _ => rfl) rfl ?_
              obtain ⟨_, r219, t219, rfl, g219, e219, -⟩ := pe_copies d n (f := 45) (t := 0) (m := 45) g204 (by decide +kernel) (by decide) (by decide) (by decide) (by decide)
              refine gx_call0 rfl rfl g204 rfl rfl r219 rfl ?_
              have k120 : ai_hv t219 400 0 = some (.inl 1) := (e219 400 0 (by first | decide | omega)).trans k204
              show en_ex _ _ _ _ (70, [(0, gx_r 383), (1, .inl 0), (2, .inl b)], [], t219, n, 0) _
              refine ex_go (S := (71, [(0, gx_r 383), (1, .inl 0), (2, .inl b)], [gx_r 383], t219, n, 0)) rfl (fun _ => rfl) rfl ?_
              refine ex_go (S := (72, [(0, gx_r 383), (1, .inl 0), (2, .inl b)], [.inl b, gx_r 383], t219, n, 0)) rfl (fun _ => rfl) rfl ?_
              by_cases hc121 : b = 0
              · refine gx_1t (c := .eq) rfl (by first | decide | omega) hc121 rfl ?_
                refine ex_go (S := (80, [(0, gx_r 383), (1, .inl 0), (2, .inl b)], [gx_r 383, gx_r 383], t219, n, 0)) rfl (fun _ => rfl) rfl ?_
                obtain ⟨m122, k123, m122l, m122h⟩ := gx_in (c := 383) (i := 26) (lo := 0) (hi := 16) g219 rfl rfl rfl rfl
                refine gx_get rfl g219 rfl k123 rfl ?_
                refine gx_put rfl g219 rfl rfl (ai_in_h (by first | decide | omega) (by first | decide | omega) (by first | decide | omega)) rfl (fun t224 g224 k224 e224 => ?_)
                have k125 : ai_hv t224 400 0 = some (.inl 1) := (e224 400 0 (by first | decide | omega)).trans k120
                refine ex_go (S := (87, [(0, gx_r 383), (1, .inl 0), (2, .inl b)], [.inl 1], t224, n, 0)) rfl (fun _ => rfl) rfl ?_
                refine ex_ret (r := (some (.inl 1), t224, n, 0)) rfl (fun _ => rfl) ?_
                refine ⟨_, rfl, 1, t224, rfl, fun _ => ⟨rfl, fun i hi => ?_⟩, fun h => absurd h (by first | decide | omega)⟩
                rcases (show i = 0 ∨ i = 1 ∨ i = 2 ∨ i = 3 by omega) with rfl | rfl | rfl | rfl
                · rw [if_pos rfl]; exact k125
                · rw [if_neg (by decide)]; exact (e224 400 1 (by first | decide | omega)).trans ((e219 400 1 (by first | decide | omega)).trans ((e204 400 1 (by first | decide | omega)).trans ((e101 400 1 (by first | decide | omega)).trans (hF 1 (by first | decide | omega)))))
                · rw [if_neg (by decide)]; exact (e224 400 2 (by first | decide | omega)).trans ((e219 400 2 (by first | decide | omega)).trans ((e204 400 2 (by first | decide | omega)).trans ((e101 400 2 (by first | decide | omega)).trans (hF 2 (by first | decide | omega)))))
                · rw [if_neg (by decide)]; exact (e224 400 3 (by first | decide | omega)).trans ((e219 400 3 (by first | decide | omega)).trans ((e204 400 3 (by first | decide | omega)).trans ((e101 400 3 (by first | decide | omega)).trans (hF 3 (by first | decide | omega)))))
              · refine gx_1f (c := .eq) rfl (by first | decide | omega) hc121 rfl ?_
                refine ex_go (S := (76, [(0, gx_r 383), (1, .inl 0), (2, .inl b)], [.inl 0, gx_r 383], t219, n, 0)) rfl (fun _ => rfl) rfl ?_
                refine ex_go (S := (83, [(0, gx_r 383), (1, .inl 0), (2, .inl b)], [.inl 0, gx_r 383], t219, n, 0)) rfl (fun _ => rfl) rfl ?_
                refine gx_put rfl g219 rfl rfl (ai_in_h (by first | decide | omega) (by first | decide | omega) (by first | decide | omega)) rfl (fun t226 g226 k226 e226 => ?_)
                have k127 : ai_hv t226 400 0 = some (.inl 1) := (e226 400 0 (by first | decide | omega)).trans k120
                refine ex_go (S := (87, [(0, gx_r 383), (1, .inl 0), (2, .inl b)], [.inl 1], t226, n, 0)) rfl (fun _ => rfl) rfl ?_
                refine ex_ret (r := (some (.inl 1), t226, n, 0)) rfl (fun _ => rfl) ?_
                refine ⟨_, rfl, 1, t226, rfl, fun _ => ⟨rfl, fun i hi => ?_⟩, fun h => absurd h (by first | decide | omega)⟩
                rcases (show i = 0 ∨ i = 1 ∨ i = 2 ∨ i = 3 by omega) with rfl | rfl | rfl | rfl
                · rw [if_pos rfl]; exact k127
                · rw [if_neg (by decide)]; exact (e226 400 1 (by first | decide | omega)).trans ((e219 400 1 (by first | decide | omega)).trans ((e204 400 1 (by first | decide | omega)).trans ((e101 400 1 (by first | decide | omega)).trans (hF 1 (by first | decide | omega)))))
                · rw [if_neg (by decide)]; exact (e226 400 2 (by first | decide | omega)).trans ((e219 400 2 (by first | decide | omega)).trans ((e204 400 2 (by first | decide | omega)).trans ((e101 400 2 (by first | decide | omega)).trans (hF 2 (by first | decide | omega)))))
                · rw [if_neg (by decide)]; exact (e226 400 3 (by first | decide | omega)).trans ((e219 400 3 (by first | decide | omega)).trans ((e204 400 3 (by first | decide | omega)).trans ((e101 400 3 (by first | decide | omega)).trans (hF 3 (by first | decide | omega)))))
        · refine ex_go (S := (30, [(0, gx_r 383), (1, .inl 1), (2, .inl b)], [gx_r 383], t101, n, 0)) rfl (fun _ => rfl) rfl ?_
          refine gx_ref (c := 400) rfl g101 rfl rfl rfl rfl ?_
          refine ex_go (S := (34, [(0, gx_r 383), (1, .inl 1), (2, .inl b)], [.inl 1, gx_r 400], t101, n, 0)) rfl (fun _ => rfl) rfl ?_
          refine ex_go (S := (35, [(0, gx_r 383), (1, .inl 1), (2, .inl b)], [.inl 1, .inl 1, gx_r 400], t101, n, 0)) rfl (fun _ => rfl) rfl ?_
          refine gx_apv (d := 2) rfl (fun _ => rfl) g101 rfl rfl rfl (show 1 < 4 from by omega) rfl (ai_in_h (by first | decide | omega) (by first | decide | omega) (by first | decide | omega)) rfl (fun t228 g228 k228 e228 => ?_)
          refine ex_go (S := (37, [(0, gx_r 383), (1, .inl 1), (2, .inl b)], [gx_r 383], t228, n, 0)) rfl (fun _ => rfl) rfl ?_
          refine ex_go (S := (38, [(0, gx_r 383), (1, .inl 1), (2, .inl b)], [.inl b, gx_r 383], t228, n, 0)) rfl (fun _ => rfl) rfl ?_
          by_cases hc129 : b = 0
          · refine gx_1t (c := .eq) rfl (by first | decide | omega) hc129 rfl ?_
            refine ex_go (S := (51, [(0, gx_r 383), (1, .inl 1), (2, .inl b)], [.inl 0, gx_r 383], t228, n, 0)) rfl (fun _ => rfl) rfl ?_
            refine ex_go (S := (52, [(0, gx_r 383), (1, .inl 1), (2, .inl b)], [.inl b, .inl 0, gx_r 383], t228, n, 0)) rfl (fun _ => rfl) rfl ?_
            by_cases hc130 : b = 0
            · refine gx_1t (c := .eq) rfl (by first | decide | omega) hc130 rfl ?_
              refine ex_go (S := (61, [(0, gx_r 383), (1, .inl 1), (2, .inl b)], [.inl 45, .inl 0, gx_r 383], t228, n, 0)) rfl (fun _ => rfl) rfl ?_
              refine ex_go (S := (62, [(0, gx_r 383), (1, .inl 1), (2, .inl b)], [.inl 1, .inl 45, .inl 0, gx_r 383], t228, n, 0)) rfl (fun _ => rfl) rfl ?_
              refine ex_go (S := (63, [(0, gx_r 383), (1, .inl 1), (2, .inl b)], [.inl 1, .inl 1, .inl 45, .inl 0, gx_r 383], t228, n, 0)) rfl (fun _ => rfl) rfl ?_
              refine ex_go (S := (64, [(0, gx_r 383), (1, .inl 1), (2, .inl b)], [.inl 2, .inl 45, .inl 0, gx_r 383], t228, n, 0)) rfl (fun _ => rfl) rfl ?_
              refine ex_go (S := (65, [(0, gx_r 383), (1, .inl 1), (2, .inl b)], [.inl 90, .inl 0, gx_r 383], t228, n, 0)) rfl (fun _ => rfl) rfl ?_
              refine ex_go (S := (67, [(0, gx_r 383), (1, .inl 1), (2, .inl b)], [.inl 45, .inl 90, .inl 0, gx_r 383], t228, n, 0)) rfl (fun _ => rfl) rfl ?_
              obtain ⟨_, r231, t231, rfl, g231, e231, -⟩ := pe_copies d n (f := 0) (t := 90) (m := 45) g228 (by decide +kernel) (by decide) (by decide) (by decide) (by decide)
              refine gx_call0 rfl rfl g228 rfl rfl r231 rfl ?_
              have k132 : ai_hv t231 400 1 = some (.inl 1) := (e231 400 1 (by first | decide | omega)).trans k228
              show en_ex _ _ _ _ (70, [(0, gx_r 383), (1, .inl 1), (2, .inl b)], [], t231, n, 0) _
              refine ex_go (S := (71, [(0, gx_r 383), (1, .inl 1), (2, .inl b)], [gx_r 383], t231, n, 0)) rfl (fun _ => rfl) rfl ?_
              refine ex_go (S := (72, [(0, gx_r 383), (1, .inl 1), (2, .inl b)], [.inl b, gx_r 383], t231, n, 0)) rfl (fun _ => rfl) rfl ?_
              by_cases hc133 : b = 0
              · refine gx_1t (c := .eq) rfl (by first | decide | omega) hc133 rfl ?_
                refine ex_go (S := (80, [(0, gx_r 383), (1, .inl 1), (2, .inl b)], [gx_r 383, gx_r 383], t231, n, 0)) rfl (fun _ => rfl) rfl ?_
                obtain ⟨m134, k135, m134l, m134h⟩ := gx_in (c := 383) (i := 26) (lo := 0) (hi := 16) g231 rfl rfl rfl rfl
                refine gx_get rfl g231 rfl k135 rfl ?_
                refine gx_put rfl g231 rfl rfl (ai_in_h (by first | decide | omega) (by first | decide | omega) (by first | decide | omega)) rfl (fun t236 g236 k236 e236 => ?_)
                have k137 : ai_hv t236 400 1 = some (.inl 1) := (e236 400 1 (by first | decide | omega)).trans k132
                refine ex_go (S := (87, [(0, gx_r 383), (1, .inl 1), (2, .inl b)], [.inl 1], t236, n, 0)) rfl (fun _ => rfl) rfl ?_
                refine ex_ret (r := (some (.inl 1), t236, n, 0)) rfl (fun _ => rfl) ?_
                refine ⟨_, rfl, 1, t236, rfl, fun _ => ⟨rfl, fun i hi => ?_⟩, fun h => absurd h (by first | decide | omega)⟩
                rcases (show i = 0 ∨ i = 1 ∨ i = 2 ∨ i = 3 by omega) with rfl | rfl | rfl | rfl
                · rw [if_neg (by decide)]; exact (e236 400 0 (by first | decide | omega)).trans ((e231 400 0 (by first | decide | omega)).trans ((e228 400 0 (by first | decide | omega)).trans ((e101 400 0 (by first | decide | omega)).trans (hF 0 (by first | decide | omega)))))
                · rw [if_pos rfl]; exact k137
                · rw [if_neg (by decide)]; exact (e236 400 2 (by first | decide | omega)).trans ((e231 400 2 (by first | decide | omega)).trans ((e228 400 2 (by first | decide | omega)).trans ((e101 400 2 (by first | decide | omega)).trans (hF 2 (by first | decide | omega)))))
                · rw [if_neg (by decide)]; exact (e236 400 3 (by first | decide | omega)).trans ((e231 400 3 (by first | decide | omega)).trans ((e228 400 3 (by first | decide | omega)).trans ((e101 400 3 (by first | decide | omega)).trans (hF 3 (by first | decide | omega)))))
              · refine gx_1f (c := .eq) rfl (by first | decide | omega) hc133 rfl ?_
                refine ex_go (S := (76, [(0, gx_r 383), (1, .inl 1), (2, .inl b)], [.inl 0, gx_r 383], t231, n, 0)) rfl (fun _ => rfl) rfl ?_
                refine ex_go (S := (83, [(0, gx_r 383), (1, .inl 1), (2, .inl b)], [.inl 0, gx_r 383], t231, n, 0)) rfl (fun _ => rfl) rfl ?_
                refine gx_put rfl g231 rfl rfl (ai_in_h (by first | decide | omega) (by first | decide | omega) (by first | decide | omega)) rfl (fun t238 g238 k238 e238 => ?_)
                have k139 : ai_hv t238 400 1 = some (.inl 1) := (e238 400 1 (by first | decide | omega)).trans k132
                refine ex_go (S := (87, [(0, gx_r 383), (1, .inl 1), (2, .inl b)], [.inl 1], t238, n, 0)) rfl (fun _ => rfl) rfl ?_
                refine ex_ret (r := (some (.inl 1), t238, n, 0)) rfl (fun _ => rfl) ?_
                refine ⟨_, rfl, 1, t238, rfl, fun _ => ⟨rfl, fun i hi => ?_⟩, fun h => absurd h (by first | decide | omega)⟩
                rcases (show i = 0 ∨ i = 1 ∨ i = 2 ∨ i = 3 by omega) with rfl | rfl | rfl | rfl
                · rw [if_neg (by decide)]; exact (e238 400 0 (by first | decide | omega)).trans ((e231 400 0 (by first | decide | omega)).trans ((e228 400 0 (by first | decide | omega)).trans ((e101 400 0 (by first | decide | omega)).trans (hF 0 (by first | decide | omega)))))
                · rw [if_pos rfl]; exact k139
                · rw [if_neg (by decide)]; exact (e238 400 2 (by first | decide | omega)).trans ((e231 400 2 (by first | decide | omega)).trans ((e228 400 2 (by first | decide | omega)).trans ((e101 400 2 (by first | decide | omega)).trans (hF 2 (by first | decide | omega)))))
                · rw [if_neg (by decide)]; exact (e238 400 3 (by first | decide | omega)).trans ((e231 400 3 (by first | decide | omega)).trans ((e228 400 3 (by first | decide | omega)).trans ((e101 400 3 (by first | decide | omega)).trans (hF 3 (by first | decide | omega)))))
            · refine gx_1f (c := .eq) rfl (by first | decide | omega) hc130 rfl ?_
              refine ex_go (S := (56, [(0, gx_r 383), (1, .inl 1), (2, .inl b)], [.inl 0, .inl 0, gx_r 383], t228, n, 0)) rfl (fun _ => rfl) rfl ?_
              refine ex_go (S := (65, [(0, gx_r 383), (1, .inl 1), (2, .inl b)], [.inl 0, .inl 0, gx_r 383], t228, n, 0)) rfl (fun _ => rfl) rfl ?_
              refine ex_go (S := (67, [(0, gx_r 383), (1, .inl 1), (2, .inl b)], [.inl 45, .inl 0, .inl 0, gx_r 383], t228, n, 0)) rfl (fun _ => rfl) rfl ?_
              omega
          · refine gx_1f (c := .eq) rfl (by first | decide | omega) hc129 rfl ?_
            refine ex_go (S := (43, [(0, gx_r 383), (1, .inl 1), (2, .inl b)], [.inl 45, gx_r 383], t228, n, 0)) rfl (fun _ => rfl) rfl ?_
            refine ex_go (S := (44, [(0, gx_r 383), (1, .inl 1), (2, .inl b)], [.inl 1, .inl 45, gx_r 383], t228, n, 0)) rfl (fun _ => rfl) rfl ?_
            refine ex_go (S := (45, [(0, gx_r 383), (1, .inl 1), (2, .inl b)], [.inl 1, .inl 1, .inl 45, gx_r 383], t228, n, 0)) rfl (fun _ => rfl) rfl ?_
            refine ex_go (S := (46, [(0, gx_r 383), (1, .inl 1), (2, .inl b)], [.inl 2, .inl 45, gx_r 383], t228, n, 0)) rfl (fun _ => rfl) rfl ?_
            refine ex_go (S := (47, [(0, gx_r 383), (1, .inl 1), (2, .inl b)], [.inl 90, gx_r 383], t228, n, 0)) rfl (fun _ => rfl) rfl ?_
            refine ex_go (S := (51, [(0, gx_r 383), (1, .inl 1), (2, .inl b)], [.inl 90, gx_r 383], t228, n, 0)) rfl (fun _ => rfl) rfl ?_
            refine ex_go (S := (52, [(0, gx_r 383), (1, .inl 1), (2, .inl b)], [.inl b, .inl 90, gx_r 383], t228, n, 0)) rfl (fun _ => rfl) rfl ?_
            by_cases hc141 : b = 0
            · refine gx_1t (c := .eq) rfl (by first | decide | omega) hc141 rfl ?_
              refine ex_go (S := (61, [(0, gx_r 383), (1, .inl 1), (2, .inl b)], [.inl 45, .inl 90, gx_r 383], t228, n, 0)) rfl (fun _ => rfl) rfl ?_
              refine ex_go (S := (62, [(0, gx_r 383), (1, .inl 1), (2, .inl b)], [.inl 1, .inl 45, .inl 90, gx_r 383], t228, n, 0)) rfl (fun _ => rfl) rfl ?_
              refine ex_go (S := (63, [(0, gx_r 383), (1, .inl 1), (2, .inl b)], [.inl 1, .inl 1, .inl 45, .inl 90, gx_r 383], t228, n, 0)) rfl (fun _ => rfl) rfl ?_
              refine ex_go (S := (64, [(0, gx_r 383), (1, .inl 1), (2, .inl b)], [.inl 2, .inl 45, .inl 90, gx_r 383], t228, n, 0)) rfl (fun _ => rfl) rfl ?_
              refine ex_go (S := (65, [(0, gx_r 383), (1, .inl 1), (2, .inl b)], [.inl 90, .inl 90, gx_r 383], t228, n, 0)) rfl (fun _ => rfl) rfl ?_
              refine ex_go (S := (67, [(0, gx_r 383), (1, .inl 1), (2, .inl b)], [.inl 45, .inl 90, .inl 90, gx_r 383], t228, n, 0)) rfl (fun _ => rfl) rfl ?_
              omega
            · refine gx_1f (c := .eq) rfl (by first | decide | omega) hc141 rfl ?_
              refine ex_go (S := (56, [(0, gx_r 383), (1, .inl 1), (2, .inl b)], [.inl 0, .inl 90, gx_r 383], t228, n, 0)) rfl (fun _ => rfl) rfl ?_
              refine ex_go (S := (65, [(0, gx_r 383), (1, .inl 1), (2, .inl b)], [.inl 0, .inl 90, gx_r 383], t228, n, 0)) rfl (fun _ => rfl) rfl ?_
              refine ex_go (S := (67, [(0, gx_r 383), (1, .inl 1), (2, .inl b)], [.inl 45, .inl 0, .inl 90, gx_r 383], t228, n, 0)) rfl (fun _ => rfl) rfl ?_
              obtain ⟨_, r243, t243, rfl, g243, e243, -⟩ := pe_copies d n (f := 90) (t := 0) (m := 45) g228 (by decide +kernel) (by decide) (by decide) (by decide) (by decide)
              refine gx_call0 rfl rfl g228 rfl rfl r243 rfl ?_
              have k144 : ai_hv t243 400 1 = some (.inl 1) := (e243 400 1 (by first | decide | omega)).trans k228
              show en_ex _ _ _ _ (70, [(0, gx_r 383), (1, .inl 1), (2, .inl b)], [], t243, n, 0) _
              refine ex_go (S := (71, [(0, gx_r 383), (1, .inl 1), (2, .inl b)], [gx_r 383], t243, n, 0)) rfl (fun _ => rfl) rfl ?_
              refine ex_go (S := (72, [(0, gx_r 383), (1, .inl 1), (2, .inl b)], [.inl b, gx_r 383], t243, n, 0)) rfl (fun _ => rfl) rfl ?_
              by_cases hc145 : b = 0
              · refine gx_1t (c := .eq) rfl (by first | decide | omega) hc145 rfl ?_
                refine ex_go (S := (80, [(0, gx_r 383), (1, .inl 1), (2, .inl b)], [gx_r 383, gx_r 383], t243, n, 0)) rfl (fun _ => rfl) rfl ?_
                obtain ⟨m146, k147, m146l, m146h⟩ := gx_in (c := 383) (i := 26) (lo := 0) (hi := 16) g243 rfl rfl rfl rfl
                refine gx_get rfl g243 rfl k147 rfl ?_
                refine gx_put rfl g243 rfl rfl (ai_in_h (by first | decide | omega) (by first | decide | omega) (by first | decide | omega)) rfl (fun t248 g248 k248 e248 => ?_)
                have k149 : ai_hv t248 400 1 = some (.inl 1) := (e248 400 1 (by first | decide | omega)).trans k144
                refine ex_go (S := (87, [(0, gx_r 383), (1, .inl 1), (2, .inl b)], [.inl 1], t248, n, 0)) rfl (fun _ => rfl) rfl ?_
                refine ex_ret (r := (some (.inl 1), t248, n, 0)) rfl (fun _ => rfl) ?_
                refine ⟨_, rfl, 1, t248, rfl, fun _ => ⟨rfl, fun i hi => ?_⟩, fun h => absurd h (by first | decide | omega)⟩
                rcases (show i = 0 ∨ i = 1 ∨ i = 2 ∨ i = 3 by omega) with rfl | rfl | rfl | rfl
                · rw [if_neg (by decide)]; exact (e248 400 0 (by first | decide | omega)).trans ((e243 400 0 (by first | decide | omega)).trans ((e228 400 0 (by first | decide | omega)).trans ((e101 400 0 (by first | decide | omega)).trans (hF 0 (by first | decide | omega)))))
                · rw [if_pos rfl]; exact k149
                · rw [if_neg (by decide)]; exact (e248 400 2 (by first | decide | omega)).trans ((e243 400 2 (by first | decide | omega)).trans ((e228 400 2 (by first | decide | omega)).trans ((e101 400 2 (by first | decide | omega)).trans (hF 2 (by first | decide | omega)))))
                · rw [if_neg (by decide)]; exact (e248 400 3 (by first | decide | omega)).trans ((e243 400 3 (by first | decide | omega)).trans ((e228 400 3 (by first | decide | omega)).trans ((e101 400 3 (by first | decide | omega)).trans (hF 3 (by first | decide | omega)))))
              · refine gx_1f (c := .eq) rfl (by first | decide | omega) hc145 rfl ?_
                refine ex_go (S := (76, [(0, gx_r 383), (1, .inl 1), (2, .inl b)], [.inl 0, gx_r 383], t243, n, 0)) rfl (fun _ => rfl) rfl ?_
                refine ex_go (S := (83, [(0, gx_r 383), (1, .inl 1), (2, .inl b)], [.inl 0, gx_r 383], t243, n, 0)) rfl (fun _ => rfl) rfl ?_
                refine gx_put rfl g243 rfl rfl (ai_in_h (by first | decide | omega) (by first | decide | omega) (by first | decide | omega)) rfl (fun t250 g250 k250 e250 => ?_)
                have k151 : ai_hv t250 400 1 = some (.inl 1) := (e250 400 1 (by first | decide | omega)).trans k144
                refine ex_go (S := (87, [(0, gx_r 383), (1, .inl 1), (2, .inl b)], [.inl 1], t250, n, 0)) rfl (fun _ => rfl) rfl ?_
                refine ex_ret (r := (some (.inl 1), t250, n, 0)) rfl (fun _ => rfl) ?_
                refine ⟨_, rfl, 1, t250, rfl, fun _ => ⟨rfl, fun i hi => ?_⟩, fun h => absurd h (by first | decide | omega)⟩
                rcases (show i = 0 ∨ i = 1 ∨ i = 2 ∨ i = 3 by omega) with rfl | rfl | rfl | rfl
                · rw [if_neg (by decide)]; exact (e250 400 0 (by first | decide | omega)).trans ((e243 400 0 (by first | decide | omega)).trans ((e228 400 0 (by first | decide | omega)).trans ((e101 400 0 (by first | decide | omega)).trans (hF 0 (by first | decide | omega)))))
                · rw [if_pos rfl]; exact k151
                · rw [if_neg (by decide)]; exact (e250 400 2 (by first | decide | omega)).trans ((e243 400 2 (by first | decide | omega)).trans ((e228 400 2 (by first | decide | omega)).trans ((e101 400 2 (by first | decide | omega)).trans (hF 2 (by first | decide | omega)))))
                · rw [if_neg (by decide)]; exact (e250 400 3 (by first | decide | omega)).trans ((e243 400 3 (by first | decide | omega)).trans ((e228 400 3 (by first | decide | omega)).trans ((e101 400 3 (by first | decide | omega)).trans (hF 3 (by first | decide | omega)))))
        · refine ex_go (S := (30, [(0, gx_r 383), (1, .inl 2), (2, .inl b)], [gx_r 383], t101, n, 0)) rfl (fun _ => rfl) rfl ?_
          refine gx_ref (c := 400) rfl g101 rfl rfl rfl rfl ?_
          refine ex_go (S := (34, [(0, gx_r 383), (1, .inl 2), (2, .inl b)], [.inl 2, gx_r 400], t101, n, 0)) rfl (fun _ => rfl) rfl ?_
          refine ex_go (S := (35, [(0, gx_r 383), (1, .inl 2), (2, .inl b)], [.inl 1, .inl 2, gx_r 400], t101, n, 0)) rfl (fun _ => rfl) rfl ?_
          refine gx_apv (d := 2) rfl (fun _ => rfl) g101 rfl rfl rfl (show 2 < 4 from by omega) rfl (ai_in_h (by first | decide | omega) (by first | decide | omega) (by first | decide | omega)) rfl (fun t252 g252 k252 e252 => ?_)
          refine ex_go (S := (37, [(0, gx_r 383), (1, .inl 2), (2, .inl b)], [gx_r 383], t252, n, 0)) rfl (fun _ => rfl) rfl ?_
          refine ex_go (S := (38, [(0, gx_r 383), (1, .inl 2), (2, .inl b)], [.inl b, gx_r 383], t252, n, 0)) rfl (fun _ => rfl) rfl ?_
          by_cases hc153 : b = 0
          · refine gx_1t (c := .eq) rfl (by first | decide | omega) hc153 rfl ?_
            refine ex_go (S := (51, [(0, gx_r 383), (1, .inl 2), (2, .inl b)], [.inl 0, gx_r 383], t252, n, 0)) rfl (fun _ => rfl) rfl ?_
            refine ex_go (S := (52, [(0, gx_r 383), (1, .inl 2), (2, .inl b)], [.inl b, .inl 0, gx_r 383], t252, n, 0)) rfl (fun _ => rfl) rfl ?_
            by_cases hc154 : b = 0
            · refine gx_1t (c := .eq) rfl (by first | decide | omega) hc154 rfl ?_
              refine ex_go (S := (61, [(0, gx_r 383), (1, .inl 2), (2, .inl b)], [.inl 45, .inl 0, gx_r 383], t252, n, 0)) rfl (fun _ => rfl) rfl ?_
              refine ex_go (S := (62, [(0, gx_r 383), (1, .inl 2), (2, .inl b)], [.inl 1, .inl 45, .inl 0, gx_r 383], t252, n, 0)) rfl (fun _ => rfl) rfl ?_
              refine ex_go (S := (63, [(0, gx_r 383), (1, .inl 2), (2, .inl b)], [.inl 2, .inl 1, .inl 45, .inl 0, gx_r 383], t252, n, 0)) rfl (fun _ => rfl) rfl ?_
              refine ex_go (S := (64, [(0, gx_r 383), (1, .inl 2), (2, .inl b)], [.inl 3, .inl 45, .inl 0, gx_r 383], t252, n, 0)) rfl (fun _ => rfl) rfl ?_
              refine ex_go (S := (65, [(0, gx_r 383), (1, .inl 2), (2, .inl b)], [.inl 135, .inl 0, gx_r 383], t252, n, 0)) rfl (fun _ => rfl) rfl ?_
              refine ex_go (S := (67, [(0, gx_r 383), (1, .inl 2), (2, .inl b)], [.inl 45, .inl 135, .inl 0, gx_r 383], t252, n, 0)) rfl (fun _ => rfl) rfl ?_
              obtain ⟨_, r255, t255, rfl, g255, e255, -⟩ := pe_copies d n (f := 0) (t := 135) (m := 45) g252 (by decide +kernel) (by decide) (by decide) (by decide) (by decide)
              refine gx_call0 rfl rfl g252 rfl rfl r255 rfl ?_
              have k156 : ai_hv t255 400 2 = some (.inl 1) := (e255 400 2 (by first | decide | omega)).trans k252
              show en_ex _ _ _ _ (70, [(0, gx_r 383), (1, .inl 2), (2, .inl b)], [], t255, n, 0) _
              refine ex_go (S := (71, [(0, gx_r 383), (1, .inl 2), (2, .inl b)], [gx_r 383], t255, n, 0)) rfl (fun _ => rfl) rfl ?_
              refine ex_go (S := (72, [(0, gx_r 383), (1, .inl 2), (2, .inl b)], [.inl b, gx_r 383], t255, n, 0)) rfl (fun _ => rfl) rfl ?_
              by_cases hc157 : b = 0
              · refine gx_1t (c := .eq) rfl (by first | decide | omega) hc157 rfl ?_
                refine ex_go (S := (80, [(0, gx_r 383), (1, .inl 2), (2, .inl b)], [gx_r 383, gx_r 383], t255, n, 0)) rfl (fun _ => rfl) rfl ?_
                obtain ⟨m158, k159, m158l, m158h⟩ := gx_in (c := 383) (i := 26) (lo := 0) (hi := 16) g255 rfl rfl rfl rfl
                refine gx_get rfl g255 rfl k159 rfl ?_
                refine gx_put rfl g255 rfl rfl (ai_in_h (by first | decide | omega) (by first | decide | omega) (by first | decide | omega)) rfl (fun t260 g260 k260 e260 => ?_)
                have k161 : ai_hv t260 400 2 = some (.inl 1) := (e260 400 2 (by first | decide | omega)).trans k156
                refine ex_go (S := (87, [(0, gx_r 383), (1, .inl 2), (2, .inl b)], [.inl 1], t260, n, 0)) rfl (fun _ => rfl) rfl ?_
                refine ex_ret (r := (some (.inl 1), t260, n, 0)) rfl (fun _ => rfl) ?_
                refine ⟨_, rfl, 1, t260, rfl, fun _ => ⟨rfl, fun i hi => ?_⟩, fun h => absurd h (by first | decide | omega)⟩
                rcases (show i = 0 ∨ i = 1 ∨ i = 2 ∨ i = 3 by omega) with rfl | rfl | rfl | rfl
                · rw [if_neg (by decide)]; exact (e260 400 0 (by first | decide | omega)).trans ((e255 400 0 (by first | decide | omega)).trans ((e252 400 0 (by first | decide | omega)).trans ((e101 400 0 (by first | decide | omega)).trans (hF 0 (by first | decide | omega)))))
                · rw [if_neg (by decide)]; exact (e260 400 1 (by first | decide | omega)).trans ((e255 400 1 (by first | decide | omega)).trans ((e252 400 1 (by first | decide | omega)).trans ((e101 400 1 (by first | decide | omega)).trans (hF 1 (by first | decide | omega)))))
                · rw [if_pos rfl]; exact k161
                · rw [if_neg (by decide)]; exact (e260 400 3 (by first | decide | omega)).trans ((e255 400 3 (by first | decide | omega)).trans ((e252 400 3 (by first | decide | omega)).trans ((e101 400 3 (by first | decide | omega)).trans (hF 3 (by first | decide | omega)))))
              · refine gx_1f (c := .eq) rfl (by first | decide | omega) hc157 rfl ?_
                refine ex_go (S := (76, [(0, gx_r 383), (1, .inl 2), (2, .inl b)], [.inl 0, gx_r 383], t255, n, 0)) rfl (fun _ => rfl) rfl ?_
                refine ex_go (S := (83, [(0, gx_r 383), (1, .inl 2), (2, .inl b)], [.inl 0, gx_r 383], t255, n, 0)) rfl (fun _ => rfl) rfl ?_
                refine gx_put rfl g255 rfl rfl (ai_in_h (by first | decide | omega) (by first | decide | omega) (by first | decide | omega)) rfl (fun t262 g262 k262 e262 => ?_)
                have k163 : ai_hv t262 400 2 = some (.inl 1) := (e262 400 2 (by first | decide | omega)).trans k156
                refine ex_go (S := (87, [(0, gx_r 383), (1, .inl 2), (2, .inl b)], [.inl 1], t262, n, 0)) rfl (fun _ => rfl) rfl ?_
                refine ex_ret (r := (some (.inl 1), t262, n, 0)) rfl (fun _ => rfl) ?_
                refine ⟨_, rfl, 1, t262, rfl, fun _ => ⟨rfl, fun i hi => ?_⟩, fun h => absurd h (by first | decide | omega)⟩
                rcases (show i = 0 ∨ i = 1 ∨ i = 2 ∨ i = 3 by omega) with rfl | rfl | rfl | rfl
                · rw [if_neg (by decide)]; exact (e262 400 0 (by first | decide | omega)).trans ((e255 400 0 (by first | decide | omega)).trans ((e252 400 0 (by first | decide | omega)).trans ((e101 400 0 (by first | decide | omega)).trans (hF 0 (by first | decide | omega)))))
                · rw [if_neg (by decide)]; exact (e262 400 1 (by first | decide | omega)).trans ((e255 400 1 (by first | decide | omega)).trans ((e252 400 1 (by first | decide | omega)).trans ((e101 400 1 (by first | decide | omega)).trans (hF 1 (by first | decide | omega)))))
                · rw [if_pos rfl]; exact k163
                · rw [if_neg (by decide)]; exact (e262 400 3 (by first | decide | omega)).trans ((e255 400 3 (by first | decide | omega)).trans ((e252 400 3 (by first | decide | omega)).trans ((e101 400 3 (by first | decide | omega)).trans (hF 3 (by first | decide | omega)))))
            · refine gx_1f (c := .eq) rfl (by first | decide | omega) hc154 rfl ?_
              refine ex_go (S := (56, [(0, gx_r 383), (1, .inl 2), (2, .inl b)], [.inl 0, .inl 0, gx_r 383], t252, n, 0)) rfl (fun _ => rfl) rfl ?_
              refine ex_go (S := (65, [(0, gx_r 383), (1, .inl 2), (2, .inl b)], [.inl 0, .inl 0, gx_r 383], t252, n, 0)) rfl (fun _ => rfl) rfl ?_
              refine ex_go (S := (67, [(0, gx_r 383), (1, .inl 2), (2, .inl b)], [.inl 45, .inl 0, .inl 0, gx_r 383], t252, n, 0)) rfl (fun _ => rfl) rfl ?_
              omega
          · refine gx_1f (c := .eq) rfl (by first | decide | omega) hc153 rfl ?_
            refine ex_go (S := (43, [(0, gx_r 383), (1, .inl 2), (2, .inl b)], [.inl 45, gx_r 383], t252, n, 0)) rfl (fun _ => rfl) rfl ?_
            refine ex_go (S := (44, [(0, gx_r 383), (1, .inl 2), (2, .inl b)], [.inl 1, .inl 45, gx_r 383], t252, n, 0)) rfl (fun _ => rfl) rfl ?_
            refine ex_go (S := (45, [(0, gx_r 383), (1, .inl 2), (2, .inl b)], [.inl 2, .inl 1, .inl 45, gx_r 383], t252, n, 0)) rfl (fun _ => rfl) rfl ?_
            refine ex_go (S := (46, [(0, gx_r 383), (1, .inl 2), (2, .inl b)], [.inl 3, .inl 45, gx_r 383], t252, n, 0)) rfl (fun _ => rfl) rfl ?_
            refine ex_go (S := (47, [(0, gx_r 383), (1, .inl 2), (2, .inl b)], [.inl 135, gx_r 383], t252, n, 0)) rfl (fun _ => rfl) rfl ?_
            refine ex_go (S := (51, [(0, gx_r 383), (1, .inl 2), (2, .inl b)], [.inl 135, gx_r 383], t252, n, 0)) rfl (fun _ => rfl) rfl ?_
            refine ex_go (S := (52, [(0, gx_r 383), (1, .inl 2), (2, .inl b)], [.inl b, .inl 135, gx_r 383], t252, n, 0)) rfl (fun _ => rfl) rfl ?_
            by_cases hc165 : b = 0
            · refine gx_1t (c := .eq) rfl (by first | decide | omega) hc165 rfl ?_
              refine ex_go (S := (61, [(0, gx_r 383), (1, .inl 2), (2, .inl b)], [.inl 45, .inl 135, gx_r 383], t252, n, 0)) rfl (fun _ => rfl) rfl ?_
              refine ex_go (S := (62, [(0, gx_r 383), (1, .inl 2), (2, .inl b)], [.inl 1, .inl 45, .inl 135, gx_r 383], t252, n, 0)) rfl (fun _ => rfl) rfl ?_
              refine ex_go (S := (63, [(0, gx_r 383), (1, .inl 2), (2, .inl b)], [.inl 2, .inl 1, .inl 45, .inl 135, gx_r 383], t252, n, 0)) rfl (fun _ => rfl) rfl ?_
              refine ex_go (S := (64, [(0, gx_r 383), (1, .inl 2), (2, .inl b)], [.inl 3, .inl 45, .inl 135, gx_r 383], t252, n, 0)) rfl (fun _ => rfl) rfl ?_
              refine ex_go (S := (65, [(0, gx_r 383), (1, .inl 2), (2, .inl b)], [.inl 135, .inl 135, gx_r 383], t252, n, 0)) rfl (fun _ => rfl) rfl ?_
              refine ex_go (S := (67, [(0, gx_r 383), (1, .inl 2), (2, .inl b)], [.inl 45, .inl 135, .inl 135, gx_r 383], t252, n, 0)) rfl (fun _ => rfl) rfl ?_
              omega
            · refine gx_1f (c := .eq) rfl (by first | decide | omega) hc165 rfl ?_
              refine ex_go (S := (56, [(0, gx_r 383), (1, .inl 2), (2, .inl b)], [.inl 0, .inl 135, gx_r 383], t252, n, 0)) rfl (fun _ => rfl) rfl ?_
              refine ex_go (S := (65, [(0, gx_r 383), (1, .inl 2), (2, .inl b)], [.inl 0, .inl 135, gx_r 383], t252, n, 0)) rfl (fun _ => rfl) rfl ?_
              refine ex_go (S := (67, [(0, gx_r 383), (1, .inl 2), (2, .inl b)], [.inl 45, .inl 0, .inl 135, gx_r 383], t252, n, 0)) rfl (fun _ => rfl) rfl ?_
              obtain ⟨_, r267, t267, rfl, g267, e267, -⟩ := pe_copies d n (f := 135) (t := 0) (m := 45) g252 (by decide +kernel) (by decide) (by decide) (by decide) (by decide)
              refine gx_call0 rfl rfl g252 rfl rfl r267 rfl ?_
              have k168 : ai_hv t267 400 2 = some (.inl 1) := (e267 400 2 (by first | decide | omega)).trans k252
              show en_ex _ _ _ _ (70, [(0, gx_r 383), (1, .inl 2), (2, .inl b)], [], t267, n, 0) _
              refine ex_go (S := (71, [(0, gx_r 383), (1, .inl 2), (2, .inl b)], [gx_r 383], t267, n, 0)) rfl (fun _ => rfl) rfl ?_
              refine ex_go (S := (72, [(0, gx_r 383), (1, .inl 2), (2, .inl b)], [.inl b, gx_r 383], t267, n, 0)) rfl (fun _ => rfl) rfl ?_
              by_cases hc169 : b = 0
              · refine gx_1t (c := .eq) rfl (by first | decide | omega) hc169 rfl ?_
                refine ex_go (S := (80, [(0, gx_r 383), (1, .inl 2), (2, .inl b)], [gx_r 383, gx_r 383], t267, n, 0)) rfl (fun _ => rfl) rfl ?_
                obtain ⟨m170, k171, m170l, m170h⟩ := gx_in (c := 383) (i := 26) (lo := 0) (hi := 16) g267 rfl rfl rfl rfl
                refine gx_get rfl g267 rfl k171 rfl ?_
                refine gx_put rfl g267 rfl rfl (ai_in_h (by first | decide | omega) (by first | decide | omega) (by first | decide | omega)) rfl (fun t272 g272 k272 e272 => ?_)
                have k173 : ai_hv t272 400 2 = some (.inl 1) := (e272 400 2 (by first | decide | omega)).trans k168
                refine ex_go (S := (87, [(0, gx_r 383), (1, .inl 2), (2, .inl b)], [.inl 1], t272, n, 0)) rfl (fun _ => rfl) rfl ?_
                refine ex_ret (r := (some (.inl 1), t272, n, 0)) rfl (fun _ => rfl) ?_
                refine ⟨_, rfl, 1, t272, rfl, fun _ => ⟨rfl, fun i hi => ?_⟩, fun h => absurd h (by first | decide | omega)⟩
                rcases (show i = 0 ∨ i = 1 ∨ i = 2 ∨ i = 3 by omega) with rfl | rfl | rfl | rfl
                · rw [if_neg (by decide)]; exact (e272 400 0 (by first | decide | omega)).trans ((e267 400 0 (by first | decide | omega)).trans ((e252 400 0 (by first | decide | omega)).trans ((e101 400 0 (by first | decide | omega)).trans (hF 0 (by first | decide | omega)))))
                · rw [if_neg (by decide)]; exact (e272 400 1 (by first | decide | omega)).trans ((e267 400 1 (by first | decide | omega)).trans ((e252 400 1 (by first | decide | omega)).trans ((e101 400 1 (by first | decide | omega)).trans (hF 1 (by first | decide | omega)))))
                · rw [if_pos rfl]; exact k173
                · rw [if_neg (by decide)]; exact (e272 400 3 (by first | decide | omega)).trans ((e267 400 3 (by first | decide | omega)).trans ((e252 400 3 (by first | decide | omega)).trans ((e101 400 3 (by first | decide | omega)).trans (hF 3 (by first | decide | omega)))))
              · refine gx_1f (c := .eq) rfl (by first | decide | omega) hc169 rfl ?_
                refine ex_go (S := (76, [(0, gx_r 383), (1, .inl 2), (2, .inl b)], [.inl 0, gx_r 383], t267, n, 0)) rfl (fun _ => rfl) rfl ?_
                refine ex_go (S := (83, [(0, gx_r 383), (1, .inl 2), (2, .inl b)], [.inl 0, gx_r 383], t267, n, 0)) rfl (fun _ => rfl) rfl ?_
                refine gx_put rfl g267 rfl rfl (ai_in_h (by first | decide | omega) (by first | decide | omega) (by first | decide | omega)) rfl (fun t274 g274 k274 e274 => ?_)
                have k175 : ai_hv t274 400 2 = some (.inl 1) := (e274 400 2 (by first | decide | omega)).trans k168
                refine ex_go (S := (87, [(0, gx_r 383), (1, .inl 2), (2, .inl b)], [.inl 1], t274, n, 0)) rfl (fun _ => rfl) rfl ?_
                refine ex_ret (r := (some (.inl 1), t274, n, 0)) rfl (fun _ => rfl) ?_
                refine ⟨_, rfl, 1, t274, rfl, fun _ => ⟨rfl, fun i hi => ?_⟩, fun h => absurd h (by first | decide | omega)⟩
                rcases (show i = 0 ∨ i = 1 ∨ i = 2 ∨ i = 3 by omega) with rfl | rfl | rfl | rfl
                · rw [if_neg (by decide)]; exact (e274 400 0 (by first | decide | omega)).trans ((e267 400 0 (by first | decide | omega)).trans ((e252 400 0 (by first | decide | omega)).trans ((e101 400 0 (by first | decide | omega)).trans (hF 0 (by first | decide | omega)))))
                · rw [if_neg (by decide)]; exact (e274 400 1 (by first | decide | omega)).trans ((e267 400 1 (by first | decide | omega)).trans ((e252 400 1 (by first | decide | omega)).trans ((e101 400 1 (by first | decide | omega)).trans (hF 1 (by first | decide | omega)))))
                · rw [if_pos rfl]; exact k175
                · rw [if_neg (by decide)]; exact (e274 400 3 (by first | decide | omega)).trans ((e267 400 3 (by first | decide | omega)).trans ((e252 400 3 (by first | decide | omega)).trans ((e101 400 3 (by first | decide | omega)).trans (hF 3 (by first | decide | omega)))))
        · refine ex_go (S := (30, [(0, gx_r 383), (1, .inl 3), (2, .inl b)], [gx_r 383], t101, n, 0)) rfl (fun _ => rfl) rfl ?_
          refine gx_ref (c := 400) rfl g101 rfl rfl rfl rfl ?_
          refine ex_go (S := (34, [(0, gx_r 383), (1, .inl 3), (2, .inl b)], [.inl 3, gx_r 400], t101, n, 0)) rfl (fun _ => rfl) rfl ?_
          refine ex_go (S := (35, [(0, gx_r 383), (1, .inl 3), (2, .inl b)], [.inl 1, .inl 3, gx_r 400], t101, n, 0)) rfl (fun _ => rfl) rfl ?_
          refine gx_apv (d := 2) rfl (fun _ => rfl) g101 rfl rfl rfl (show 3 < 4 from by omega) rfl (ai_in_h (by first | decide | omega) (by first | decide | omega) (by first | decide | omega)) rfl (fun t276 g276 k276 e276 => ?_)
          refine ex_go (S := (37, [(0, gx_r 383), (1, .inl 3), (2, .inl b)], [gx_r 383], t276, n, 0)) rfl (fun _ => rfl) rfl ?_
          refine ex_go (S := (38, [(0, gx_r 383), (1, .inl 3), (2, .inl b)], [.inl b, gx_r 383], t276, n, 0)) rfl (fun _ => rfl) rfl ?_
          by_cases hc177 : b = 0
          · refine gx_1t (c := .eq) rfl (by first | decide | omega) hc177 rfl ?_
            refine ex_go (S := (51, [(0, gx_r 383), (1, .inl 3), (2, .inl b)], [.inl 0, gx_r 383], t276, n, 0)) rfl (fun _ => rfl) rfl ?_
            refine ex_go (S := (52, [(0, gx_r 383), (1, .inl 3), (2, .inl b)], [.inl b, .inl 0, gx_r 383], t276, n, 0)) rfl (fun _ => rfl) rfl ?_
            by_cases hc178 : b = 0
            · refine gx_1t (c := .eq) rfl (by first | decide | omega) hc178 rfl ?_
              refine ex_go (S := (61, [(0, gx_r 383), (1, .inl 3), (2, .inl b)], [.inl 45, .inl 0, gx_r 383], t276, n, 0)) rfl (fun _ => rfl) rfl ?_
              refine ex_go (S := (62, [(0, gx_r 383), (1, .inl 3), (2, .inl b)], [.inl 1, .inl 45, .inl 0, gx_r 383], t276, n, 0)) rfl (fun _ => rfl) rfl ?_
              refine ex_go (S := (63, [(0, gx_r 383), (1, .inl 3), (2, .inl b)], [.inl 3, .inl 1, .inl 45, .inl 0, gx_r 383], t276, n, 0)) rfl (fun _ => rfl) rfl ?_
              refine ex_go (S := (64, [(0, gx_r 383), (1, .inl 3), (2, .inl b)], [.inl 4, .inl 45, .inl 0, gx_r 383], t276, n, 0)) rfl (fun _ => rfl) rfl ?_
              refine ex_go (S := (65, [(0, gx_r 383), (1, .inl 3), (2, .inl b)], [.inl 180, .inl 0, gx_r 383], t276, n, 0)) rfl (fun _ => rfl) rfl ?_
              refine ex_go (S := (67, [(0, gx_r 383), (1, .inl 3), (2, .inl b)], [.inl 45, .inl 180, .inl 0, gx_r 383], t276, n, 0)) rfl (fun _ => rfl) rfl ?_
              obtain ⟨_, r279, t279, rfl, g279, e279, -⟩ := pe_copies d n (f := 0) (t := 180) (m := 45) g276 (by decide +kernel) (by decide) (by decide) (by decide) (by decide)
              refine gx_call0 rfl rfl g276 rfl rfl r279 rfl ?_
              have k180 : ai_hv t279 400 3 = some (.inl 1) := (e279 400 3 (by first | decide | omega)).trans k276
              show en_ex _ _ _ _ (70, [(0, gx_r 383), (1, .inl 3), (2, .inl b)], [], t279, n, 0) _
              refine ex_go (S := (71, [(0, gx_r 383), (1, .inl 3), (2, .inl b)], [gx_r 383], t279, n, 0)) rfl (fun _ => rfl) rfl ?_
              refine ex_go (S := (72, [(0, gx_r 383), (1, .inl 3), (2, .inl b)], [.inl b, gx_r 383], t279, n, 0)) rfl (fun _ => rfl) rfl ?_
              by_cases hc181 : b = 0
              · refine gx_1t (c := .eq) rfl (by first | decide | omega) hc181 rfl ?_
                refine ex_go (S := (80, [(0, gx_r 383), (1, .inl 3), (2, .inl b)], [gx_r 383, gx_r 383], t279, n, 0)) rfl (fun _ => rfl) rfl ?_
                obtain ⟨m182, k183, m182l, m182h⟩ := gx_in (c := 383) (i := 26) (lo := 0) (hi := 16) g279 rfl rfl rfl rfl
                refine gx_get rfl g279 rfl k183 rfl ?_
                refine gx_put rfl g279 rfl rfl (ai_in_h (by first | decide | omega) (by first | decide | omega) (by first | decide | omega)) rfl (fun t284 g284 k284 e284 => ?_)
                have k185 : ai_hv t284 400 3 = some (.inl 1) := (e284 400 3 (by first | decide | omega)).trans k180
                refine ex_go (S := (87, [(0, gx_r 383), (1, .inl 3), (2, .inl b)], [.inl 1], t284, n, 0)) rfl (fun _ => rfl) rfl ?_
                refine ex_ret (r := (some (.inl 1), t284, n, 0)) rfl (fun _ => rfl) ?_
                refine ⟨_, rfl, 1, t284, rfl, fun _ => ⟨rfl, fun i hi => ?_⟩, fun h => absurd h (by first | decide | omega)⟩
                rcases (show i = 0 ∨ i = 1 ∨ i = 2 ∨ i = 3 by omega) with rfl | rfl | rfl | rfl
                · rw [if_neg (by decide)]; exact (e284 400 0 (by first | decide | omega)).trans ((e279 400 0 (by first | decide | omega)).trans ((e276 400 0 (by first | decide | omega)).trans ((e101 400 0 (by first | decide | omega)).trans (hF 0 (by first | decide | omega)))))
                · rw [if_neg (by decide)]; exact (e284 400 1 (by first | decide | omega)).trans ((e279 400 1 (by first | decide | omega)).trans ((e276 400 1 (by first | decide | omega)).trans ((e101 400 1 (by first | decide | omega)).trans (hF 1 (by first | decide | omega)))))
                · rw [if_neg (by decide)]; exact (e284 400 2 (by first | decide | omega)).trans ((e279 400 2 (by first | decide | omega)).trans ((e276 400 2 (by first | decide | omega)).trans ((e101 400 2 (by first | decide | omega)).trans (hF 2 (by first | decide | omega)))))
                · rw [if_pos rfl]; exact k185
              · refine gx_1f (c := .eq) rfl (by first | decide | omega) hc181 rfl ?_
                refine ex_go (S := (76, [(0, gx_r 383), (1, .inl 3), (2, .inl b)], [.inl 0, gx_r 383], t279, n, 0)) rfl (fun _ => rfl) rfl ?_
                refine ex_go (S := (83, [(0, gx_r 383), (1, .inl 3), (2, .inl b)], [.inl 0, gx_r 383], t279, n, 0)) rfl (fun _ => rfl) rfl ?_
                refine gx_put rfl g279 rfl rfl (ai_in_h (by first | decide | omega) (by first | decide | omega) (by first | decide | omega)) rfl (fun t286 g286 k286 e286 => ?_)
                have k187 : ai_hv t286 400 3 = some (.inl 1) := (e286 400 3 (by first | decide | omega)).trans k180
                refine ex_go (S := (87, [(0, gx_r 383), (1, .inl 3), (2, .inl b)], [.inl 1], t286, n, 0)) rfl (fun _ => rfl) rfl ?_
                refine ex_ret (r := (some (.inl 1), t286, n, 0)) rfl (fun _ => rfl) ?_
                refine ⟨_, rfl, 1, t286, rfl, fun _ => ⟨rfl, fun i hi => ?_⟩, fun h => absurd h (by first | decide | omega)⟩
                rcases (show i = 0 ∨ i = 1 ∨ i = 2 ∨ i = 3 by omega) with rfl | rfl | rfl | rfl
                · rw [if_neg (by decide)]; exact (e286 400 0 (by first | decide | omega)).trans ((e279 400 0 (by first | decide | omega)).trans ((e276 400 0 (by first | decide | omega)).trans ((e101 400 0 (by first | decide | omega)).trans (hF 0 (by first | decide | omega)))))
                · rw [if_neg (by decide)]; exact (e286 400 1 (by first | decide | omega)).trans ((e279 400 1 (by first | decide | omega)).trans ((e276 400 1 (by first | decide | omega)).trans ((e101 400 1 (by first | decide | omega)).trans (hF 1 (by first | decide | omega)))))
                · rw [if_neg (by decide)]; exact (e286 400 2 (by first | decide | omega)).trans ((e279 400 2 (by first | decide | omega)).trans ((e276 400 2 (by first | decide | omega)).trans ((e101 400 2 (by first | decide | omega)).trans (hF 2 (by first | decide | omega)))))
                · rw [if_pos rfl]; exact k187
            · refine gx_1f (c := .eq) rfl (by first | decide | omega) hc178 rfl ?_
              refine ex_go (S := (56, [(0, gx_r 383), (1, .inl 3), (2, .inl b)], [.inl 0, .inl 0, gx_r 383], t276, n, 0)) rfl (fun _ => rfl) rfl ?_
              refine ex_go (S := (65, [(0, gx_r 383), (1, .inl 3), (2, .inl b)], [.inl 0, .inl 0, gx_r 383], t276, n, 0)) rfl (fun _ => rfl) rfl ?_
              refine ex_go (S := (67, [(0, gx_r 383), (1, .inl 3), (2, .inl b)], [.inl 45, .inl 0, .inl 0, gx_r 383], t276, n, 0)) rfl (fun _ => rfl) rfl ?_
              omega
          · refine gx_1f (c := .eq) rfl (by first | decide | omega) hc177 rfl ?_
            refine ex_go (S := (43, [(0, gx_r 383), (1, .inl 3), (2, .inl b)], [.inl 45, gx_r 383], t276, n, 0)) rfl (fun _ => rfl) rfl ?_
            refine ex_go (S := (44, [(0, gx_r 383), (1, .inl 3), (2, .inl b)], [.inl 1, .inl 45, gx_r 383], t276, n, 0)) rfl (fun _ => rfl) rfl ?_
            refine ex_go (S := (45, [(0, gx_r 383), (1, .inl 3), (2, .inl b)], [.inl 3, .inl 1, .inl 45, gx_r 383], t276, n, 0)) rfl (fun _ => rfl) rfl ?_
            refine ex_go (S := (46, [(0, gx_r 383), (1, .inl 3), (2, .inl b)], [.inl 4, .inl 45, gx_r 383], t276, n, 0)) rfl (fun _ => rfl) rfl ?_
            refine ex_go (S := (47, [(0, gx_r 383), (1, .inl 3), (2, .inl b)], [.inl 180, gx_r 383], t276, n, 0)) rfl (fun _ => rfl) rfl ?_
            refine ex_go (S := (51, [(0, gx_r 383), (1, .inl 3), (2, .inl b)], [.inl 180, gx_r 383], t276, n, 0)) rfl (fun _ => rfl) rfl ?_
            refine ex_go (S := (52, [(0, gx_r 383), (1, .inl 3), (2, .inl b)], [.inl b, .inl 180, gx_r 383], t276, n, 0)) rfl (fun _ => rfl) rfl ?_
            by_cases hc189 : b = 0
            · refine gx_1t (c := .eq) rfl (by first | decide | omega) hc189 rfl ?_
              refine ex_go (S := (61, [(0, gx_r 383), (1, .inl 3), (2, .inl b)], [.inl 45, .inl 180, gx_r 383], t276, n, 0)) rfl (fun _ => rfl) rfl ?_
              refine ex_go (S := (62, [(0, gx_r 383), (1, .inl 3), (2, .inl b)], [.inl 1, .inl 45, .inl 180, gx_r 383], t276, n, 0)) rfl (fun _ => rfl) rfl ?_
              refine ex_go (S := (63, [(0, gx_r 383), (1, .inl 3), (2, .inl b)], [.inl 3, .inl 1, .inl 45, .inl 180, gx_r 383], t276, n, 0)) rfl (fun _ => rfl) rfl ?_
              refine ex_go (S := (64, [(0, gx_r 383), (1, .inl 3), (2, .inl b)], [.inl 4, .inl 45, .inl 180, gx_r 383], t276, n, 0)) rfl (fun _ => rfl) rfl ?_
              refine ex_go (S := (65, [(0, gx_r 383), (1, .inl 3), (2, .inl b)], [.inl 180, .inl 180, gx_r 383], t276, n, 0)) rfl (fun _ => rfl) rfl ?_
              refine ex_go (S := (67, [(0, gx_r 383), (1, .inl 3), (2, .inl b)], [.inl 45, .inl 180, .inl 180, gx_r 383], t276, n, 0)) rfl (fun _ => rfl) rfl ?_
              omega
            · refine gx_1f (c := .eq) rfl (by first | decide | omega) hc189 rfl ?_
              refine ex_go (S := (56, [(0, gx_r 383), (1, .inl 3), (2, .inl b)], [.inl 0, .inl 180, gx_r 383], t276, n, 0)) rfl (fun _ => rfl) rfl ?_
              refine ex_go (S := (65, [(0, gx_r 383), (1, .inl 3), (2, .inl b)], [.inl 0, .inl 180, gx_r 383], t276, n, 0)) rfl (fun _ => rfl) rfl ?_
              refine ex_go (S := (67, [(0, gx_r 383), (1, .inl 3), (2, .inl b)], [.inl 45, .inl 0, .inl 180, gx_r 383], t276, n, 0)) rfl (fun _ => rfl) rfl ?_
              obtain ⟨_, r291, t291, rfl, g291, e291, -⟩ := pe_copies d n (f := 180) (t := 0) (m := 45) g276 (by decide +kernel) (by decide) (by decide) (by decide) (by decide)
              refine gx_call0 rfl rfl g276 rfl rfl r291 rfl ?_
              have k192 : ai_hv t291 400 3 = some (.inl 1) := (e291 400 3 (by first | decide | omega)).trans k276
              show en_ex _ _ _ _ (70, [(0, gx_r 383), (1, .inl 3), (2, .inl b)], [], t291, n, 0) _
              refine ex_go (S := (71, [(0, gx_r 383), (1, .inl 3), (2, .inl b)], [gx_r 383], t291, n, 0)) rfl (fun _ => rfl) rfl ?_
              refine ex_go (S := (72, [(0, gx_r 383), (1, .inl 3), (2, .inl b)], [.inl b, gx_r 383], t291, n, 0)) rfl (fun _ => rfl) rfl ?_
              by_cases hc193 : b = 0
              · refine gx_1t (c := .eq) rfl (by first | decide | omega) hc193 rfl ?_
                refine ex_go (S := (80, [(0, gx_r 383), (1, .inl 3), (2, .inl b)], [gx_r 383, gx_r 383], t291, n, 0)) rfl (fun _ => rfl) rfl ?_
                obtain ⟨m194, k195, m194l, m194h⟩ := gx_in (c := 383) (i := 26) (lo := 0) (hi := 16) g291 rfl rfl rfl rfl
                refine gx_get rfl g291 rfl k195 rfl ?_
                refine gx_put rfl g291 rfl rfl (ai_in_h (by first | decide | omega) (by first | decide | omega) (by first | decide | omega)) rfl (fun t296 g296 k296 e296 => ?_)
                have k197 : ai_hv t296 400 3 = some (.inl 1) := (e296 400 3 (by first | decide | omega)).trans k192
                refine ex_go (S := (87, [(0, gx_r 383), (1, .inl 3), (2, .inl b)], [.inl 1], t296, n, 0)) rfl (fun _ => rfl) rfl ?_
                refine ex_ret (r := (some (.inl 1), t296, n, 0)) rfl (fun _ => rfl) ?_
                refine ⟨_, rfl, 1, t296, rfl, fun _ => ⟨rfl, fun i hi => ?_⟩, fun h => absurd h (by first | decide | omega)⟩
                rcases (show i = 0 ∨ i = 1 ∨ i = 2 ∨ i = 3 by omega) with rfl | rfl | rfl | rfl
                · rw [if_neg (by decide)]; exact (e296 400 0 (by first | decide | omega)).trans ((e291 400 0 (by first | decide | omega)).trans ((e276 400 0 (by first | decide | omega)).trans ((e101 400 0 (by first | decide | omega)).trans (hF 0 (by first | decide | omega)))))
                · rw [if_neg (by decide)]; exact (e296 400 1 (by first | decide | omega)).trans ((e291 400 1 (by first | decide | omega)).trans ((e276 400 1 (by first | decide | omega)).trans ((e101 400 1 (by first | decide | omega)).trans (hF 1 (by first | decide | omega)))))
                · rw [if_neg (by decide)]; exact (e296 400 2 (by first | decide | omega)).trans ((e291 400 2 (by first | decide | omega)).trans ((e276 400 2 (by first | decide | omega)).trans ((e101 400 2 (by first | decide | omega)).trans (hF 2 (by first | decide | omega)))))
                · rw [if_pos rfl]; exact k197
              · refine gx_1f (c := .eq) rfl (by first | decide | omega) hc193 rfl ?_
                refine ex_go (S := (76, [(0, gx_r 383), (1, .inl 3), (2, .inl b)], [.inl 0, gx_r 383], t291, n, 0)) rfl (fun _ => rfl) rfl ?_
                refine ex_go (S := (83, [(0, gx_r 383), (1, .inl 3), (2, .inl b)], [.inl 0, gx_r 383], t291, n, 0)) rfl (fun _ => rfl) rfl ?_
                refine gx_put rfl g291 rfl rfl (ai_in_h (by first | decide | omega) (by first | decide | omega) (by first | decide | omega)) rfl (fun t298 g298 k298 e298 => ?_)
                have k199 : ai_hv t298 400 3 = some (.inl 1) := (e298 400 3 (by first | decide | omega)).trans k192
                refine ex_go (S := (87, [(0, gx_r 383), (1, .inl 3), (2, .inl b)], [.inl 1], t298, n, 0)) rfl (fun _ => rfl) rfl ?_
                refine ex_ret (r := (some (.inl 1), t298, n, 0)) rfl (fun _ => rfl) ?_
                refine ⟨_, rfl, 1, t298, rfl, fun _ => ⟨rfl, fun i hi => ?_⟩, fun h => absurd h (by first | decide | omega)⟩
                rcases (show i = 0 ∨ i = 1 ∨ i = 2 ∨ i = 3 by omega) with rfl | rfl | rfl | rfl
                · rw [if_neg (by decide)]; exact (e298 400 0 (by first | decide | omega)).trans ((e291 400 0 (by first | decide | omega)).trans ((e276 400 0 (by first | decide | omega)).trans ((e101 400 0 (by first | decide | omega)).trans (hF 0 (by first | decide | omega)))))
                · rw [if_neg (by decide)]; exact (e298 400 1 (by first | decide | omega)).trans ((e291 400 1 (by first | decide | omega)).trans ((e276 400 1 (by first | decide | omega)).trans ((e101 400 1 (by first | decide | omega)).trans (hF 1 (by first | decide | omega)))))
                · rw [if_neg (by decide)]; exact (e298 400 2 (by first | decide | omega)).trans ((e291 400 2 (by first | decide | omega)).trans ((e276 400 2 (by first | decide | omega)).trans ((e101 400 2 (by first | decide | omega)).trans (hF 2 (by first | decide | omega)))))
                · rw [if_pos rfl]; exact k199
      · refine gx_1f (c := .ne) rfl (by first | decide | omega) hc103 rfl ?_
        refine ex_go (S := (28, [(0, gx_r 383), (1, .inl m), (2, .inl b)], [.inl 0], t101, n, 0)) rfl (fun _ => rfl) rfl ?_
        refine ex_ret (r := (some (.inl 0), t101, n, 0)) rfl (fun _ => rfl) ?_
        exact ⟨_, rfl, 0, t101, rfl, fun h => absurd h (by first | decide | omega), fun _ => ⟨rfl, fun i hi => (e101 400 i (by first | decide | omega)).trans (hF i hi)⟩⟩
theorem pc_mark (d n : Nat) {t0 : en_H} (g0 : ai_HG ah_G t0) (hE : ai_E t0) {m b : Nat} {F : Nat → Nat} (hm : m < 4294967296) (hb : b ≤ 1) (hF : ∀ i, i < 4 → ai_hv t0 138 i = some (.inl (F i))) (hF1 : ∀ i, i < 4 → F i ≤ 1) : ∃ r, en_u (d + 2) 83 [gx_r 0, .inl m, .inl b] t0 n = some r ∧ ∃ v t', r = (some (.inl v), t', n, 0) ∧ ((m ≤ 3 ∧ (b = 0 ∨ F m = 1)) → v = 1 ∧ ∀ i, i < 4 → ai_hv t' 138 i = some (.inl (if i = m then 1 else F i))) ∧ (¬ (m ≤ 3 ∧ (b = 0 ∨ F m = 1)) → v = 0 ∧ ∀ i, i < 4 → ai_hv t' 138 i = some (.inl (F i))) := by
  refine en_u_ex (d := d + 1) rfl ?_
  show en_ex _ _ _ _ (0, [(0, gx_r 0), (1, .inl m), (2, .inl b)], [], t0, n, 0) _
  refine ex_go (S := (1, [(0, gx_r 0), (1, .inl m), (2, .inl b)], [.inl m], t0, n, 0)) rfl (fun _ => rfl) rfl ?_
  refine ex_go (S := (2, [(0, gx_r 0), (1, .inl m), (2, .inl b)], [.inl 0, .inl m], t0, n, 0)) rfl (fun _ => rfl) rfl ?_
  refine ex_go (S := (3, [(0, gx_r 0), (1, .inl m), (2, .inl b)], [.inl 3, .inl 0, .inl m], t0, n, 0)) rfl (fun _ => rfl) rfl ?_
  obtain ⟨_, r1, b2, rfl, b2b, q3⟩ := pz_isWithin (d) n (t0 := t0) (x := m) (lo := 0) (hi := 3) (by first | decide | omega) (by first | decide | omega) (by first | decide | omega)
  refine ex_stat rfl rfl rfl rfl rfl r1 (Nat.le_refl _) rfl ?_
  show en_ex _ _ _ _ (6, [(0, gx_r 0), (1, .inl m), (2, .inl b)], [.inl b2], t0, n, 0) _
  by_cases hc4 : b2 = 0
  · refine gx_1t (c := .eq) rfl (by first | decide | omega) hc4 rfl ?_
    refine ex_go (S := (23, [(0, gx_r 0), (1, .inl m), (2, .inl b)], [.inl 0], t0, n, 0)) rfl (fun _ => rfl) rfl ?_
    refine ex_ret (r := (some (.inl 0), t0, n, 0)) rfl (fun _ => rfl) ?_
    exact ⟨_, rfl, 0, t0, rfl, fun h => absurd h (by first | decide | omega), fun _ => ⟨rfl, fun i hi => hF i hi⟩⟩
  · refine gx_1f (c := .eq) rfl (by first | decide | omega) hc4 rfl ?_
    refine ex_go (S := (10, [(0, gx_r 0), (1, .inl m), (2, .inl b)], [.inl b], t0, n, 0)) rfl (fun _ => rfl) rfl ?_
    by_cases hc5 : b = 0
    · refine gx_1t (c := .eq) rfl (by first | decide | omega) hc5 rfl ?_
      rcases (show m = 0 ∨ m = 1 ∨ m = 2 ∨ m = 3 by omega) with rfl | rfl | rfl | rfl
      · refine ex_go (S := (25, [(0, gx_r 0), (1, .inl 0), (2, .inl b)], [.inl b], t0, n, 0)) rfl (fun _ => rfl) rfl ?_
        by_cases hc6 : b = 0
        · refine gx_1t (c := .eq) rfl (by first | decide | omega) hc6 rfl ?_
          refine ex_go (S := (65, [(0, gx_r 0), (1, .inl 0), (2, .inl b)], [gx_r 0], t0, n, 0)) rfl (fun _ => rfl) rfl ?_
          refine gxo_ref (a := 0) (c := 136) rfl g0 rfl rfl rfl rfl rfl ?_
          refine ex_go (S := (69, [(0, gx_r 0), (1, .inl 0), (2, .inl b)], [.inl 0, gx_r 136], t0, n, 0)) rfl (fun _ => rfl) rfl ?_
          refine gx_ag (v := gx_r 335) (cb := fun c => Nat.ble 4 c && Nat.ble c 7) rfl (fun _ => rfl) g0 rfl rfl (gx_slr g0 rfl (by decide) rfl) (by first | decide | omega) rfl ?_
          refine ex_go (S := (71, [(0, gx_r 0), (1, .inl 0), (2, .inl b)], [gx_r 0, gx_r 335], t0, n, 0)) rfl (fun _ => rfl) rfl ?_
          refine gxo_ref (a := 0) (c := 8) rfl g0 rfl rfl rfl rfl rfl ?_
          obtain ⟨⟨rv107, t107, rn107, rs107⟩, r107, hn107, hs107, g107, fr107, E107, o107, ho107, ro107, hh107⟩ := ac_all (d + 1) 162 ce_162_37 (show ce_162_37 ∈ cm_162 from (List.mem_cons_of_mem _ (List.mem_cons_of_mem _ (List.mem_cons_of_mem _ (List.mem_cons_of_mem _ (List.mem_cons_of_mem _ (List.mem_cons_of_mem _ (List.mem_cons_of_mem _ (List.mem_cons_of_mem _ (List.mem_cons_of_mem _ (List.mem_cons_of_mem _ (List.mem_cons_of_mem _ (List.mem_cons_of_mem _ (List.mem_cons_of_mem _ (List.mem_cons_of_mem _ (List.mem_cons_of_mem _ (List.mem_cons_of_mem _ (List.mem_cons_of_mem _ (List.mem_cons_of_mem _ (List.mem_cons_of_mem _ (List.mem_cons_of_mem _ (List.mem_cons_of_mem _ (List.mem_cons_of_mem _ (List.mem_cons_of_mem _ (List.mem_cons_of_mem _ (List.mem_cons_of_mem _ (List.mem_cons_of_mem _ (List.mem_cons_of_mem _ (List.mem_cons_of_mem _ (List.mem_cons_of_mem _ (List.mem_cons_of_mem _ (List.mem_cons_of_mem _ (List.mem_cons_of_mem _ (List.mem_cons_of_mem _ (List.mem_cons_of_mem _ (List.mem_cons_of_mem _ (List.mem_cons_of_mem _ (List.mem_cons_of_mem _ List.mem_cons_self)))))))))))))))))))))))))))))))))))))) (Nat.lt_of_lt_of_le (show ce_162_37.1 < 1 by decide) (by first | decide | omega)) (fun _ => 0) [gx_r 335, gx_r 8] t0 n ⟨gx_vref 335, gx_vref 8, trivial⟩ g0 (fun q hq => absurd hq List.not_mem_nil) hE
          have hn107 : n = rn107 := hn107.symm
          have hs107 : rs107 = 0 := hs107
          subst hn107 hs107
          have ho107 := List.mem_singleton.mp ho107
          subst ho107
          have hv107 : rv107 = none := by
            cases rv107 with
            | none => rfl
            | some w => exact ro107.elim
          subst hv107
          have e107 : ∀ c i, ¬ (335 ≤ c ∧ c ≤ 341) → ai_hv t107 c i = ai_hv t0 c i := fun c i h => fr107 c i (fun z => h (inw_rng (by decide) z))
          refine gx_callo (a := 335) rfl rfl g0 rfl rfl rfl r107 rfl ?_
          show en_ex _ _ _ _ (77, [(0, gx_r 0), (1, .inl 0), (2, .inl b)], [], t107, n, 0) _
          refine ex_go (S := (78, [(0, gx_r 0), (1, .inl 0), (2, .inl b)], [gx_r 0], t107, n, 0)) rfl (fun _ => rfl) rfl ?_
          refine gxo_ref (a := 0) (c := 137) rfl g107 rfl rfl rfl rfl rfl ?_
          refine ex_go (S := (82, [(0, gx_r 0), (1, .inl 0), (2, .inl b)], [.inl 0, gx_r 137], t107, n, 0)) rfl (fun _ => rfl) rfl ?_
          refine gx_ag (v := gx_r 342) (cb := fun c => Nat.ble 4 c && Nat.ble c 7) rfl (fun _ => rfl) g107 rfl rfl (gx_slr g107 rfl (by decide) rfl) (by first | decide | omega) rfl ?_
          refine ex_go (S := (84, [(0, gx_r 0), (1, .inl 0), (2, .inl b)], [gx_r 0, gx_r 342], t107, n, 0)) rfl (fun _ => rfl) rfl ?_
          refine gxo_ref (a := 0) (c := 139) rfl g107 rfl rfl rfl rfl rfl ?_
          obtain ⟨⟨rv108, t108, rn108, rs108⟩, r108, hn108, hs108, g108, fr108, E108, o108, ho108, ro108, hh108⟩ := ac_all (d + 1) 170 ce_170_2 (show ce_170_2 ∈ cm_170 from (List.mem_cons_of_mem _ (List.mem_cons_of_mem _ List.mem_cons_self))) (Nat.lt_of_lt_of_le (show ce_170_2.1 < 1 by decide) (by first | decide | omega)) (fun _ => 0) [gx_r 342, gx_r 139] t107 n ⟨gx_vref 342, gx_vref 139, trivial⟩ g107 (fun q hq => absurd hq List.not_mem_nil) E107
          have hn108 : n = rn108 := hn108.symm
          have hs108 : rs108 = 0 := hs108
          subst hn108 hs108
          have ho108 := List.mem_singleton.mp ho108
          subst ho108
          have hv108 : rv108 = none := by
            cases rv108 with
            | none => rfl
            | some w => exact ro108.elim
          subst hv108
          have e108 : ∀ c i, ¬ (342 ≤ c ∧ c ≤ 348) → ai_hv t108 c i = ai_hv t107 c i := fun c i h => fr108 c i (fun z => h (inw_rng (by decide) z))
          refine gx_callo (a := 342) rfl rfl g107 rfl rfl rfl r108 rfl ?_
          show en_ex _ _ _ _ (90, [(0, gx_r 0), (1, .inl 0), (2, .inl b)], [], t108, n, 0) _
          refine ex_go (S := (91, [(0, gx_r 0), (1, .inl 0), (2, .inl b)], [gx_r 0], t108, n, 0)) rfl (fun _ => rfl) rfl ?_
          refine gxo_ref (a := 0) (c := 138) rfl g108 rfl rfl rfl rfl rfl ?_
          refine ex_go (S := (95, [(0, gx_r 0), (1, .inl 0), (2, .inl b)], [.inl 0, gx_r 138], t108, n, 0)) rfl (fun _ => rfl) rfl ?_
          refine ex_go (S := (96, [(0, gx_r 0), (1, .inl 0), (2, .inl b)], [.inl 1, .inl 0, gx_r 138], t108, n, 0)) rfl (fun _ => rfl) rfl ?_
          refine gx_apv (d := 2) rfl (fun _ => rfl) g108 rfl rfl rfl (show 0 < 4 from by omega) rfl (ai_in_h (by first | decide | omega) (by first | decide | omega) (by first | decide | omega)) rfl (fun t109 g109 k109 e109 => ?_)
          refine ex_go (S := (98, [(0, gx_r 0), (1, .inl 0), (2, .inl b)], [.inl 1], t109, n, 0)) rfl (fun _ => rfl) rfl ?_
          refine ex_ret (r := (some (.inl 1), t109, n, 0)) rfl (fun _ => rfl) ?_
          refine ⟨_, rfl, 1, t109, rfl, fun _ => ⟨rfl, fun i hi => ?_⟩, fun h => absurd h (by first | decide | omega)⟩
          rcases (show i = 0 ∨ i = 1 ∨ i = 2 ∨ i = 3 by omega) with rfl | rfl | rfl | rfl
          · rw [if_pos rfl]; exact k109
          · rw [if_neg (by decide)]; exact (e109 138 1 (by first | decide | omega)).trans ((e108 138 1 (by first | decide | omega)).trans ((e107 138 1 (by first | decide | omega)).trans (hF 1 (by first | decide | omega))))
          · rw [if_neg (by decide)]; exact (e109 138 2 (by first | decide | omega)).trans ((e108 138 2 (by first | decide | omega)).trans ((e107 138 2 (by first | decide | omega)).trans (hF 2 (by first | decide | omega))))
          · rw [if_neg (by decide)]; exact (e109 138 3 (by first | decide | omega)).trans ((e108 138 3 (by first | decide | omega)).trans ((e107 138 3 (by first | decide | omega)).trans (hF 3 (by first | decide | omega))))
        · refine gx_1f (c := .eq) rfl (by first | decide | omega) hc6 rfl ?_
          refine ex_go (S := (29, [(0, gx_r 0), (1, .inl 0), (2, .inl b)], [gx_r 0], t0, n, 0)) rfl (fun _ => rfl) rfl ?_
          refine gxo_ref (a := 0) (c := 8) rfl g0 rfl rfl rfl rfl rfl ?_
          refine ex_go (S := (33, [(0, gx_r 0), (1, .inl 0), (2, .inl b)], [gx_r 0, gx_r 8], t0, n, 0)) rfl (fun _ => rfl) rfl ?_
          refine gxo_ref (a := 0) (c := 136) rfl g0 rfl rfl rfl rfl rfl ?_
          refine ex_go (S := (37, [(0, gx_r 0), (1, .inl 0), (2, .inl b)], [.inl 0, gx_r 136, gx_r 8], t0, n, 0)) rfl (fun _ => rfl) rfl ?_
          refine gx_ag (v := gx_r 335) (cb := fun c => Nat.ble 4 c && Nat.ble c 7) rfl (fun _ => rfl) g0 rfl rfl (gx_slr g0 rfl (by decide) rfl) (by first | decide | omega) rfl ?_
          obtain ⟨⟨rv110, t110, rn110, rs110⟩, r110, hn110, hs110, g110, fr110, E110, o110, ho110, ro110, hh110⟩ := ac_all (d + 1) 162 ce_162_33 (show ce_162_33 ∈ cm_162 from (List.mem_cons_of_mem _ (List.mem_cons_of_mem _ (List.mem_cons_of_mem _ (List.mem_cons_of_mem _ (List.mem_cons_of_mem _ (List.mem_cons_of_mem _ (List.mem_cons_of_mem _ (List.mem_cons_of_mem _ (List.mem_cons_of_mem _ (List.mem_cons_of_mem _ (List.mem_cons_of_mem _ (List.mem_cons_of_mem _ (List.mem_cons_of_mem _ (List.mem_cons_of_mem _ (List.mem_cons_of_mem _ (List.mem_cons_of_mem _ (List.mem_cons_of_mem _ (List.mem_cons_of_mem _ (List.mem_cons_of_mem _ (List.mem_cons_of_mem _ (List.mem_cons_of_mem _ (List.mem_cons_of_mem _ (List.mem_cons_of_mem _ (List.mem_cons_of_mem _ (List.mem_cons_of_mem _ (List.mem_cons_of_mem _ (List.mem_cons_of_mem _ (List.mem_cons_of_mem _ (List.mem_cons_of_mem _ (List.mem_cons_of_mem _ (List.mem_cons_of_mem _ (List.mem_cons_of_mem _ (List.mem_cons_of_mem _ List.mem_cons_self)))))))))))))))))))))))))))))))))) (Nat.lt_of_lt_of_le (show ce_162_33.1 < 1 by decide) (by first | decide | omega)) (fun _ => 0) [gx_r 8, gx_r 335] t0 n ⟨gx_vref 8, gx_vref 335, trivial⟩ g0 (fun q hq => absurd hq List.not_mem_nil) hE
          have hn110 : n = rn110 := hn110.symm
          have hs110 : rs110 = 0 := hs110
          subst hn110 hs110
          have ho110 := List.mem_singleton.mp ho110
          subst ho110
          have hv110 : rv110 = none := by
            cases rv110 with
            | none => rfl
            | some w => exact ro110.elim
          subst hv110
          have e110 : ∀ c i, ¬ (8 ≤ c ∧ c ≤ 14) → ai_hv t110 c i = ai_hv t0 c i := fun c i h => fr110 c i (fun z => h (inw_rng (by decide) z))
          refine gx_callo (a := 8) rfl rfl g0 rfl rfl rfl r110 rfl ?_
          show en_ex _ _ _ _ (41, [(0, gx_r 0), (1, .inl 0), (2, .inl b)], [], t110, n, 0) _
          refine ex_go (S := (42, [(0, gx_r 0), (1, .inl 0), (2, .inl b)], [gx_r 0], t110, n, 0)) rfl (fun _ => rfl) rfl ?_
          refine gxo_ref (a := 0) (c := 139) rfl g110 rfl rfl rfl rfl rfl ?_
          refine ex_go (S := (46, [(0, gx_r 0), (1, .inl 0), (2, .inl b)], [gx_r 0, gx_r 139], t110, n, 0)) rfl (fun _ => rfl) rfl ?_
          refine gxo_ref (a := 0) (c := 137) rfl g110 rfl rfl rfl rfl rfl ?_
          refine ex_go (S := (50, [(0, gx_r 0), (1, .inl 0), (2, .inl b)], [.inl 0, gx_r 137, gx_r 139], t110, n, 0)) rfl (fun _ => rfl) rfl ?_
          refine gx_ag (v := gx_r 342) (cb := fun c => Nat.ble 4 c && Nat.ble c 7) rfl (fun _ => rfl) g110 rfl rfl (gx_slr g110 rfl (by decide) rfl) (by first | decide | omega) rfl ?_
          obtain ⟨⟨rv111, t111, rn111, rs111⟩, r111, hn111, hs111, g111, fr111, E111, o111, ho111, ro111, hh111⟩ := ac_all (d + 1) 170 ce_170_1 (show ce_170_1 ∈ cm_170 from (List.mem_cons_of_mem _ List.mem_cons_self)) (Nat.lt_of_lt_of_le (show ce_170_1.1 < 1 by decide) (by first | decide | omega)) (fun _ => 0) [gx_r 139, gx_r 342] t110 n ⟨gx_vref 139, gx_vref 342, trivial⟩ g110 (fun q hq => absurd hq List.not_mem_nil) E110
          have hn111 : n = rn111 := hn111.symm
          have hs111 : rs111 = 0 := hs111
          subst hn111 hs111
          have ho111 := List.mem_singleton.mp ho111
          subst ho111
          have hv111 : rv111 = none := by
            cases rv111 with
            | none => rfl
            | some w => exact ro111.elim
          subst hv111
          have e111 : ∀ c i, ¬ (139 ≤ c ∧ c ≤ 145) → ai_hv t111 c i = ai_hv t110 c i := fun c i h => fr111 c i (fun z => h (inw_rng (by decide) z))
          refine gx_callo (a := 139) rfl rfl g110 rfl rfl rfl r111 rfl ?_
          show en_ex _ _ _ _ (54, [(0, gx_r 0), (1, .inl 0), (2, .inl b)], [], t111, n, 0) _
          refine ex_go (S := (55, [(0, gx_r 0), (1, .inl 0), (2, .inl b)], [gx_r 0], t111, n, 0)) rfl (fun _ => rfl) rfl ?_
          refine gxo_ref (a := 0) (c := 22) rfl g111 rfl rfl rfl rfl rfl ?_
          obtain ⟨_, r112, t112, rfl, g112, e112, -⟩ := pz_pclear d n g111
          refine gx_callo (a := 22) rfl rfl g111 rfl rfl rfl r112 rfl ?_
          show en_ex _ _ _ _ (61, [(0, gx_r 0), (1, .inl 0), (2, .inl b)], [], t112, n, 0) _
          refine ex_go (S := (97, [(0, gx_r 0), (1, .inl 0), (2, .inl b)], [], t112, n, 0)) rfl (fun _ => rfl) rfl ?_
          refine ex_go (S := (98, [(0, gx_r 0), (1, .inl 0), (2, .inl b)], [.inl 1], t112, n, 0)) rfl (fun _ => rfl) rfl ?_
          refine ex_ret (r := (some (.inl 1), t112, n, 0)) rfl (fun _ => rfl) ?_
          refine ⟨_, rfl, 1, t112, rfl, fun _ => ⟨rfl, fun i hi => ?_⟩, fun h => absurd h (by first | decide | omega)⟩
          rcases (show i = 0 ∨ i = 1 ∨ i = 2 ∨ i = 3 by omega) with rfl | rfl | rfl | rfl
          · have h9 : F 0 = 1 := by omega
            have h8 := (e112 138 0 (by first | decide | omega)).trans ((e111 138 0 (by first | decide | omega)).trans ((e110 138 0 (by first | decide | omega)).trans (hF 0 (by first | decide | omega))))
            rw [h9] at h8
            rw [if_pos rfl]
            exact h8
          · rw [if_neg (by decide)]; exact (e112 138 1 (by first | decide | omega)).trans ((e111 138 1 (by first | decide | omega)).trans ((e110 138 1 (by first | decide | omega)).trans (hF 1 (by first | decide | omega))))
          · rw [if_neg (by decide)]; exact (e112 138 2 (by first | decide | omega)).trans ((e111 138 2 (by first | decide | omega)).trans ((e110 138 2 (by first | decide | omega)).trans (hF 2 (by first | decide | omega))))
          · rw [if_neg (by decide)]; exact (e112 138 3 (by first | decide | omega)).trans ((e111 138 3 (by first | decide | omega)).trans ((e110 138 3 (by first | decide | omega)).trans (hF 3 (by first | decide | omega))))
      · refine ex_go (S := (25, [(0, gx_r 0), (1, .inl 1), (2, .inl b)], [.inl b], t0, n, 0)) rfl (fun _ => rfl) rfl ?_
        by_cases hc13 : b = 0
        · refine gx_1t (c := .eq) rfl (by first | decide | omega) hc13 rfl ?_
          refine ex_go (S := (65, [(0, gx_r 0), (1, .inl 1), (2, .inl b)], [gx_r 0], t0, n, 0)) rfl (fun _ => rfl) rfl ?_
          refine gxo_ref (a := 0) (c := 136) rfl g0 rfl rfl rfl rfl rfl ?_
          refine ex_go (S := (69, [(0, gx_r 0), (1, .inl 1), (2, .inl b)], [.inl 1, gx_r 136], t0, n, 0)) rfl (fun _ => rfl) rfl ?_
          refine gx_ag (v := gx_r 347) (cb := fun c => Nat.ble 4 c && Nat.ble c 7) rfl (fun _ => rfl) g0 rfl rfl (gx_slr g0 rfl (by decide) rfl) (by first | decide | omega) rfl ?_
          refine ex_go (S := (71, [(0, gx_r 0), (1, .inl 1), (2, .inl b)], [gx_r 0, gx_r 347], t0, n, 0)) rfl (fun _ => rfl) rfl ?_
          refine gxo_ref (a := 0) (c := 8) rfl g0 rfl rfl rfl rfl rfl ?_
          obtain ⟨⟨rv114, t114, rn114, rs114⟩, r114, hn114, hs114, g114, fr114, E114, o114, ho114, ro114, hh114⟩ := ac_all (d + 1) 162 ce_162_40 (show ce_162_40 ∈ cm_162 from (List.mem_cons_of_mem _ (List.mem_cons_of_mem _ (List.mem_cons_of_mem _ (List.mem_cons_of_mem _ (List.mem_cons_of_mem _ (List.mem_cons_of_mem _ (List.mem_cons_of_mem _ (List.mem_cons_of_mem _ (List.mem_cons_of_mem _ (List.mem_cons_of_mem _ (List.mem_cons_of_mem _ (List.mem_cons_of_mem _ (List.mem_cons_of_mem _ (List.mem_cons_of_mem _ (List.mem_cons_of_mem _ (List.mem_cons_of_mem _ (List.mem_cons_of_mem _ (List.mem_cons_of_mem _ (List.mem_cons_of_mem _ (List.mem_cons_of_mem _ (List.mem_cons_of_mem _ (List.mem_cons_of_mem _ (List.mem_cons_of_mem _ (List.mem_cons_of_mem _ (List.mem_cons_of_mem _ (List.mem_cons_of_mem _ (List.mem_cons_of_mem _ (List.mem_cons_of_mem _ (List.mem_cons_of_mem _ (List.mem_cons_of_mem _ (List.mem_cons_of_mem _ (List.mem_cons_of_mem _ (List.mem_cons_of_mem _ (List.mem_cons_of_mem _ (List.mem_cons_of_mem _ (List.mem_cons_of_mem _ (List.mem_cons_of_mem _ (List.mem_cons_of_mem _ (List.mem_cons_of_mem _ (List.mem_cons_of_mem _ List.mem_cons_self))))))))))))))))))))))))))))))))))))))))) (Nat.lt_of_lt_of_le (show ce_162_40.1 < 1 by decide) (by first | decide | omega)) (fun _ => 0) [gx_r 347, gx_r 8] t0 n ⟨gx_vref 347, gx_vref 8, trivial⟩ g0 (fun q hq => absurd hq List.not_mem_nil) hE
          have hn114 : n = rn114 := hn114.symm
          have hs114 : rs114 = 0 := hs114
          subst hn114 hs114
          have ho114 := List.mem_singleton.mp ho114
          subst ho114
          have hv114 : rv114 = none := by
            cases rv114 with
            | none => rfl
            | some w => exact ro114.elim
          subst hv114
          have e114 : ∀ c i, ¬ (347 ≤ c ∧ c ≤ 353) → ai_hv t114 c i = ai_hv t0 c i := fun c i h => fr114 c i (fun z => h (inw_rng (by decide) z))
          refine gx_callo (a := 347) rfl rfl g0 rfl rfl rfl r114 rfl ?_
          show en_ex _ _ _ _ (77, [(0, gx_r 0), (1, .inl 1), (2, .inl b)], [], t114, n, 0) _
          refine ex_go (S := (78, [(0, gx_r 0), (1, .inl 1), (2, .inl b)], [gx_r 0], t114, n, 0)) rfl (fun _ => rfl) rfl ?_
          refine gxo_ref (a := 0) (c := 137) rfl g114 rfl rfl rfl rfl rfl ?_
          refine ex_go (S := (82, [(0, gx_r 0), (1, .inl 1), (2, .inl b)], [.inl 1, gx_r 137], t114, n, 0)) rfl (fun _ => rfl) rfl ?_
          refine gx_ag (v := gx_r 354) (cb := fun c => Nat.ble 4 c && Nat.ble c 7) rfl (fun _ => rfl) g114 rfl rfl (gx_slr g114 rfl (by decide) rfl) (by first | decide | omega) rfl ?_
          refine ex_go (S := (84, [(0, gx_r 0), (1, .inl 1), (2, .inl b)], [gx_r 0, gx_r 354], t114, n, 0)) rfl (fun _ => rfl) rfl ?_
          refine gxo_ref (a := 0) (c := 139) rfl g114 rfl rfl rfl rfl rfl ?_
          obtain ⟨⟨rv115, t115, rn115, rs115⟩, r115, hn115, hs115, g115, fr115, E115, o115, ho115, ro115, hh115⟩ := ac_all (d + 1) 170 ce_170_6 (show ce_170_6 ∈ cm_170 from (List.mem_cons_of_mem _ (List.mem_cons_of_mem _ (List.mem_cons_of_mem _ (List.mem_cons_of_mem _ (List.mem_cons_of_mem _ (List.mem_cons_of_mem _ List.mem_cons_self))))))) (Nat.lt_of_lt_of_le (show ce_170_6.1 < 1 by decide) (by first | decide | omega)) (fun _ => 0) [gx_r 354, gx_r 139] t114 n ⟨gx_vref 354, gx_vref 139, trivial⟩ g114 (fun q hq => absurd hq List.not_mem_nil) E114
          have hn115 : n = rn115 := hn115.symm
          have hs115 : rs115 = 0 := hs115
          subst hn115 hs115
          have ho115 := List.mem_singleton.mp ho115
          subst ho115
          have hv115 : rv115 = none := by
            cases rv115 with
            | none => rfl
            | some w => exact ro115.elim
          subst hv115
          have e115 : ∀ c i, ¬ (354 ≤ c ∧ c ≤ 360) → ai_hv t115 c i = ai_hv t114 c i := fun c i h => fr115 c i (fun z => h (inw_rng (by decide) z))
          refine gx_callo (a := 354) rfl rfl g114 rfl rfl rfl r115 rfl ?_
          show en_ex _ _ _ _ (90, [(0, gx_r 0), (1, .inl 1), (2, .inl b)], [], t115, n, 0) _
          refine ex_go (S := (91, [(0, gx_r 0), (1, .inl 1), (2, .inl b)], [gx_r 0], t115, n, 0)) rfl (fun _ => rfl) rfl ?_
          refine gxo_ref (a := 0) (c := 138) rfl g115 rfl rfl rfl rfl rfl ?_
          refine ex_go (S := (95, [(0, gx_r 0), (1, .inl 1), (2, .inl b)], [.inl 1, gx_r 138], t115, n, 0)) rfl (fun _ => rfl) rfl ?_
          refine ex_go (S := (96, [(0, gx_r 0), (1, .inl 1), (2, .inl b)], [.inl 1, .inl 1, gx_r 138], t115, n, 0)) rfl (fun _ => rfl) rfl ?_
          refine gx_apv (d := 2) rfl (fun _ => rfl) g115 rfl rfl rfl (show 1 < 4 from by omega) rfl (ai_in_h (by first | decide | omega) (by first | decide | omega) (by first | decide | omega)) rfl (fun t116 g116 k116 e116 => ?_)
          refine ex_go (S := (98, [(0, gx_r 0), (1, .inl 1), (2, .inl b)], [.inl 1], t116, n, 0)) rfl (fun _ => rfl) rfl ?_
          refine ex_ret (r := (some (.inl 1), t116, n, 0)) rfl (fun _ => rfl) ?_
          refine ⟨_, rfl, 1, t116, rfl, fun _ => ⟨rfl, fun i hi => ?_⟩, fun h => absurd h (by first | decide | omega)⟩
          rcases (show i = 0 ∨ i = 1 ∨ i = 2 ∨ i = 3 by omega) with rfl | rfl | rfl | rfl
          · rw [if_neg (by decide)]; exact (e116 138 0 (by first | decide | omega)).trans ((e115 138 0 (by first | decide | omega)).trans ((e114 138 0 (by first | decide | omega)).trans (hF 0 (by first | decide | omega))))
          · rw [if_pos rfl]; exact k116
          · rw [if_neg (by decide)]; exact (e116 138 2 (by first | decide | omega)).trans ((e115 138 2 (by first | decide | omega)).trans ((e114 138 2 (by first | decide | omega)).trans (hF 2 (by first | decide | omega))))
          · rw [if_neg (by decide)]; exact (e116 138 3 (by first | decide | omega)).trans ((e115 138 3 (by first | decide | omega)).trans ((e114 138 3 (by first | decide | omega)).trans (hF 3 (by first | decide | omega))))
        · refine gx_1f (c := .eq) rfl (by first | decide | omega) hc13 rfl ?_
          refine ex_go (S := (29, [(0, gx_r 0), (1, .inl 1), (2, .inl b)], [gx_r 0], t0, n, 0)) rfl (fun _ => rfl) rfl ?_
          refine gxo_ref (a := 0) (c := 8) rfl g0 rfl rfl rfl rfl rfl ?_
          refine ex_go (S := (33, [(0, gx_r 0), (1, .inl 1), (2, .inl b)], [gx_r 0, gx_r 8], t0, n, 0)) rfl (fun _ => rfl) rfl ?_
          refine gxo_ref (a := 0) (c := 136) rfl g0 rfl rfl rfl rfl rfl ?_
          refine ex_go (S := (37, [(0, gx_r 0), (1, .inl 1), (2, .inl b)], [.inl 1, gx_r 136, gx_r 8], t0, n, 0)) rfl (fun _ => rfl) rfl ?_
          refine gx_ag (v := gx_r 347) (cb := fun c => Nat.ble 4 c && Nat.ble c 7) rfl (fun _ => rfl) g0 rfl rfl (gx_slr g0 rfl (by decide) rfl) (by first | decide | omega) rfl ?_
          obtain ⟨⟨rv117, t117, rn117, rs117⟩, r117, hn117, hs117, g117, fr117, E117, o117, ho117, ro117, hh117⟩ := ac_all (d + 1) 162 ce_162_34 (show ce_162_34 ∈ cm_162 from (List.mem_cons_of_mem _ (List.mem_cons_of_mem _ (List.mem_cons_of_mem _ (List.mem_cons_of_mem _ (List.mem_cons_of_mem _ (List.mem_cons_of_mem _ (List.mem_cons_of_mem _ (List.mem_cons_of_mem _ (List.mem_cons_of_mem _ (List.mem_cons_of_mem _ (List.mem_cons_of_mem _ (List.mem_cons_of_mem _ (List.mem_cons_of_mem _ (List.mem_cons_of_mem _ (List.mem_cons_of_mem _ (List.mem_cons_of_mem _ (List.mem_cons_of_mem _ (List.mem_cons_of_mem _ (List.mem_cons_of_mem _ (List.mem_cons_of_mem _ (List.mem_cons_of_mem _ (List.mem_cons_of_mem _ (List.mem_cons_of_mem _ (List.mem_cons_of_mem _ (List.mem_cons_of_mem _ (List.mem_cons_of_mem _ (List.mem_cons_of_mem _ (List.mem_cons_of_mem _ (List.mem_cons_of_mem _ (List.mem_cons_of_mem _ (List.mem_cons_of_mem _ (List.mem_cons_of_mem _ (List.mem_cons_of_mem _ (List.mem_cons_of_mem _ List.mem_cons_self))))))))))))))))))))))))))))))))))) (Nat.lt_of_lt_of_le (show ce_162_34.1 < 1 by decide) (by first | decide | omega)) (fun _ => 0) [gx_r 8, gx_r 347] t0 n ⟨gx_vref 8, gx_vref 347, trivial⟩ g0 (fun q hq => absurd hq List.not_mem_nil) hE
          have hn117 : n = rn117 := hn117.symm
          have hs117 : rs117 = 0 := hs117
          subst hn117 hs117
          have ho117 := List.mem_singleton.mp ho117
          subst ho117
          have hv117 : rv117 = none := by
            cases rv117 with
            | none => rfl
            | some w => exact ro117.elim
          subst hv117
          have e117 : ∀ c i, ¬ (8 ≤ c ∧ c ≤ 14) → ai_hv t117 c i = ai_hv t0 c i := fun c i h => fr117 c i (fun z => h (inw_rng (by decide) z))
          refine gx_callo (a := 8) rfl rfl g0 rfl rfl rfl r117 rfl ?_
          show en_ex _ _ _ _ (41, [(0, gx_r 0), (1, .inl 1), (2, .inl b)], [], t117, n, 0) _
          refine ex_go (S := (42, [(0, gx_r 0), (1, .inl 1), (2, .inl b)], [gx_r 0], t117, n, 0)) rfl (fun _ => rfl) rfl ?_
          refine gxo_ref (a := 0) (c := 139) rfl g117 rfl rfl rfl rfl rfl ?_
          refine ex_go (S := (46, [(0, gx_r 0), (1, .inl 1), (2, .inl b)], [gx_r 0, gx_r 139], t117, n, 0)) rfl (fun _ => rfl) rfl ?_
          refine gxo_ref (a := 0) (c := 137) rfl g117 rfl rfl rfl rfl rfl ?_
          refine ex_go (S := (50, [(0, gx_r 0), (1, .inl 1), (2, .inl b)], [.inl 1, gx_r 137, gx_r 139], t117, n, 0)) rfl (fun _ => rfl) rfl ?_
          refine gx_ag (v := gx_r 354) (cb := fun c => Nat.ble 4 c && Nat.ble c 7) rfl (fun _ => rfl) g117 rfl rfl (gx_slr g117 rfl (by decide) rfl) (by first | decide | omega) rfl ?_
          obtain ⟨⟨rv118, t118, rn118, rs118⟩, r118, hn118, hs118, g118, fr118, E118, o118, ho118, ro118, hh118⟩ := ac_all (d + 1) 170 ce_170_7 (show ce_170_7 ∈ cm_170 from (List.mem_cons_of_mem _ (List.mem_cons_of_mem _ (List.mem_cons_of_mem _ (List.mem_cons_of_mem _ (List.mem_cons_of_mem _ (List.mem_cons_of_mem _ (List.mem_cons_of_mem _ List.mem_cons_self)))))))) (Nat.lt_of_lt_of_le (show ce_170_7.1 < 1 by decide) (by first | decide | omega)) (fun _ => 0) [gx_r 139, gx_r 354] t117 n ⟨gx_vref 139, gx_vref 354, trivial⟩ g117 (fun q hq => absurd hq List.not_mem_nil) E117
          have hn118 : n = rn118 := hn118.symm
          have hs118 : rs118 = 0 := hs118
          subst hn118 hs118
          have ho118 := List.mem_singleton.mp ho118
          subst ho118
          have hv118 : rv118 = none := by
            cases rv118 with
            | none => rfl
            | some w => exact ro118.elim
          subst hv118
          have e118 : ∀ c i, ¬ (139 ≤ c ∧ c ≤ 145) → ai_hv t118 c i = ai_hv t117 c i := fun c i h => fr118 c i (fun z => h (inw_rng (by decide) z))
          refine gx_callo (a := 139) rfl rfl g117 rfl rfl rfl r118 rfl ?_
          show en_ex _ _ _ _ (54, [(0, gx_r 0), (1, .inl 1), (2, .inl b)], [], t118, n, 0) _
          refine ex_go (S := (55, [(0, gx_r 0), (1, .inl 1), (2, .inl b)], [gx_r 0], t118, n, 0)) rfl (fun _ => rfl) rfl ?_
          refine gxo_ref (a := 0) (c := 22) rfl g118 rfl rfl rfl rfl rfl ?_
          obtain ⟨_, r119, t119, rfl, g119, e119, -⟩ := pz_pclear d n g118
          refine gx_callo (a := 22) rfl rfl g118 rfl rfl rfl r119 rfl ?_
          show en_ex _ _ _ _ (61, [(0, gx_r 0), (1, .inl 1), (2, .inl b)], [], t119, n, 0) _
          refine ex_go (S := (97, [(0, gx_r 0), (1, .inl 1), (2, .inl b)], [], t119, n, 0)) rfl (fun _ => rfl) rfl ?_
          refine ex_go (S := (98, [(0, gx_r 0), (1, .inl 1), (2, .inl b)], [.inl 1], t119, n, 0)) rfl (fun _ => rfl) rfl ?_
          refine ex_ret (r := (some (.inl 1), t119, n, 0)) rfl (fun _ => rfl) ?_
          refine ⟨_, rfl, 1, t119, rfl, fun _ => ⟨rfl, fun i hi => ?_⟩, fun h => absurd h (by first | decide | omega)⟩
          rcases (show i = 0 ∨ i = 1 ∨ i = 2 ∨ i = 3 by omega) with rfl | rfl | rfl | rfl
          · rw [if_neg (by decide)]; exact (e119 138 0 (by first | decide | omega)).trans ((e118 138 0 (by first | decide | omega)).trans ((e117 138 0 (by first | decide | omega)).trans (hF 0 (by first | decide | omega))))
          · have h9 : F 1 = 1 := by omega
            have h8 := (e119 138 1 (by first | decide | omega)).trans ((e118 138 1 (by first | decide | omega)).trans ((e117 138 1 (by first | decide | omega)).trans (hF 1 (by first | decide | omega))))
            rw [h9] at h8
            rw [if_pos rfl]
            exact h8
          · rw [if_neg (by decide)]; exact (e119 138 2 (by first | decide | omega)).trans ((e118 138 2 (by first | decide | omega)).trans ((e117 138 2 (by first | decide | omega)).trans (hF 2 (by first | decide | omega))))
          · rw [if_neg (by decide)]; exact (e119 138 3 (by first | decide | omega)).trans ((e118 138 3 (by first | decide | omega)).trans ((e117 138 3 (by first | decide | omega)).trans (hF 3 (by first | decide | omega))))
      · refine ex_go (S := (25, [(0, gx_r 0), (1, .inl 2), (2, .inl b)], [.inl b], t0, n, 0)) rfl (fun _ => rfl) rfl ?_
        by_cases hc20 : b = 0
        · refine gx_1t (c := .eq) rfl (by first | decide | omega) hc20 rfl ?_
          refine ex_go (S := (65, [(0, gx_r 0), (1, .inl 2), (2, .inl b)], [gx_r 0], t0, n, 0)) rfl (fun _ => rfl) rfl ?_
          refine gxo_ref (a := 0) (c := 136) rfl g0 rfl rfl rfl rfl rfl ?_
          refine ex_go (S := (69, [(0, gx_r 0), (1, .inl 2), (2, .inl b)], [.inl 2, gx_r 136], t0, n, 0)) rfl (fun _ => rfl) rfl ?_
          refine gx_ag (v := gx_r 359) (cb := fun c => Nat.ble 4 c && Nat.ble c 7) rfl (fun _ => rfl) g0 rfl rfl (gx_slr g0 rfl (by decide) rfl) (by first | decide | omega) rfl ?_
          refine ex_go (S := (71, [(0, gx_r 0), (1, .inl 2), (2, .inl b)], [gx_r 0, gx_r 359], t0, n, 0)) rfl (fun _ => rfl) rfl ?_
          refine gxo_ref (a := 0) (c := 8) rfl g0 rfl rfl rfl rfl rfl ?_
          obtain ⟨⟨rv121, t121, rn121, rs121⟩, r121, hn121, hs121, g121, fr121, E121, o121, ho121, ro121, hh121⟩ := ac_all (d + 1) 162 ce_162_38 (show ce_162_38 ∈ cm_162 from (List.mem_cons_of_mem _ (List.mem_cons_of_mem _ (List.mem_cons_of_mem _ (List.mem_cons_of_mem _ (List.mem_cons_of_mem _ (List.mem_cons_of_mem _ (List.mem_cons_of_mem _ (List.mem_cons_of_mem _ (List.mem_cons_of_mem _ (List.mem_cons_of_mem _ (List.mem_cons_of_mem _ (List.mem_cons_of_mem _ (List.mem_cons_of_mem _ (List.mem_cons_of_mem _ (List.mem_cons_of_mem _ (List.mem_cons_of_mem _ (List.mem_cons_of_mem _ (List.mem_cons_of_mem _ (List.mem_cons_of_mem _ (List.mem_cons_of_mem _ (List.mem_cons_of_mem _ (List.mem_cons_of_mem _ (List.mem_cons_of_mem _ (List.mem_cons_of_mem _ (List.mem_cons_of_mem _ (List.mem_cons_of_mem _ (List.mem_cons_of_mem _ (List.mem_cons_of_mem _ (List.mem_cons_of_mem _ (List.mem_cons_of_mem _ (List.mem_cons_of_mem _ (List.mem_cons_of_mem _ (List.mem_cons_of_mem _ (List.mem_cons_of_mem _ (List.mem_cons_of_mem _ (List.mem_cons_of_mem _ (List.mem_cons_of_mem _ (List.mem_cons_of_mem _ List.mem_cons_self))))))))))))))))))))))))))))))))))))))) (Nat.lt_of_lt_of_le (show ce_162_38.1 < 1 by decide) (by first | decide | omega)) (fun _ => 0) [gx_r 359, gx_r 8] t0 n ⟨gx_vref 359, gx_vref 8, trivial⟩ g0 (fun q hq => absurd hq List.not_mem_nil) hE
          have hn121 : n = rn121 := hn121.symm
          have hs121 : rs121 = 0 := hs121
          subst hn121 hs121
          have ho121 := List.mem_singleton.mp ho121
          subst ho121
          have hv121 : rv121 = none := by
            cases rv121 with
            | none => rfl
            | some w => exact ro121.elim
          subst hv121
          have e121 : ∀ c i, ¬ (359 ≤ c ∧ c ≤ 365) → ai_hv t121 c i = ai_hv t0 c i := fun c i h => fr121 c i (fun z => h (inw_rng (by decide) z))
          refine gx_callo (a := 359) rfl rfl g0 rfl rfl rfl r121 rfl ?_
          show en_ex _ _ _ _ (77, [(0, gx_r 0), (1, .inl 2), (2, .inl b)], [], t121, n, 0) _
          refine ex_go (S := (78, [(0, gx_r 0), (1, .inl 2), (2, .inl b)], [gx_r 0], t121, n, 0)) rfl (fun _ => rfl) rfl ?_
          refine gxo_ref (a := 0) (c := 137) rfl g121 rfl rfl rfl rfl rfl ?_
          refine ex_go (S := (82, [(0, gx_r 0), (1, .inl 2), (2, .inl b)], [.inl 2, gx_r 137], t121, n, 0)) rfl (fun _ => rfl) rfl ?_
          refine gx_ag (v := gx_r 366) (cb := fun c => Nat.ble 4 c && Nat.ble c 7) rfl (fun _ => rfl) g121 rfl rfl (gx_slr g121 rfl (by decide) rfl) (by first | decide | omega) rfl ?_
          refine ex_go (S := (84, [(0, gx_r 0), (1, .inl 2), (2, .inl b)], [gx_r 0, gx_r 366], t121, n, 0)) rfl (fun _ => rfl) rfl ?_
          refine gxo_ref (a := 0) (c := 139) rfl g121 rfl rfl rfl rfl rfl ?_
          obtain ⟨⟨rv122, t122, rn122, rs122⟩, r122, hn122, hs122, g122, fr122, E122, o122, ho122, ro122, hh122⟩ := ac_all (d + 1) 170 ce_170_4 (show ce_170_4 ∈ cm_170 from (List.mem_cons_of_mem _ (List.mem_cons_of_mem _ (List.mem_cons_of_mem _ (List.mem_cons_of_mem _ List.mem_cons_self))))) (Nat.lt_of_lt_of_le (show ce_170_4.1 < 1 by decide) (by first | decide | omega)) (fun _ => 0) [gx_r 366, gx_r 139] t121 n ⟨gx_vref 366, gx_vref 139, trivial⟩ g121 (fun q hq => absurd hq List.not_mem_nil) E121
          have hn122 : n = rn122 := hn122.symm
          have hs122 : rs122 = 0 := hs122
          subst hn122 hs122
          have ho122 := List.mem_singleton.mp ho122
          subst ho122
          have hv122 : rv122 = none := by
            cases rv122 with
            | none => rfl
            | some w => exact ro122.elim
          subst hv122
          have e122 : ∀ c i, ¬ (366 ≤ c ∧ c ≤ 372) → ai_hv t122 c i = ai_hv t121 c i := fun c i h => fr122 c i (fun z => h (inw_rng (by decide) z))
          refine gx_callo (a := 366) rfl rfl g121 rfl rfl rfl r122 rfl ?_
          show en_ex _ _ _ _ (90, [(0, gx_r 0), (1, .inl 2), (2, .inl b)], [], t122, n, 0) _
          refine ex_go (S := (91, [(0, gx_r 0), (1, .inl 2), (2, .inl b)], [gx_r 0], t122, n, 0)) rfl (fun _ => rfl) rfl ?_
          refine gxo_ref (a := 0) (c := 138) rfl g122 rfl rfl rfl rfl rfl ?_
          refine ex_go (S := (95, [(0, gx_r 0), (1, .inl 2), (2, .inl b)], [.inl 2, gx_r 138], t122, n, 0)) rfl (fun _ => rfl) rfl ?_
          refine ex_go (S := (96, [(0, gx_r 0), (1, .inl 2), (2, .inl b)], [.inl 1, .inl 2, gx_r 138], t122, n, 0)) rfl (fun _ => rfl) rfl ?_
          refine gx_apv (d := 2) rfl (fun _ => rfl) g122 rfl rfl rfl (show 2 < 4 from by omega) rfl (ai_in_h (by first | decide | omega) (by first | decide | omega) (by first | decide | omega)) rfl (fun t123 g123 k123 e123 => ?_)
          refine ex_go (S := (98, [(0, gx_r 0), (1, .inl 2), (2, .inl b)], [.inl 1], t123, n, 0)) rfl (fun _ => rfl) rfl ?_
          refine ex_ret (r := (some (.inl 1), t123, n, 0)) rfl (fun _ => rfl) ?_
          refine ⟨_, rfl, 1, t123, rfl, fun _ => ⟨rfl, fun i hi => ?_⟩, fun h => absurd h (by first | decide | omega)⟩
          rcases (show i = 0 ∨ i = 1 ∨ i = 2 ∨ i = 3 by omega) with rfl | rfl | rfl | rfl
          · rw [if_neg (by decide)]; exact (e123 138 0 (by first | decide | omega)).trans ((e122 138 0 (by first | decide | omega)).trans ((e121 138 0 (by first | decide | omega)).trans (hF 0 (by first | decide | omega))))
          · rw [if_neg (by decide)]; exact (e123 138 1 (by first | decide | omega)).trans ((e122 138 1 (by first | decide | omega)).trans ((e121 138 1 (by first | decide | omega)).trans (hF 1 (by first | decide | omega))))
          · rw [if_pos rfl]; exact k123
          · rw [if_neg (by decide)]; exact (e123 138 3 (by first | decide | omega)).trans ((e122 138 3 (by first | decide | omega)).trans ((e121 138 3 (by first | decide | omega)).trans (hF 3 (by first | decide | omega))))
        · refine gx_1f (c := .eq) rfl (by first | decide | omega) hc20 rfl ?_
          refine ex_go (S := (29, [(0, gx_r 0), (1, .inl 2), (2, .inl b)], [gx_r 0], t0, n, 0)) rfl (fun _ => rfl) rfl ?_
          refine gxo_ref (a := 0) (c := 8) rfl g0 rfl rfl rfl rfl rfl ?_
          refine ex_go (S := (33, [(0, gx_r 0), (1, .inl 2), (2, .inl b)], [gx_r 0, gx_r 8], t0, n, 0)) rfl (fun _ => rfl) rfl ?_
          refine gxo_ref (a := 0) (c := 136) rfl g0 rfl rfl rfl rfl rfl ?_
          refine ex_go (S := (37, [(0, gx_r 0), (1, .inl 2), (2, .inl b)], [.inl 2, gx_r 136, gx_r 8], t0, n, 0)) rfl (fun _ => rfl) rfl ?_
          refine gx_ag (v := gx_r 359) (cb := fun c => Nat.ble 4 c && Nat.ble c 7) rfl (fun _ => rfl) g0 rfl rfl (gx_slr g0 rfl (by decide) rfl) (by first | decide | omega) rfl ?_
          obtain ⟨⟨rv124, t124, rn124, rs124⟩, r124, hn124, hs124, g124, fr124, E124, o124, ho124, ro124, hh124⟩ := ac_all (d + 1) 162 ce_162_35 (show ce_162_35 ∈ cm_162 from (List.mem_cons_of_mem _ (List.mem_cons_of_mem _ (List.mem_cons_of_mem _ (List.mem_cons_of_mem _ (List.mem_cons_of_mem _ (List.mem_cons_of_mem _ (List.mem_cons_of_mem _ (List.mem_cons_of_mem _ (List.mem_cons_of_mem _ (List.mem_cons_of_mem _ (List.mem_cons_of_mem _ (List.mem_cons_of_mem _ (List.mem_cons_of_mem _ (List.mem_cons_of_mem _ (List.mem_cons_of_mem _ (List.mem_cons_of_mem _ (List.mem_cons_of_mem _ (List.mem_cons_of_mem _ (List.mem_cons_of_mem _ (List.mem_cons_of_mem _ (List.mem_cons_of_mem _ (List.mem_cons_of_mem _ (List.mem_cons_of_mem _ (List.mem_cons_of_mem _ (List.mem_cons_of_mem _ (List.mem_cons_of_mem _ (List.mem_cons_of_mem _ (List.mem_cons_of_mem _ (List.mem_cons_of_mem _ (List.mem_cons_of_mem _ (List.mem_cons_of_mem _ (List.mem_cons_of_mem _ (List.mem_cons_of_mem _ (List.mem_cons_of_mem _ (List.mem_cons_of_mem _ List.mem_cons_self)))))))))))))))))))))))))))))))))))) (Nat.lt_of_lt_of_le (show ce_162_35.1 < 1 by decide) (by first | decide | omega)) (fun _ => 0) [gx_r 8, gx_r 359] t0 n ⟨gx_vref 8, gx_vref 359, trivial⟩ g0 (fun q hq => absurd hq List.not_mem_nil) hE
          have hn124 : n = rn124 := hn124.symm
          have hs124 : rs124 = 0 := hs124
          subst hn124 hs124
          have ho124 := List.mem_singleton.mp ho124
          subst ho124
          have hv124 : rv124 = none := by
            cases rv124 with
            | none => rfl
            | some w => exact ro124.elim
          subst hv124
          have e124 : ∀ c i, ¬ (8 ≤ c ∧ c ≤ 14) → ai_hv t124 c i = ai_hv t0 c i := fun c i h => fr124 c i (fun z => h (inw_rng (by decide) z))
          refine gx_callo (a := 8) rfl rfl g0 rfl rfl rfl r124 rfl ?_
          show en_ex _ _ _ _ (41, [(0, gx_r 0), (1, .inl 2), (2, .inl b)], [], t124, n, 0) _
          refine ex_go (S := (42, [(0, gx_r 0), (1, .inl 2), (2, .inl b)], [gx_r 0], t124, n, 0)) rfl (fun _ => rfl) rfl ?_
          refine gxo_ref (a := 0) (c := 139) rfl g124 rfl rfl rfl rfl rfl ?_
          refine ex_go (S := (46, [(0, gx_r 0), (1, .inl 2), (2, .inl b)], [gx_r 0, gx_r 139], t124, n, 0)) rfl (fun _ => rfl) rfl ?_
          refine gxo_ref (a := 0) (c := 137) rfl g124 rfl rfl rfl rfl rfl ?_
          refine ex_go (S := (50, [(0, gx_r 0), (1, .inl 2), (2, .inl b)], [.inl 2, gx_r 137, gx_r 139], t124, n, 0)) rfl (fun _ => rfl) rfl ?_
          refine gx_ag (v := gx_r 366) (cb := fun c => Nat.ble 4 c && Nat.ble c 7) rfl (fun _ => rfl) g124 rfl rfl (gx_slr g124 rfl (by decide) rfl) (by first | decide | omega) rfl ?_
          obtain ⟨⟨rv125, t125, rn125, rs125⟩, r125, hn125, hs125, g125, fr125, E125, o125, ho125, ro125, hh125⟩ := ac_all (d + 1) 170 ce_170_0 (show ce_170_0 ∈ cm_170 from List.mem_cons_self) (Nat.lt_of_lt_of_le (show ce_170_0.1 < 1 by decide) (by first | decide | omega)) (fun _ => 0) [gx_r 139, gx_r 366] t124 n ⟨gx_vref 139, gx_vref 366, trivial⟩ g124 (fun q hq => absurd hq List.not_mem_nil) E124
          have hn125 : n = rn125 := hn125.symm
          have hs125 : rs125 = 0 := hs125
          subst hn125 hs125
          have ho125 := List.mem_singleton.mp ho125
          subst ho125
          have hv125 : rv125 = none := by
            cases rv125 with
            | none => rfl
            | some w => exact ro125.elim
          subst hv125
          have e125 : ∀ c i, ¬ (139 ≤ c ∧ c ≤ 145) → ai_hv t125 c i = ai_hv t124 c i := fun c i h => fr125 c i (fun z => h (inw_rng (by decide) z))
          refine gx_callo (a := 139) rfl rfl g124 rfl rfl rfl r125 rfl ?_
          show en_ex _ _ _ _ (54, [(0, gx_r 0), (1, .inl 2), (2, .inl b)], [], t125, n, 0) _
          refine ex_go (S := (55, [(0, gx_r 0), (1, .inl 2), (2, .inl b)], [gx_r 0], t125, n, 0)) rfl (fun _ => rfl) rfl ?_
          refine gxo_ref (a := 0) (c := 22) rfl g125 rfl rfl rfl rfl rfl ?_
          obtain ⟨_, r126, t126, rfl, g126, e126, -⟩ := pz_pclear d n g125
          refine gx_callo (a := 22) rfl rfl g125 rfl rfl rfl r126 rfl ?_
          show en_ex _ _ _ _ (61, [(0, gx_r 0), (1, .inl 2), (2, .inl b)], [], t126, n, 0) _
          refine ex_go (S := (97, [(0, gx_r 0), (1, .inl 2), (2, .inl b)], [], t126, n, 0)) rfl (fun _ => rfl) rfl ?_
          refine ex_go (S := (98, [(0, gx_r 0), (1, .inl 2), (2, .inl b)], [.inl 1], t126, n, 0)) rfl (fun _ => rfl) rfl ?_
          refine ex_ret (r := (some (.inl 1), t126, n, 0)) rfl (fun _ => rfl) ?_
          refine ⟨_, rfl, 1, t126, rfl, fun _ => ⟨rfl, fun i hi => ?_⟩, fun h => absurd h (by first | decide | omega)⟩
          rcases (show i = 0 ∨ i = 1 ∨ i = 2 ∨ i = 3 by omega) with rfl | rfl | rfl | rfl
          · rw [if_neg (by decide)]; exact (e126 138 0 (by first | decide | omega)).trans ((e125 138 0 (by first | decide | omega)).trans ((e124 138 0 (by first | decide | omega)).trans (hF 0 (by first | decide | omega))))
          · rw [if_neg (by decide)]; exact (e126 138 1 (by first | decide | omega)).trans ((e125 138 1 (by first | decide | omega)).trans ((e124 138 1 (by first | decide | omega)).trans (hF 1 (by first | decide | omega))))
          · have h9 : F 2 = 1 := by omega
            have h8 := (e126 138 2 (by first | decide | omega)).trans ((e125 138 2 (by first | decide | omega)).trans ((e124 138 2 (by first | decide | omega)).trans (hF 2 (by first | decide | omega))))
            rw [h9] at h8
            rw [if_pos rfl]
            exact h8
          · rw [if_neg (by decide)]; exact (e126 138 3 (by first | decide | omega)).trans ((e125 138 3 (by first | decide | omega)).trans ((e124 138 3 (by first | decide | omega)).trans (hF 3 (by first | decide | omega))))
      · refine ex_go (S := (25, [(0, gx_r 0), (1, .inl 3), (2, .inl b)], [.inl b], t0, n, 0)) rfl (fun _ => rfl) rfl ?_
        by_cases hc27 : b = 0
        · refine gx_1t (c := .eq) rfl (by first | decide | omega) hc27 rfl ?_
          refine ex_go (S := (65, [(0, gx_r 0), (1, .inl 3), (2, .inl b)], [gx_r 0], t0, n, 0)) rfl (fun _ => rfl) rfl ?_
          refine gxo_ref (a := 0) (c := 136) rfl g0 rfl rfl rfl rfl rfl ?_
          refine ex_go (S := (69, [(0, gx_r 0), (1, .inl 3), (2, .inl b)], [.inl 3, gx_r 136], t0, n, 0)) rfl (fun _ => rfl) rfl ?_
          refine gx_ag (v := gx_r 371) (cb := fun c => Nat.ble 4 c && Nat.ble c 7) rfl (fun _ => rfl) g0 rfl rfl (gx_slr g0 rfl (by decide) rfl) (by first | decide | omega) rfl ?_
          refine ex_go (S := (71, [(0, gx_r 0), (1, .inl 3), (2, .inl b)], [gx_r 0, gx_r 371], t0, n, 0)) rfl (fun _ => rfl) rfl ?_
          refine gxo_ref (a := 0) (c := 8) rfl g0 rfl rfl rfl rfl rfl ?_
          obtain ⟨⟨rv128, t128, rn128, rs128⟩, r128, hn128, hs128, g128, fr128, E128, o128, ho128, ro128, hh128⟩ := ac_all (d + 1) 162 ce_162_36 (show ce_162_36 ∈ cm_162 from (List.mem_cons_of_mem _ (List.mem_cons_of_mem _ (List.mem_cons_of_mem _ (List.mem_cons_of_mem _ (List.mem_cons_of_mem _ (List.mem_cons_of_mem _ (List.mem_cons_of_mem _ (List.mem_cons_of_mem _ (List.mem_cons_of_mem _ (List.mem_cons_of_mem _ (List.mem_cons_of_mem _ (List.mem_cons_of_mem _ (List.mem_cons_of_mem _ (List.mem_cons_of_mem _ (List.mem_cons_of_mem _ (List.mem_cons_of_mem _ (List.mem_cons_of_mem _ (List.mem_cons_of_mem _ (List.mem_cons_of_mem _ (List.mem_cons_of_mem _ (List.mem_cons_of_mem _ (List.mem_cons_of_mem _ (List.mem_cons_of_mem _ (List.mem_cons_of_mem _ (List.mem_cons_of_mem _ (List.mem_cons_of_mem _ (List.mem_cons_of_mem _ (List.mem_cons_of_mem _ (List.mem_cons_of_mem _ (List.mem_cons_of_mem _ (List.mem_cons_of_mem _ (List.mem_cons_of_mem _ (List.mem_cons_of_mem _ (List.mem_cons_of_mem _ (List.mem_cons_of_mem _ (List.mem_cons_of_mem _ List.mem_cons_self))))))))))))))))))))))))))))))))))))) (Nat.lt_of_lt_of_le (show ce_162_36.1 < 1 by decide) (by first | decide | omega)) (fun _ => 0) [gx_r 371, gx_r 8] t0 n ⟨gx_vref 371, gx_vref 8, trivial⟩ g0 (fun q hq => absurd hq List.not_mem_nil) hE
          have hn128 : n = rn128 := hn128.symm
          have hs128 : rs128 = 0 := hs128
          subst hn128 hs128
          have ho128 := List.mem_singleton.mp ho128
          subst ho128
          have hv128 : rv128 = none := by
            cases rv128 with
            | none => rfl
            | some w => exact ro128.elim
          subst hv128
          have e128 : ∀ c i, ¬ (371 ≤ c ∧ c ≤ 377) → ai_hv t128 c i = ai_hv t0 c i := fun c i h => fr128 c i (fun z => h (inw_rng (by decide) z))
          refine gx_callo (a := 371) rfl rfl g0 rfl rfl rfl r128 rfl ?_
          show en_ex _ _ _ _ (77, [(0, gx_r 0), (1, .inl 3), (2, .inl b)], [], t128, n, 0) _
          refine ex_go (S := (78, [(0, gx_r 0), (1, .inl 3), (2, .inl b)], [gx_r 0], t128, n, 0)) rfl (fun _ => rfl) rfl ?_
          refine gxo_ref (a := 0) (c := 137) rfl g128 rfl rfl rfl rfl rfl ?_
          refine ex_go (S := (82, [(0, gx_r 0), (1, .inl 3), (2, .inl b)], [.inl 3, gx_r 137], t128, n, 0)) rfl (fun _ => rfl) rfl ?_
          refine gx_ag (v := gx_r 378) (cb := fun c => Nat.ble 4 c && Nat.ble c 7) rfl (fun _ => rfl) g128 rfl rfl (gx_slr g128 rfl (by decide) rfl) (by first | decide | omega) rfl ?_
          refine ex_go (S := (84, [(0, gx_r 0), (1, .inl 3), (2, .inl b)], [gx_r 0, gx_r 378], t128, n, 0)) rfl (fun _ => rfl) rfl ?_
          refine gxo_ref (a := 0) (c := 139) rfl g128 rfl rfl rfl rfl rfl ?_
          obtain ⟨⟨rv129, t129, rn129, rs129⟩, r129, hn129, hs129, g129, fr129, E129, o129, ho129, ro129, hh129⟩ := ac_all (d + 1) 170 ce_170_5 (show ce_170_5 ∈ cm_170 from (List.mem_cons_of_mem _ (List.mem_cons_of_mem _ (List.mem_cons_of_mem _ (List.mem_cons_of_mem _ (List.mem_cons_of_mem _ List.mem_cons_self)))))) (Nat.lt_of_lt_of_le (show ce_170_5.1 < 1 by decide) (by first | decide | omega)) (fun _ => 0) [gx_r 378, gx_r 139] t128 n ⟨gx_vref 378, gx_vref 139, trivial⟩ g128 (fun q hq => absurd hq List.not_mem_nil) E128
          have hn129 : n = rn129 := hn129.symm
          have hs129 : rs129 = 0 := hs129
          subst hn129 hs129
          have ho129 := List.mem_singleton.mp ho129
          subst ho129
          have hv129 : rv129 = none := by
            cases rv129 with
            | none => rfl
            | some w => exact ro129.elim
          subst hv129
          have e129 : ∀ c i, ¬ (378 ≤ c ∧ c ≤ 384) → ai_hv t129 c i = ai_hv t128 c i := fun c i h => fr129 c i (fun z => h (inw_rng (by decide) z))
          refine gx_callo (a := 378) rfl rfl g128 rfl rfl rfl r129 rfl ?_
          show en_ex _ _ _ _ (90, [(0, gx_r 0), (1, .inl 3), (2, .inl b)], [], t129, n, 0) _
          refine ex_go (S := (91, [(0, gx_r 0), (1, .inl 3), (2, .inl b)], [gx_r 0], t129, n, 0)) rfl (fun _ => rfl) rfl ?_
          refine gxo_ref (a := 0) (c := 138) rfl g129 rfl rfl rfl rfl rfl ?_
          refine ex_go (S := (95, [(0, gx_r 0), (1, .inl 3), (2, .inl b)], [.inl 3, gx_r 138], t129, n, 0)) rfl (fun _ => rfl) rfl ?_
          refine ex_go (S := (96, [(0, gx_r 0), (1, .inl 3), (2, .inl b)], [.inl 1, .inl 3, gx_r 138], t129, n, 0)) rfl (fun _ => rfl) rfl ?_
          refine gx_apv (d := 2) rfl (fun _ => rfl) g129 rfl rfl rfl (show 3 < 4 from by omega) rfl (ai_in_h (by first | decide | omega) (by first | decide | omega) (by first | decide | omega)) rfl (fun t130 g130 k130 e130 => ?_)
          refine ex_go (S := (98, [(0, gx_r 0), (1, .inl 3), (2, .inl b)], [.inl 1], t130, n, 0)) rfl (fun _ => rfl) rfl ?_
          refine ex_ret (r := (some (.inl 1), t130, n, 0)) rfl (fun _ => rfl) ?_
          refine ⟨_, rfl, 1, t130, rfl, fun _ => ⟨rfl, fun i hi => ?_⟩, fun h => absurd h (by first | decide | omega)⟩
          rcases (show i = 0 ∨ i = 1 ∨ i = 2 ∨ i = 3 by omega) with rfl | rfl | rfl | rfl
          · rw [if_neg (by decide)]; exact (e130 138 0 (by first | decide | omega)).trans ((e129 138 0 (by first | decide | omega)).trans ((e128 138 0 (by first | decide | omega)).trans (hF 0 (by first | decide | omega))))
          · rw [if_neg (by decide)]; exact (e130 138 1 (by first | decide | omega)).trans ((e129 138 1 (by first | decide | omega)).trans ((e128 138 1 (by first | decide | omega)).trans (hF 1 (by first | decide | omega))))
          · rw [if_neg (by decide)]; exact (e130 138 2 (by first | decide | omega)).trans ((e129 138 2 (by first | decide | omega)).trans ((e128 138 2 (by first | decide | omega)).trans (hF 2 (by first | decide | omega))))
          · rw [if_pos rfl]; exact k130
        · refine gx_1f (c := .eq) rfl (by first | decide | omega) hc27 rfl ?_
          refine ex_go (S := (29, [(0, gx_r 0), (1, .inl 3), (2, .inl b)], [gx_r 0], t0, n, 0)) rfl (fun _ => rfl) rfl ?_
          refine gxo_ref (a := 0) (c := 8) rfl g0 rfl rfl rfl rfl rfl ?_
          refine ex_go (S := (33, [(0, gx_r 0), (1, .inl 3), (2, .inl b)], [gx_r 0, gx_r 8], t0, n, 0)) rfl (fun _ => rfl) rfl ?_
          refine gxo_ref (a := 0) (c := 136) rfl g0 rfl rfl rfl rfl rfl ?_
          refine ex_go (S := (37, [(0, gx_r 0), (1, .inl 3), (2, .inl b)], [.inl 3, gx_r 136, gx_r 8], t0, n, 0)) rfl (fun _ => rfl) rfl ?_
          refine gx_ag (v := gx_r 371) (cb := fun c => Nat.ble 4 c && Nat.ble c 7) rfl (fun _ => rfl) g0 rfl rfl (gx_slr g0 rfl (by decide) rfl) (by first | decide | omega) rfl ?_
          obtain ⟨⟨rv131, t131, rn131, rs131⟩, r131, hn131, hs131, g131, fr131, E131, o131, ho131, ro131, hh131⟩ := ac_all (d + 1) 162 ce_162_39 (show ce_162_39 ∈ cm_162 from (List.mem_cons_of_mem _ (List.mem_cons_of_mem _ (List.mem_cons_of_mem _ (List.mem_cons_of_mem _ (List.mem_cons_of_mem _ (List.mem_cons_of_mem _ (List.mem_cons_of_mem _ (List.mem_cons_of_mem _ (List.mem_cons_of_mem _ (List.mem_cons_of_mem _ (List.mem_cons_of_mem _ (List.mem_cons_of_mem _ (List.mem_cons_of_mem _ (List.mem_cons_of_mem _ (List.mem_cons_of_mem _ (List.mem_cons_of_mem _ (List.mem_cons_of_mem _ (List.mem_cons_of_mem _ (List.mem_cons_of_mem _ (List.mem_cons_of_mem _ (List.mem_cons_of_mem _ (List.mem_cons_of_mem _ (List.mem_cons_of_mem _ (List.mem_cons_of_mem _ (List.mem_cons_of_mem _ (List.mem_cons_of_mem _ (List.mem_cons_of_mem _ (List.mem_cons_of_mem _ (List.mem_cons_of_mem _ (List.mem_cons_of_mem _ (List.mem_cons_of_mem _ (List.mem_cons_of_mem _ (List.mem_cons_of_mem _ (List.mem_cons_of_mem _ (List.mem_cons_of_mem _ (List.mem_cons_of_mem _ (List.mem_cons_of_mem _ (List.mem_cons_of_mem _ (List.mem_cons_of_mem _ List.mem_cons_self)))))))))))))))))))))))))))))))))))))))) (Nat.lt_of_lt_of_le (show ce_162_39.1 < 1 by decide) (by first | decide | omega)) (fun _ => 0) [gx_r 8, gx_r 371] t0 n ⟨gx_vref 8, gx_vref 371, trivial⟩ g0 (fun q hq => absurd hq List.not_mem_nil) hE
          have hn131 : n = rn131 := hn131.symm
          have hs131 : rs131 = 0 := hs131
          subst hn131 hs131
          have ho131 := List.mem_singleton.mp ho131
          subst ho131
          have hv131 : rv131 = none := by
            cases rv131 with
            | none => rfl
            | some w => exact ro131.elim
          subst hv131
          have e131 : ∀ c i, ¬ (8 ≤ c ∧ c ≤ 14) → ai_hv t131 c i = ai_hv t0 c i := fun c i h => fr131 c i (fun z => h (inw_rng (by decide) z))
          refine gx_callo (a := 8) rfl rfl g0 rfl rfl rfl r131 rfl ?_
          show en_ex _ _ _ _ (41, [(0, gx_r 0), (1, .inl 3), (2, .inl b)], [], t131, n, 0) _
          refine ex_go (S := (42, [(0, gx_r 0), (1, .inl 3), (2, .inl b)], [gx_r 0], t131, n, 0)) rfl (fun _ => rfl) rfl ?_
          refine gxo_ref (a := 0) (c := 139) rfl g131 rfl rfl rfl rfl rfl ?_
          refine ex_go (S := (46, [(0, gx_r 0), (1, .inl 3), (2, .inl b)], [gx_r 0, gx_r 139], t131, n, 0)) rfl (fun _ => rfl) rfl ?_
          refine gxo_ref (a := 0) (c := 137) rfl g131 rfl rfl rfl rfl rfl ?_
          refine ex_go (S := (50, [(0, gx_r 0), (1, .inl 3), (2, .inl b)], [.inl 3, gx_r 137, gx_r 139], t131, n, 0)) rfl (fun _ => rfl) rfl ?_
          refine gx_ag (v := gx_r 378) (cb := fun c => Nat.ble 4 c && Nat.ble c 7) rfl (fun _ => rfl) g131 rfl rfl (gx_slr g131 rfl (by decide) rfl) (by first | decide | omega) rfl ?_
          obtain ⟨⟨rv132, t132, rn132, rs132⟩, r132, hn132, hs132, g132, fr132, E132, o132, ho132, ro132, hh132⟩ := ac_all (d + 1) 170 ce_170_3 (show ce_170_3 ∈ cm_170 from (List.mem_cons_of_mem _ (List.mem_cons_of_mem _ (List.mem_cons_of_mem _ List.mem_cons_self)))) (Nat.lt_of_lt_of_le (show ce_170_3.1 < 1 by decide) (by first | decide | omega)) (fun _ => 0) [gx_r 139, gx_r 378] t131 n ⟨gx_vref 139, gx_vref 378, trivial⟩ g131 (fun q hq => absurd hq List.not_mem_nil) E131
          have hn132 : n = rn132 := hn132.symm
          have hs132 : rs132 = 0 := hs132
          subst hn132 hs132
          have ho132 := List.mem_singleton.mp ho132
          subst ho132
          have hv132 : rv132 = none := by
            cases rv132 with
            | none => rfl
            | some w => exact ro132.elim
          subst hv132
          have e132 : ∀ c i, ¬ (139 ≤ c ∧ c ≤ 145) → ai_hv t132 c i = ai_hv t131 c i := fun c i h => fr132 c i (fun z => h (inw_rng (by decide) z))
          refine gx_callo (a := 139) rfl rfl g131 rfl rfl rfl r132 rfl ?_
          show en_ex _ _ _ _ (54, [(0, gx_r 0), (1, .inl 3), (2, .inl b)], [], t132, n, 0) _
          refine ex_go (S := (55, [(0, gx_r 0), (1, .inl 3), (2, .inl b)], [gx_r 0], t132, n, 0)) rfl (fun _ => rfl) rfl ?_
          refine gxo_ref (a := 0) (c := 22) rfl g132 rfl rfl rfl rfl rfl ?_
          obtain ⟨_, r133, t133, rfl, g133, e133, -⟩ := pz_pclear d n g132
          refine gx_callo (a := 22) rfl rfl g132 rfl rfl rfl r133 rfl ?_
          show en_ex _ _ _ _ (61, [(0, gx_r 0), (1, .inl 3), (2, .inl b)], [], t133, n, 0) _
          refine ex_go (S := (97, [(0, gx_r 0), (1, .inl 3), (2, .inl b)], [], t133, n, 0)) rfl (fun _ => rfl) rfl ?_
          refine ex_go (S := (98, [(0, gx_r 0), (1, .inl 3), (2, .inl b)], [.inl 1], t133, n, 0)) rfl (fun _ => rfl) rfl ?_
          refine ex_ret (r := (some (.inl 1), t133, n, 0)) rfl (fun _ => rfl) ?_
          refine ⟨_, rfl, 1, t133, rfl, fun _ => ⟨rfl, fun i hi => ?_⟩, fun h => absurd h (by first | decide | omega)⟩
          rcases (show i = 0 ∨ i = 1 ∨ i = 2 ∨ i = 3 by omega) with rfl | rfl | rfl | rfl
          · rw [if_neg (by decide)]; exact (e133 138 0 (by first | decide | omega)).trans ((e132 138 0 (by first | decide | omega)).trans ((e131 138 0 (by first | decide | omega)).trans (hF 0 (by first | decide | omega))))
          · rw [if_neg (by decide)]; exact (e133 138 1 (by first | decide | omega)).trans ((e132 138 1 (by first | decide | omega)).trans ((e131 138 1 (by first | decide | omega)).trans (hF 1 (by first | decide | omega))))
          · rw [if_neg (by decide)]; exact (e133 138 2 (by first | decide | omega)).trans ((e132 138 2 (by first | decide | omega)).trans ((e131 138 2 (by first | decide | omega)).trans (hF 2 (by first | decide | omega))))
          · have h9 : F 3 = 1 := by omega
            have h8 := (e133 138 3 (by first | decide | omega)).trans ((e132 138 3 (by first | decide | omega)).trans ((e131 138 3 (by first | decide | omega)).trans (hF 3 (by first | decide | omega))))
            rw [h9] at h8
            rw [if_pos rfl]
            exact h8
    · refine gx_1f (c := .eq) rfl (by first | decide | omega) hc5 rfl ?_
      refine ex_go (S := (14, [(0, gx_r 0), (1, .inl m), (2, .inl b)], [gx_r 0], t0, n, 0)) rfl (fun _ => rfl) rfl ?_
      refine gxo_ref (a := 0) (c := 138) rfl g0 rfl rfl rfl rfl rfl ?_
      refine ex_go (S := (18, [(0, gx_r 0), (1, .inl m), (2, .inl b)], [.inl m, gx_r 138], t0, n, 0)) rfl (fun _ => rfl) rfl ?_
      have hf1 := hF1 m (by first | decide | omega)
      refine gx_ag (v := .inl (F m)) (cb := fun c => Nat.beq c 2 || Nat.beq c 1) rfl (fun _ => rfl) g0 rfl rfl (hF m (by first | decide | omega)) (by first | decide | omega) rfl ?_
      by_cases hc34 : F m ≠ 0
      · refine gx_1t (c := .ne) rfl (by first | decide | omega) hc34 rfl ?_
        rcases (show m = 0 ∨ m = 1 ∨ m = 2 ∨ m = 3 by omega) with rfl | rfl | rfl | rfl
        · refine ex_go (S := (25, [(0, gx_r 0), (1, .inl 0), (2, .inl b)], [.inl b], t0, n, 0)) rfl (fun _ => rfl) rfl ?_
          by_cases hc35 : b = 0
          · refine gx_1t (c := .eq) rfl (by first | decide | omega) hc35 rfl ?_
            refine ex_go (S := (65, [(0, gx_r 0), (1, .inl 0), (2, .inl b)], [gx_r 0], t0, n, 0)) rfl (fun _ => rfl) rfl ?_
            refine gxo_ref (a := 0) (c := 136) rfl g0 rfl rfl rfl rfl rfl ?_
            refine ex_go (S := (69, [(0, gx_r 0), (1, .inl 0), (2, .inl b)], [.inl 0, gx_r 136], t0, n, 0)) rfl (fun _ => rfl) rfl ?_
            refine gx_ag (v := gx_r 335) (cb := fun c => Nat.ble 4 c && Nat.ble c 7) rfl (fun _ => rfl) g0 rfl rfl (gx_slr g0 rfl (by decide) rfl) (by first | decide | omega) rfl ?_
            refine ex_go (S := (71, [(0, gx_r 0), (1, .inl 0), (2, .inl b)], [gx_r 0, gx_r 335], t0, n, 0)) rfl (fun _ => rfl) rfl ?_
            refine gxo_ref (a := 0) (c := 8) rfl g0 rfl rfl rfl rfl rfl ?_
            obtain ⟨⟨rv136, t136, rn136, rs136⟩, r136, hn136, hs136, g136, fr136, E136, o136, ho136, ro136, hh136⟩ := ac_all (d + 1) 162 ce_162_37 (show ce_162_37 ∈ cm_162 from (List.mem_cons_of_mem _ (List.mem_cons_of_mem _ (List.mem_cons_of_mem _ (List.mem_cons_of_mem _ (List.mem_cons_of_mem _ (List.mem_cons_of_mem _ (List.mem_cons_of_mem _ (List.mem_cons_of_mem _ (List.mem_cons_of_mem _ (List.mem_cons_of_mem _ (List.mem_cons_of_mem _ (List.mem_cons_of_mem _ (List.mem_cons_of_mem _ (List.mem_cons_of_mem _ (List.mem_cons_of_mem _ (List.mem_cons_of_mem _ (List.mem_cons_of_mem _ (List.mem_cons_of_mem _ (List.mem_cons_of_mem _ (List.mem_cons_of_mem _ (List.mem_cons_of_mem _ (List.mem_cons_of_mem _ (List.mem_cons_of_mem _ (List.mem_cons_of_mem _ (List.mem_cons_of_mem _ (List.mem_cons_of_mem _ (List.mem_cons_of_mem _ (List.mem_cons_of_mem _ (List.mem_cons_of_mem _ (List.mem_cons_of_mem _ (List.mem_cons_of_mem _ (List.mem_cons_of_mem _ (List.mem_cons_of_mem _ (List.mem_cons_of_mem _ (List.mem_cons_of_mem _ (List.mem_cons_of_mem _ (List.mem_cons_of_mem _ List.mem_cons_self)))))))))))))))))))))))))))))))))))))) (Nat.lt_of_lt_of_le (show ce_162_37.1 < 1 by decide) (by first | decide | omega)) (fun _ => 0) [gx_r 335, gx_r 8] t0 n ⟨gx_vref 335, gx_vref 8, trivial⟩ g0 (fun q hq => absurd hq List.not_mem_nil) hE
            have hn136 : n = rn136 := hn136.symm
            have hs136 : rs136 = 0 := hs136
            subst hn136 hs136
            have ho136 := List.mem_singleton.mp ho136
            subst ho136
            have hv136 : rv136 = none := by
              cases rv136 with
              | none => rfl
              | some w => exact ro136.elim
            subst hv136
            have e136 : ∀ c i, ¬ (335 ≤ c ∧ c ≤ 341) → ai_hv t136 c i = ai_hv t0 c i := fun c i h => fr136 c i (fun z => h (inw_rng (by decide) z))
            refine gx_callo (a := 335) rfl rfl g0 rfl rfl rfl r136 rfl ?_
            show en_ex _ _ _ _ (77, [(0, gx_r 0), (1, .inl 0), (2, .inl b)], [], t136, n, 0) _
            refine ex_go (S := (78, [(0, gx_r 0), (1, .inl 0), (2, .inl b)], [gx_r 0], t136, n, 0)) rfl (fun _ => rfl) rfl ?_
            refine gxo_ref (a := 0) (c := 137) rfl g136 rfl rfl rfl rfl rfl ?_
            refine ex_go (S := (82, [(0, gx_r 0), (1, .inl 0), (2, .inl b)], [.inl 0, gx_r 137], t136, n, 0)) rfl (fun _ => rfl) rfl ?_
            refine gx_ag (v := gx_r 342) (cb := fun c => Nat.ble 4 c && Nat.ble c 7) rfl (fun _ => rfl) g136 rfl rfl (gx_slr g136 rfl (by decide) rfl) (by first | decide | omega) rfl ?_
            refine ex_go (S := (84, [(0, gx_r 0), (1, .inl 0), (2, .inl b)], [gx_r 0, gx_r 342], t136, n, 0)) rfl (fun _ => rfl) rfl ?_
            refine gxo_ref (a := 0) (c := 139) rfl g136 rfl rfl rfl rfl rfl ?_
            obtain ⟨⟨rv137, t137, rn137, rs137⟩, r137, hn137, hs137, g137, fr137, E137, o137, ho137, ro137, hh137⟩ := ac_all (d + 1) 170 ce_170_2 (show ce_170_2 ∈ cm_170 from (List.mem_cons_of_mem _ (List.mem_cons_of_mem _ List.mem_cons_self))) (Nat.lt_of_lt_of_le (show ce_170_2.1 < 1 by decide) (by first | decide | omega)) (fun _ => 0) [gx_r 342, gx_r 139] t136 n ⟨gx_vref 342, gx_vref 139, trivial⟩ g136 (fun q hq => absurd hq List.not_mem_nil) E136
            have hn137 : n = rn137 := hn137.symm
            have hs137 : rs137 = 0 := hs137
            subst hn137 hs137
            have ho137 := List.mem_singleton.mp ho137
            subst ho137
            have hv137 : rv137 = none := by
              cases rv137 with
              | none => rfl
              | some w => exact ro137.elim
            subst hv137
            have e137 : ∀ c i, ¬ (342 ≤ c ∧ c ≤ 348) → ai_hv t137 c i = ai_hv t136 c i := fun c i h => fr137 c i (fun z => h (inw_rng (by decide) z))
            refine gx_callo (a := 342) rfl rfl g136 rfl rfl rfl r137 rfl ?_
            show en_ex _ _ _ _ (90, [(0, gx_r 0), (1, .inl 0), (2, .inl b)], [], t137, n, 0) _
            refine ex_go (S := (91, [(0, gx_r 0), (1, .inl 0), (2, .inl b)], [gx_r 0], t137, n, 0)) rfl (fun _ => rfl) rfl ?_
            refine gxo_ref (a := 0) (c := 138) rfl g137 rfl rfl rfl rfl rfl ?_
            refine ex_go (S := (95, [(0, gx_r 0), (1, .inl 0), (2, .inl b)], [.inl 0, gx_r 138], t137, n, 0)) rfl (fun _ => rfl) rfl ?_
            refine ex_go (S := (96, [(0, gx_r 0), (1, .inl 0), (2, .inl b)], [.inl 1, .inl 0, gx_r 138], t137, n, 0)) rfl (fun _ => rfl) rfl ?_
            refine gx_apv (d := 2) rfl (fun _ => rfl) g137 rfl rfl rfl (show 0 < 4 from by omega) rfl (ai_in_h (by first | decide | omega) (by first | decide | omega) (by first | decide | omega)) rfl (fun t138 g138 k138 e138 => ?_)
            refine ex_go (S := (98, [(0, gx_r 0), (1, .inl 0), (2, .inl b)], [.inl 1], t138, n, 0)) rfl (fun _ => rfl) rfl ?_
            refine ex_ret (r := (some (.inl 1), t138, n, 0)) rfl (fun _ => rfl) ?_
            refine ⟨_, rfl, 1, t138, rfl, fun _ => ⟨rfl, fun i hi => ?_⟩, fun h => absurd h (by first | decide | omega)⟩
            rcases (show i = 0 ∨ i = 1 ∨ i = 2 ∨ i = 3 by omega) with rfl | rfl | rfl | rfl
            · rw [if_pos rfl]; exact k138
            · rw [if_neg (by decide)]; exact (e138 138 1 (by first | decide | omega)).trans ((e137 138 1 (by first | decide | omega)).trans ((e136 138 1 (by first | decide | omega)).trans (hF 1 (by first | decide | omega))))
            · rw [if_neg (by decide)]; exact (e138 138 2 (by first | decide | omega)).trans ((e137 138 2 (by first | decide | omega)).trans ((e136 138 2 (by first | decide | omega)).trans (hF 2 (by first | decide | omega))))
            · rw [if_neg (by decide)]; exact (e138 138 3 (by first | decide | omega)).trans ((e137 138 3 (by first | decide | omega)).trans ((e136 138 3 (by first | decide | omega)).trans (hF 3 (by first | decide | omega))))
          · refine gx_1f (c := .eq) rfl (by first | decide | omega) hc35 rfl ?_
            refine ex_go (S := (29, [(0, gx_r 0), (1, .inl 0), (2, .inl b)], [gx_r 0], t0, n, 0)) rfl (fun _ => rfl) rfl ?_
            refine gxo_ref (a := 0) (c := 8) rfl g0 rfl rfl rfl rfl rfl ?_
            refine ex_go (S := (33, [(0, gx_r 0), (1, .inl 0), (2, .inl b)], [gx_r 0, gx_r 8], t0, n, 0)) rfl (fun _ => rfl) rfl ?_
            refine gxo_ref (a := 0) (c := 136) rfl g0 rfl rfl rfl rfl rfl ?_
            refine ex_go (S := (37, [(0, gx_r 0), (1, .inl 0), (2, .inl b)], [.inl 0, gx_r 136, gx_r 8], t0, n, 0)) rfl (fun _ => rfl) rfl ?_
            refine gx_ag (v := gx_r 335) (cb := fun c => Nat.ble 4 c && Nat.ble c 7) rfl (fun _ => rfl) g0 rfl rfl (gx_slr g0 rfl (by decide) rfl) (by first | decide | omega) rfl ?_
            obtain ⟨⟨rv139, t139, rn139, rs139⟩, r139, hn139, hs139, g139, fr139, E139, o139, ho139, ro139, hh139⟩ := ac_all (d + 1) 162 ce_162_33 (show ce_162_33 ∈ cm_162 from (List.mem_cons_of_mem _ (List.mem_cons_of_mem _ (List.mem_cons_of_mem _ (List.mem_cons_of_mem _ (List.mem_cons_of_mem _ (List.mem_cons_of_mem _ (List.mem_cons_of_mem _ (List.mem_cons_of_mem _ (List.mem_cons_of_mem _ (List.mem_cons_of_mem _ (List.mem_cons_of_mem _ (List.mem_cons_of_mem _ (List.mem_cons_of_mem _ (List.mem_cons_of_mem _ (List.mem_cons_of_mem _ (List.mem_cons_of_mem _ (List.mem_cons_of_mem _ (List.mem_cons_of_mem _ (List.mem_cons_of_mem _ (List.mem_cons_of_mem _ (List.mem_cons_of_mem _ (List.mem_cons_of_mem _ (List.mem_cons_of_mem _ (List.mem_cons_of_mem _ (List.mem_cons_of_mem _ (List.mem_cons_of_mem _ (List.mem_cons_of_mem _ (List.mem_cons_of_mem _ (List.mem_cons_of_mem _ (List.mem_cons_of_mem _ (List.mem_cons_of_mem _ (List.mem_cons_of_mem _ (List.mem_cons_of_mem _ List.mem_cons_self)))))))))))))))))))))))))))))))))) (Nat.lt_of_lt_of_le (show ce_162_33.1 < 1 by decide) (by first | decide | omega)) (fun _ => 0) [gx_r 8, gx_r 335] t0 n ⟨gx_vref 8, gx_vref 335, trivial⟩ g0 (fun q hq => absurd hq List.not_mem_nil) hE
            have hn139 : n = rn139 := hn139.symm
            have hs139 : rs139 = 0 := hs139
            subst hn139 hs139
            have ho139 := List.mem_singleton.mp ho139
            subst ho139
            have hv139 : rv139 = none := by
              cases rv139 with
              | none => rfl
              | some w => exact ro139.elim
            subst hv139
            have e139 : ∀ c i, ¬ (8 ≤ c ∧ c ≤ 14) → ai_hv t139 c i = ai_hv t0 c i := fun c i h => fr139 c i (fun z => h (inw_rng (by decide) z))
            refine gx_callo (a := 8) rfl rfl g0 rfl rfl rfl r139 rfl ?_
            show en_ex _ _ _ _ (41, [(0, gx_r 0), (1, .inl 0), (2, .inl b)], [], t139, n, 0) _
            refine ex_go (S := (42, [(0, gx_r 0), (1, .inl 0), (2, .inl b)], [gx_r 0], t139, n, 0)) rfl (fun _ => rfl) rfl ?_
            refine gxo_ref (a := 0) (c := 139) rfl g139 rfl rfl rfl rfl rfl ?_
            refine ex_go (S := (46, [(0, gx_r 0), (1, .inl 0), (2, .inl b)], [gx_r 0, gx_r 139], t139, n, 0)) rfl (fun _ => rfl) rfl ?_
            refine gxo_ref (a := 0) (c := 137) rfl g139 rfl rfl rfl rfl rfl ?_
            refine ex_go (S := (50, [(0, gx_r 0), (1, .inl 0), (2, .inl b)], [.inl 0, gx_r 137, gx_r 139], t139, n, 0)) rfl (fun _ => rfl) rfl ?_
            refine gx_ag (v := gx_r 342) (cb := fun c => Nat.ble 4 c && Nat.ble c 7) rfl (fun _ => rfl) g139 rfl rfl (gx_slr g139 rfl (by decide) rfl) (by first | decide | omega) rfl ?_
            obtain ⟨⟨rv140, t140, rn140, rs140⟩, r140, hn140, hs140, g140, fr140, E140, o140, ho140, ro140, hh140⟩ := ac_all (d + 1) 170 ce_170_1 (show ce_170_1 ∈ cm_170 from (List.mem_cons_of_mem _ List.mem_cons_self)) (Nat.lt_of_lt_of_le (show ce_170_1.1 < 1 by decide) (by first | decide | omega)) (fun _ => 0) [gx_r 139, gx_r 342] t139 n ⟨gx_vref 139, gx_vref 342, trivial⟩ g139 (fun q hq => absurd hq List.not_mem_nil) E139
            have hn140 : n = rn140 := hn140.symm
            have hs140 : rs140 = 0 := hs140
            subst hn140 hs140
            have ho140 := List.mem_singleton.mp ho140
            subst ho140
            have hv140 : rv140 = none := by
              cases rv140 with
              | none => rfl
              | some w => exact ro140.elim
            subst hv140
            have e140 : ∀ c i, ¬ (139 ≤ c ∧ c ≤ 145) → ai_hv t140 c i = ai_hv t139 c i := fun c i h => fr140 c i (fun z => h (inw_rng (by decide) z))
            refine gx_callo (a := 139) rfl rfl g139 rfl rfl rfl r140 rfl ?_
            show en_ex _ _ _ _ (54, [(0, gx_r 0), (1, .inl 0), (2, .inl b)], [], t140, n, 0) _
            refine ex_go (S := (55, [(0, gx_r 0), (1, .inl 0), (2, .inl b)], [gx_r 0], t140, n, 0)) rfl (fun _ => rfl) rfl ?_
            refine gxo_ref (a := 0) (c := 22) rfl g140 rfl rfl rfl rfl rfl ?_
            obtain ⟨_, r141, t141, rfl, g141, e141, -⟩ := pz_pclear d n g140
            refine gx_callo (a := 22) rfl rfl g140 rfl rfl rfl r141 rfl ?_
            show en_ex _ _ _ _ (61, [(0, gx_r 0), (1, .inl 0), (2, .inl b)], [], t141, n, 0) _
            refine ex_go (S := (97, [(0, gx_r 0), (1, .inl 0), (2, .inl b)], [], t141, n, 0)) rfl (fun _ => rfl) rfl ?_
            refine ex_go (S := (98, [(0, gx_r 0), (1, .inl 0), (2, .inl b)], [.inl 1], t141, n, 0)) rfl (fun _ => rfl) rfl ?_
            refine ex_ret (r := (some (.inl 1), t141, n, 0)) rfl (fun _ => rfl) ?_
            refine ⟨_, rfl, 1, t141, rfl, fun _ => ⟨rfl, fun i hi => ?_⟩, fun h => absurd h (by first | decide | omega)⟩
            rcases (show i = 0 ∨ i = 1 ∨ i = 2 ∨ i = 3 by omega) with rfl | rfl | rfl | rfl
            · have h9 : F 0 = 1 := by omega
              have h8 := (e141 138 0 (by first | decide | omega)).trans ((e140 138 0 (by first | decide | omega)).trans ((e139 138 0 (by first | decide | omega)).trans (hF 0 (by first | decide | omega))))
              rw [h9] at h8
              rw [if_pos rfl]
              exact h8
            · rw [if_neg (by decide)]; exact (e141 138 1 (by first | decide | omega)).trans ((e140 138 1 (by first | decide | omega)).trans ((e139 138 1 (by first | decide | omega)).trans (hF 1 (by first | decide | omega))))
            · rw [if_neg (by decide)]; exact (e141 138 2 (by first | decide | omega)).trans ((e140 138 2 (by first | decide | omega)).trans ((e139 138 2 (by first | decide | omega)).trans (hF 2 (by first | decide | omega))))
            · rw [if_neg (by decide)]; exact (e141 138 3 (by first | decide | omega)).trans ((e140 138 3 (by first | decide | omega)).trans ((e139 138 3 (by first | decide | omega)).trans (hF 3 (by first | decide | omega))))
        · refine ex_go (S := (25, [(0, gx_r 0), (1, .inl 1), (2, .inl b)], [.inl b], t0, n, 0)) rfl (fun _ => rfl) rfl ?_
          by_cases hc42 : b = 0
          · refine gx_1t (c := .eq) rfl (by first | decide | omega) hc42 rfl ?_
            refine ex_go (S := (65, [(0, gx_r 0), (1, .inl 1), (2, .inl b)], [gx_r 0], t0, n, 0)) rfl (fun _ => rfl) rfl ?_
            refine gxo_ref (a := 0) (c := 136) rfl g0 rfl rfl rfl rfl rfl ?_
            refine ex_go (S := (69, [(0, gx_r 0), (1, .inl 1), (2, .inl b)], [.inl 1, gx_r 136], t0, n, 0)) rfl (fun _ => rfl) rfl ?_
            refine gx_ag (v := gx_r 347) (cb := fun c => Nat.ble 4 c && Nat.ble c 7) rfl (fun _ => rfl) g0 rfl rfl (gx_slr g0 rfl (by decide) rfl) (by first | decide | omega) rfl ?_
            refine ex_go (S := (71, [(0, gx_r 0), (1, .inl 1), (2, .inl b)], [gx_r 0, gx_r 347], t0, n, 0)) rfl (fun _ => rfl) rfl ?_
            refine gxo_ref (a := 0) (c := 8) rfl g0 rfl rfl rfl rfl rfl ?_
            obtain ⟨⟨rv143, t143, rn143, rs143⟩, r143, hn143, hs143, g143, fr143, E143, o143, ho143, ro143, hh143⟩ := ac_all (d + 1) 162 ce_162_40 (show ce_162_40 ∈ cm_162 from (List.mem_cons_of_mem _ (List.mem_cons_of_mem _ (List.mem_cons_of_mem _ (List.mem_cons_of_mem _ (List.mem_cons_of_mem _ (List.mem_cons_of_mem _ (List.mem_cons_of_mem _ (List.mem_cons_of_mem _ (List.mem_cons_of_mem _ (List.mem_cons_of_mem _ (List.mem_cons_of_mem _ (List.mem_cons_of_mem _ (List.mem_cons_of_mem _ (List.mem_cons_of_mem _ (List.mem_cons_of_mem _ (List.mem_cons_of_mem _ (List.mem_cons_of_mem _ (List.mem_cons_of_mem _ (List.mem_cons_of_mem _ (List.mem_cons_of_mem _ (List.mem_cons_of_mem _ (List.mem_cons_of_mem _ (List.mem_cons_of_mem _ (List.mem_cons_of_mem _ (List.mem_cons_of_mem _ (List.mem_cons_of_mem _ (List.mem_cons_of_mem _ (List.mem_cons_of_mem _ (List.mem_cons_of_mem _ (List.mem_cons_of_mem _ (List.mem_cons_of_mem _ (List.mem_cons_of_mem _ (List.mem_cons_of_mem _ (List.mem_cons_of_mem _ (List.mem_cons_of_mem _ (List.mem_cons_of_mem _ (List.mem_cons_of_mem _ (List.mem_cons_of_mem _ (List.mem_cons_of_mem _ (List.mem_cons_of_mem _ List.mem_cons_self))))))))))))))))))))))))))))))))))))))))) (Nat.lt_of_lt_of_le (show ce_162_40.1 < 1 by decide) (by first | decide | omega)) (fun _ => 0) [gx_r 347, gx_r 8] t0 n ⟨gx_vref 347, gx_vref 8, trivial⟩ g0 (fun q hq => absurd hq List.not_mem_nil) hE
            have hn143 : n = rn143 := hn143.symm
            have hs143 : rs143 = 0 := hs143
            subst hn143 hs143
            have ho143 := List.mem_singleton.mp ho143
            subst ho143
            have hv143 : rv143 = none := by
              cases rv143 with
              | none => rfl
              | some w => exact ro143.elim
            subst hv143
            have e143 : ∀ c i, ¬ (347 ≤ c ∧ c ≤ 353) → ai_hv t143 c i = ai_hv t0 c i := fun c i h => fr143 c i (fun z => h (inw_rng (by decide) z))
            refine gx_callo (a := 347) rfl rfl g0 rfl rfl rfl r143 rfl ?_
            show en_ex _ _ _ _ (77, [(0, gx_r 0), (1, .inl 1), (2, .inl b)], [], t143, n, 0) _
            refine ex_go (S := (78, [(0, gx_r 0), (1, .inl 1), (2, .inl b)], [gx_r 0], t143, n, 0)) rfl (fun _ => rfl) rfl ?_
            refine gxo_ref (a := 0) (c := 137) rfl g143 rfl rfl rfl rfl rfl ?_
            refine ex_go (S := (82, [(0, gx_r 0), (1, .inl 1), (2, .inl b)], [.inl 1, gx_r 137], t143, n, 0)) rfl (fun _ => rfl) rfl ?_
            refine gx_ag (v := gx_r 354) (cb := fun c => Nat.ble 4 c && Nat.ble c 7) rfl (fun _ => rfl) g143 rfl rfl (gx_slr g143 rfl (by decide) rfl) (by first | decide | omega) rfl ?_
            refine ex_go (S := (84, [(0, gx_r 0), (1, .inl 1), (2, .inl b)], [gx_r 0, gx_r 354], t143, n, 0)) rfl (fun _ => rfl) rfl ?_
            refine gxo_ref (a := 0) (c := 139) rfl g143 rfl rfl rfl rfl rfl ?_
            obtain ⟨⟨rv144, t144, rn144, rs144⟩, r144, hn144, hs144, g144, fr144, E144, o144, ho144, ro144, hh144⟩ := ac_all (d + 1) 170 ce_170_6 (show ce_170_6 ∈ cm_170 from (List.mem_cons_of_mem _ (List.mem_cons_of_mem _ (List.mem_cons_of_mem _ (List.mem_cons_of_mem _ (List.mem_cons_of_mem _ (List.mem_cons_of_mem _ List.mem_cons_self))))))) (Nat.lt_of_lt_of_le (show ce_170_6.1 < 1 by decide) (by first | decide | omega)) (fun _ => 0) [gx_r 354, gx_r 139] t143 n ⟨gx_vref 354, gx_vref 139, trivial⟩ g143 (fun q hq => absurd hq List.not_mem_nil) E143
            have hn144 : n = rn144 := hn144.symm
            have hs144 : rs144 = 0 := hs144
            subst hn144 hs144
            have ho144 := List.mem_singleton.mp ho144
            subst ho144
            have hv144 : rv144 = none := by
              cases rv144 with
              | none => rfl
              | some w => exact ro144.elim
            subst hv144
            have e144 : ∀ c i, ¬ (354 ≤ c ∧ c ≤ 360) → ai_hv t144 c i = ai_hv t143 c i := fun c i h => fr144 c i (fun z => h (inw_rng (by decide) z))
            refine gx_callo (a := 354) rfl rfl g143 rfl rfl rfl r144 rfl ?_
            show en_ex _ _ _ _ (90, [(0, gx_r 0), (1, .inl 1), (2, .inl b)], [], t144, n, 0) _
            refine ex_go (S := (91, [(0, gx_r 0), (1, .inl 1), (2, .inl b)], [gx_r 0], t144, n, 0)) rfl (fun _ => rfl) rfl ?_
            refine gxo_ref (a := 0) (c := 138) rfl g144 rfl rfl rfl rfl rfl ?_
            refine ex_go (S := (95, [(0, gx_r 0), (1, .inl 1), (2, .inl b)], [.inl 1, gx_r 138], t144, n, 0)) rfl (fun _ => rfl) rfl ?_
            refine ex_go (S := (96, [(0, gx_r 0), (1, .inl 1), (2, .inl b)], [.inl 1, .inl 1, gx_r 138], t144, n, 0)) rfl (fun _ => rfl) rfl ?_
            refine gx_apv (d := 2) rfl (fun _ => rfl) g144 rfl rfl rfl (show 1 < 4 from by omega) rfl (ai_in_h (by first | decide | omega) (by first | decide | omega) (by first | decide | omega)) rfl (fun t145 g145 k145 e145 => ?_)
            refine ex_go (S := (98, [(0, gx_r 0), (1, .inl 1), (2, .inl b)], [.inl 1], t145, n, 0)) rfl (fun _ => rfl) rfl ?_
            refine ex_ret (r := (some (.inl 1), t145, n, 0)) rfl (fun _ => rfl) ?_
            refine ⟨_, rfl, 1, t145, rfl, fun _ => ⟨rfl, fun i hi => ?_⟩, fun h => absurd h (by first | decide | omega)⟩
            rcases (show i = 0 ∨ i = 1 ∨ i = 2 ∨ i = 3 by omega) with rfl | rfl | rfl | rfl
            · rw [if_neg (by decide)]; exact (e145 138 0 (by first | decide | omega)).trans ((e144 138 0 (by first | decide | omega)).trans ((e143 138 0 (by first | decide | omega)).trans (hF 0 (by first | decide | omega))))
            · rw [if_pos rfl]; exact k145
            · rw [if_neg (by decide)]; exact (e145 138 2 (by first | decide | omega)).trans ((e144 138 2 (by first | decide | omega)).trans ((e143 138 2 (by first | decide | omega)).trans (hF 2 (by first | decide | omega))))
            · rw [if_neg (by decide)]; exact (e145 138 3 (by first | decide | omega)).trans ((e144 138 3 (by first | decide | omega)).trans ((e143 138 3 (by first | decide | omega)).trans (hF 3 (by first | decide | omega))))
          · refine gx_1f (c := .eq) rfl (by first | decide | omega) hc42 rfl ?_
            refine ex_go (S := (29, [(0, gx_r 0), (1, .inl 1), (2, .inl b)], [gx_r 0], t0, n, 0)) rfl (fun _ => rfl) rfl ?_
            refine gxo_ref (a := 0) (c := 8) rfl g0 rfl rfl rfl rfl rfl ?_
            refine ex_go (S := (33, [(0, gx_r 0), (1, .inl 1), (2, .inl b)], [gx_r 0, gx_r 8], t0, n, 0)) rfl (fun _ => rfl) rfl ?_
            refine gxo_ref (a := 0) (c := 136) rfl g0 rfl rfl rfl rfl rfl ?_
            refine ex_go (S := (37, [(0, gx_r 0), (1, .inl 1), (2, .inl b)], [.inl 1, gx_r 136, gx_r 8], t0, n, 0)) rfl (fun _ => rfl) rfl ?_
            refine gx_ag (v := gx_r 347) (cb := fun c => Nat.ble 4 c && Nat.ble c 7) rfl (fun _ => rfl) g0 rfl rfl (gx_slr g0 rfl (by decide) rfl) (by first | decide | omega) rfl ?_
            obtain ⟨⟨rv146, t146, rn146, rs146⟩, r146, hn146, hs146, g146, fr146, E146, o146, ho146, ro146, hh146⟩ := ac_all (d + 1) 162 ce_162_34 (show ce_162_34 ∈ cm_162 from (List.mem_cons_of_mem _ (List.mem_cons_of_mem _ (List.mem_cons_of_mem _ (List.mem_cons_of_mem _ (List.mem_cons_of_mem _ (List.mem_cons_of_mem _ (List.mem_cons_of_mem _ (List.mem_cons_of_mem _ (List.mem_cons_of_mem _ (List.mem_cons_of_mem _ (List.mem_cons_of_mem _ (List.mem_cons_of_mem _ (List.mem_cons_of_mem _ (List.mem_cons_of_mem _ (List.mem_cons_of_mem _ (List.mem_cons_of_mem _ (List.mem_cons_of_mem _ (List.mem_cons_of_mem _ (List.mem_cons_of_mem _ (List.mem_cons_of_mem _ (List.mem_cons_of_mem _ (List.mem_cons_of_mem _ (List.mem_cons_of_mem _ (List.mem_cons_of_mem _ (List.mem_cons_of_mem _ (List.mem_cons_of_mem _ (List.mem_cons_of_mem _ (List.mem_cons_of_mem _ (List.mem_cons_of_mem _ (List.mem_cons_of_mem _ (List.mem_cons_of_mem _ (List.mem_cons_of_mem _ (List.mem_cons_of_mem _ (List.mem_cons_of_mem _ List.mem_cons_self))))))))))))))))))))))))))))))))))) (Nat.lt_of_lt_of_le (show ce_162_34.1 < 1 by decide) (by first | decide | omega)) (fun _ => 0) [gx_r 8, gx_r 347] t0 n ⟨gx_vref 8, gx_vref 347, trivial⟩ g0 (fun q hq => absurd hq List.not_mem_nil) hE
            have hn146 : n = rn146 := hn146.symm
            have hs146 : rs146 = 0 := hs146
            subst hn146 hs146
            have ho146 := List.mem_singleton.mp ho146
            subst ho146
            have hv146 : rv146 = none := by
              cases rv146 with
              | none => rfl
              | some w => exact ro146.elim
            subst hv146
            have e146 : ∀ c i, ¬ (8 ≤ c ∧ c ≤ 14) → ai_hv t146 c i = ai_hv t0 c i := fun c i h => fr146 c i (fun z => h (inw_rng (by decide) z))
            refine gx_callo (a := 8) rfl rfl g0 rfl rfl rfl r146 rfl ?_
            show en_ex _ _ _ _ (41, [(0, gx_r 0), (1, .inl 1), (2, .inl b)], [], t146, n, 0) _
            refine ex_go (S := (42, [(0, gx_r 0), (1, .inl 1), (2, .inl b)], [gx_r 0], t146, n, 0)) rfl (fun _ => rfl) rfl ?_
            refine gxo_ref (a := 0) (c := 139) rfl g146 rfl rfl rfl rfl rfl ?_
            refine ex_go (S := (46, [(0, gx_r 0), (1, .inl 1), (2, .inl b)], [gx_r 0, gx_r 139], t146, n, 0)) rfl (fun _ => rfl) rfl ?_
            refine gxo_ref (a := 0) (c := 137) rfl g146 rfl rfl rfl rfl rfl ?_
            refine ex_go (S := (50, [(0, gx_r 0), (1, .inl 1), (2, .inl b)], [.inl 1, gx_r 137, gx_r 139], t146, n, 0)) rfl (fun _ => rfl) rfl ?_
            refine gx_ag (v := gx_r 354) (cb := fun c => Nat.ble 4 c && Nat.ble c 7) rfl (fun _ => rfl) g146 rfl rfl (gx_slr g146 rfl (by decide) rfl) (by first | decide | omega) rfl ?_
            obtain ⟨⟨rv147, t147, rn147, rs147⟩, r147, hn147, hs147, g147, fr147, E147, o147, ho147, ro147, hh147⟩ := ac_all (d + 1) 170 ce_170_7 (show ce_170_7 ∈ cm_170 from (List.mem_cons_of_mem _ (List.mem_cons_of_mem _ (List.mem_cons_of_mem _ (List.mem_cons_of_mem _ (List.mem_cons_of_mem _ (List.mem_cons_of_mem _ (List.mem_cons_of_mem _ List.mem_cons_self)))))))) (Nat.lt_of_lt_of_le (show ce_170_7.1 < 1 by decide) (by first | decide | omega)) (fun _ => 0) [gx_r 139, gx_r 354] t146 n ⟨gx_vref 139, gx_vref 354, trivial⟩ g146 (fun q hq => absurd hq List.not_mem_nil) E146
            have hn147 : n = rn147 := hn147.symm
            have hs147 : rs147 = 0 := hs147
            subst hn147 hs147
            have ho147 := List.mem_singleton.mp ho147
            subst ho147
            have hv147 : rv147 = none := by
              cases rv147 with
              | none => rfl
              | some w => exact ro147.elim
            subst hv147
            have e147 : ∀ c i, ¬ (139 ≤ c ∧ c ≤ 145) → ai_hv t147 c i = ai_hv t146 c i := fun c i h => fr147 c i (fun z => h (inw_rng (by decide) z))
            refine gx_callo (a := 139) rfl rfl g146 rfl rfl rfl r147 rfl ?_
            show en_ex _ _ _ _ (54, [(0, gx_r 0), (1, .inl 1), (2, .inl b)], [], t147, n, 0) _
            refine ex_go (S := (55, [(0, gx_r 0), (1, .inl 1), (2, .inl b)], [gx_r 0], t147, n, 0)) rfl (fun _ => rfl) rfl ?_
            refine gxo_ref (a := 0) (c := 22) rfl g147 rfl rfl rfl rfl rfl ?_
            obtain ⟨_, r148, t148, rfl, g148, e148, -⟩ := pz_pclear d n g147
            refine gx_callo (a := 22) rfl rfl g147 rfl rfl rfl r148 rfl ?_
            show en_ex _ _ _ _ (61, [(0, gx_r 0), (1, .inl 1), (2, .inl b)], [], t148, n, 0) _
            refine ex_go (S := (97, [(0, gx_r 0), (1, .inl 1), (2, .inl b)], [], t148, n, 0)) rfl (fun _ => rfl) rfl ?_
            refine ex_go (S := (98, [(0, gx_r 0), (1, .inl 1), (2, .inl b)], [.inl 1], t148, n, 0)) rfl (fun _ => rfl) rfl ?_
            refine ex_ret (r := (some (.inl 1), t148, n, 0)) rfl (fun _ => rfl) ?_
            refine ⟨_, rfl, 1, t148, rfl, fun _ => ⟨rfl, fun i hi => ?_⟩, fun h => absurd h (by first | decide | omega)⟩
            rcases (show i = 0 ∨ i = 1 ∨ i = 2 ∨ i = 3 by omega) with rfl | rfl | rfl | rfl
            · rw [if_neg (by decide)]; exact (e148 138 0 (by first | decide | omega)).trans ((e147 138 0 (by first | decide | omega)).trans ((e146 138 0 (by first | decide | omega)).trans (hF 0 (by first | decide | omega))))
            · have h9 : F 1 = 1 := by omega
              have h8 := (e148 138 1 (by first | decide | omega)).trans ((e147 138 1 (by first | decide | omega)).trans ((e146 138 1 (by first | decide | omega)).trans (hF 1 (by first | decide | omega))))
              rw [h9] at h8
              rw [if_pos rfl]
              exact h8
            · rw [if_neg (by decide)]; exact (e148 138 2 (by first | decide | omega)).trans ((e147 138 2 (by first | decide | omega)).trans ((e146 138 2 (by first | decide | omega)).trans (hF 2 (by first | decide | omega))))
            · rw [if_neg (by decide)]; exact (e148 138 3 (by first | decide | omega)).trans ((e147 138 3 (by first | decide | omega)).trans ((e146 138 3 (by first | decide | omega)).trans (hF 3 (by first | decide | omega))))
        · refine ex_go (S := (25, [(0, gx_r 0), (1, .inl 2), (2, .inl b)], [.inl b], t0, n, 0)) rfl (fun _ => rfl) rfl ?_
          by_cases hc49 : b = 0
          · refine gx_1t (c := .eq) rfl (by first | decide | omega) hc49 rfl ?_
            refine ex_go (S := (65, [(0, gx_r 0), (1, .inl 2), (2, .inl b)], [gx_r 0], t0, n, 0)) rfl (fun _ => rfl) rfl ?_
            refine gxo_ref (a := 0) (c := 136) rfl g0 rfl rfl rfl rfl rfl ?_
            refine ex_go (S := (69, [(0, gx_r 0), (1, .inl 2), (2, .inl b)], [.inl 2, gx_r 136], t0, n, 0)) rfl (fun _ => rfl) rfl ?_
            refine gx_ag (v := gx_r 359) (cb := fun c => Nat.ble 4 c && Nat.ble c 7) rfl (fun _ => rfl) g0 rfl rfl (gx_slr g0 rfl (by decide) rfl) (by first | decide | omega) rfl ?_
            refine ex_go (S := (71, [(0, gx_r 0), (1, .inl 2), (2, .inl b)], [gx_r 0, gx_r 359], t0, n, 0)) rfl (fun _ => rfl) rfl ?_
            refine gxo_ref (a := 0) (c := 8) rfl g0 rfl rfl rfl rfl rfl ?_
            obtain ⟨⟨rv150, t150, rn150, rs150⟩, r150, hn150, hs150, g150, fr150, E150, o150, ho150, ro150, hh150⟩ := ac_all (d + 1) 162 ce_162_38 (show ce_162_38 ∈ cm_162 from (List.mem_cons_of_mem _ (List.mem_cons_of_mem _ (List.mem_cons_of_mem _ (List.mem_cons_of_mem _ (List.mem_cons_of_mem _ (List.mem_cons_of_mem _ (List.mem_cons_of_mem _ (List.mem_cons_of_mem _ (List.mem_cons_of_mem _ (List.mem_cons_of_mem _ (List.mem_cons_of_mem _ (List.mem_cons_of_mem _ (List.mem_cons_of_mem _ (List.mem_cons_of_mem _ (List.mem_cons_of_mem _ (List.mem_cons_of_mem _ (List.mem_cons_of_mem _ (List.mem_cons_of_mem _ (List.mem_cons_of_mem _ (List.mem_cons_of_mem _ (List.mem_cons_of_mem _ (List.mem_cons_of_mem _ (List.mem_cons_of_mem _ (List.mem_cons_of_mem _ (List.mem_cons_of_mem _ (List.mem_cons_of_mem _ (List.mem_cons_of_mem _ (List.mem_cons_of_mem _ (List.mem_cons_of_mem _ (List.mem_cons_of_mem _ (List.mem_cons_of_mem _ (List.mem_cons_of_mem _ (List.mem_cons_of_mem _ (List.mem_cons_of_mem _ (List.mem_cons_of_mem _ (List.mem_cons_of_mem _ (List.mem_cons_of_mem _ (List.mem_cons_of_mem _ List.mem_cons_self))))))))))))))))))))))))))))))))))))))) (Nat.lt_of_lt_of_le (show ce_162_38.1 < 1 by decide) (by first | decide | omega)) (fun _ => 0) [gx_r 359, gx_r 8] t0 n ⟨gx_vref 359, gx_vref 8, trivial⟩ g0 (fun q hq => absurd hq List.not_mem_nil) hE
            have hn150 : n = rn150 := hn150.symm
            have hs150 : rs150 = 0 := hs150
            subst hn150 hs150
            have ho150 := List.mem_singleton.mp ho150
            subst ho150
            have hv150 : rv150 = none := by
              cases rv150 with
              | none => rfl
              | some w => exact ro150.elim
            subst hv150
            have e150 : ∀ c i, ¬ (359 ≤ c ∧ c ≤ 365) → ai_hv t150 c i = ai_hv t0 c i := fun c i h => fr150 c i (fun z => h (inw_rng (by decide) z))
            refine gx_callo (a := 359) rfl rfl g0 rfl rfl rfl r150 rfl ?_
            show en_ex _ _ _ _ (77, [(0, gx_r 0), (1, .inl 2), (2, .inl b)], [], t150, n, 0) _
            refine ex_go (S := (78, [(0, gx_r 0), (1, .inl 2), (2, .inl b)], [gx_r 0], t150, n, 0)) rfl (fun _ => rfl) rfl ?_
            refine gxo_ref (a := 0) (c := 137) rfl g150 rfl rfl rfl rfl rfl ?_
            refine ex_go (S := (82, [(0, gx_r 0), (1, .inl 2), (2, .inl b)], [.inl 2, gx_r 137], t150, n, 0)) rfl (fun _ => rfl) rfl ?_
            refine gx_ag (v := gx_r 366) (cb := fun c => Nat.ble 4 c && Nat.ble c 7) rfl (fun _ => rfl) g150 rfl rfl (gx_slr g150 rfl (by decide) rfl) (by first | decide | omega) rfl ?_
            refine ex_go (S := (84, [(0, gx_r 0), (1, .inl 2), (2, .inl b)], [gx_r 0, gx_r 366], t150, n, 0)) rfl (fun _ => rfl) rfl ?_
            refine gxo_ref (a := 0) (c := 139) rfl g150 rfl rfl rfl rfl rfl ?_
            obtain ⟨⟨rv151, t151, rn151, rs151⟩, r151, hn151, hs151, g151, fr151, E151, o151, ho151, ro151, hh151⟩ := ac_all (d + 1) 170 ce_170_4 (show ce_170_4 ∈ cm_170 from (List.mem_cons_of_mem _ (List.mem_cons_of_mem _ (List.mem_cons_of_mem _ (List.mem_cons_of_mem _ List.mem_cons_self))))) (Nat.lt_of_lt_of_le (show ce_170_4.1 < 1 by decide) (by first | decide | omega)) (fun _ => 0) [gx_r 366, gx_r 139] t150 n ⟨gx_vref 366, gx_vref 139, trivial⟩ g150 (fun q hq => absurd hq List.not_mem_nil) E150
            have hn151 : n = rn151 := hn151.symm
            have hs151 : rs151 = 0 := hs151
            subst hn151 hs151
            have ho151 := List.mem_singleton.mp ho151
            subst ho151
            have hv151 : rv151 = none := by
              cases rv151 with
              | none => rfl
              | some w => exact ro151.elim
            subst hv151
            have e151 : ∀ c i, ¬ (366 ≤ c ∧ c ≤ 372) → ai_hv t151 c i = ai_hv t150 c i := fun c i h => fr151 c i (fun z => h (inw_rng (by decide) z))
            refine gx_callo (a := 366) rfl rfl g150 rfl rfl rfl r151 rfl ?_
            show en_ex _ _ _ _ (90, [(0, gx_r 0), (1, .inl 2), (2, .inl b)], [], t151, n, 0) _
            refine ex_go (S := (91, [(0, gx_r 0), (1, .inl 2), (2, .inl b)], [gx_r 0], t151, n, 0)) rfl (fun _ => rfl) rfl ?_
            refine gxo_ref (a := 0) (c := 138) rfl g151 rfl rfl rfl rfl rfl ?_
            refine ex_go (S := (95, [(0, gx_r 0), (1, .inl 2), (2, .inl b)], [.inl 2, gx_r 138], t151, n, 0)) rfl (fun _ => rfl) rfl ?_
            refine ex_go (S := (96, [(0, gx_r 0), (1, .inl 2), (2, .inl b)], [.inl 1, .inl 2, gx_r 138], t151, n, 0)) rfl (fun _ => rfl) rfl ?_
            refine gx_apv (d := 2) rfl (fun _ => rfl) g151 rfl rfl rfl (show 2 < 4 from by omega) rfl (ai_in_h (by first | decide | omega) (by first | decide | omega) (by first | decide | omega)) rfl (fun t152 g152 k152 e152 => ?_)
            refine ex_go (S := (98, [(0, gx_r 0), (1, .inl 2), (2, .inl b)], [.inl 1], t152, n, 0)) rfl (fun _ => rfl) rfl ?_
            refine ex_ret (r := (some (.inl 1), t152, n, 0)) rfl (fun _ => rfl) ?_
            refine ⟨_, rfl, 1, t152, rfl, fun _ => ⟨rfl, fun i hi => ?_⟩, fun h => absurd h (by first | decide | omega)⟩
            rcases (show i = 0 ∨ i = 1 ∨ i = 2 ∨ i = 3 by omega) with rfl | rfl | rfl | rfl
            · rw [if_neg (by decide)]; exact (e152 138 0 (by first | decide | omega)).trans ((e151 138 0 (by first | decide | omega)).trans ((e150 138 0 (by first | decide | omega)).trans (hF 0 (by first | decide | omega))))
            · rw [if_neg (by decide)]; exact (e152 138 1 (by first | decide | omega)).trans ((e151 138 1 (by first | decide | omega)).trans ((e150 138 1 (by first | decide | omega)).trans (hF 1 (by first | decide | omega))))
            · rw [if_pos rfl]; exact k152
            · rw [if_neg (by decide)]; exact (e152 138 3 (by first | decide | omega)).trans ((e151 138 3 (by first | decide | omega)).trans ((e150 138 3 (by first | decide | omega)).trans (hF 3 (by first | decide | omega))))
          · refine gx_1f (c := .eq) rfl (by first | decide | omega) hc49 rfl ?_
            refine ex_go (S := (29, [(0, gx_r 0), (1, .inl 2), (2, .inl b)], [gx_r 0], t0, n, 0)) rfl (fun _ => rfl) rfl ?_
            refine gxo_ref (a := 0) (c := 8) rfl g0 rfl rfl rfl rfl rfl ?_
            refine ex_go (S := (33, [(0, gx_r 0), (1, .inl 2), (2, .inl b)], [gx_r 0, gx_r 8], t0, n, 0)) rfl (fun _ => rfl) rfl ?_
            refine gxo_ref (a := 0) (c := 136) rfl g0 rfl rfl rfl rfl rfl ?_
            refine ex_go (S := (37, [(0, gx_r 0), (1, .inl 2), (2, .inl b)], [.inl 2, gx_r 136, gx_r 8], t0, n, 0)) rfl (fun _ => rfl) rfl ?_
            refine gx_ag (v := gx_r 359) (cb := fun c => Nat.ble 4 c && Nat.ble c 7) rfl (fun _ => rfl) g0 rfl rfl (gx_slr g0 rfl (by decide) rfl) (by first | decide | omega) rfl ?_
            obtain ⟨⟨rv153, t153, rn153, rs153⟩, r153, hn153, hs153, g153, fr153, E153, o153, ho153, ro153, hh153⟩ := ac_all (d + 1) 162 ce_162_35 (show ce_162_35 ∈ cm_162 from (List.mem_cons_of_mem _ (List.mem_cons_of_mem _ (List.mem_cons_of_mem _ (List.mem_cons_of_mem _ (List.mem_cons_of_mem _ (List.mem_cons_of_mem _ (List.mem_cons_of_mem _ (List.mem_cons_of_mem _ (List.mem_cons_of_mem _ (List.mem_cons_of_mem _ (List.mem_cons_of_mem _ (List.mem_cons_of_mem _ (List.mem_cons_of_mem _ (List.mem_cons_of_mem _ (List.mem_cons_of_mem _ (List.mem_cons_of_mem _ (List.mem_cons_of_mem _ (List.mem_cons_of_mem _ (List.mem_cons_of_mem _ (List.mem_cons_of_mem _ (List.mem_cons_of_mem _ (List.mem_cons_of_mem _ (List.mem_cons_of_mem _ (List.mem_cons_of_mem _ (List.mem_cons_of_mem _ (List.mem_cons_of_mem _ (List.mem_cons_of_mem _ (List.mem_cons_of_mem _ (List.mem_cons_of_mem _ (List.mem_cons_of_mem _ (List.mem_cons_of_mem _ (List.mem_cons_of_mem _ (List.mem_cons_of_mem _ (List.mem_cons_of_mem _ (List.mem_cons_of_mem _ List.mem_cons_self)))))))))))))))))))))))))))))))))))) (Nat.lt_of_lt_of_le (show ce_162_35.1 < 1 by decide) (by first | decide | omega)) (fun _ => 0) [gx_r 8, gx_r 359] t0 n ⟨gx_vref 8, gx_vref 359, trivial⟩ g0 (fun q hq => absurd hq List.not_mem_nil) hE
            have hn153 : n = rn153 := hn153.symm
            have hs153 : rs153 = 0 := hs153
            subst hn153 hs153
            have ho153 := List.mem_singleton.mp ho153
            subst ho153
            have hv153 : rv153 = none := by
              cases rv153 with
              | none => rfl
              | some w => exact ro153.elim
            subst hv153
            have e153 : ∀ c i, ¬ (8 ≤ c ∧ c ≤ 14) → ai_hv t153 c i = ai_hv t0 c i := fun c i h => fr153 c i (fun z => h (inw_rng (by decide) z))
            refine gx_callo (a := 8) rfl rfl g0 rfl rfl rfl r153 rfl ?_
            show en_ex _ _ _ _ (41, [(0, gx_r 0), (1, .inl 2), (2, .inl b)], [], t153, n, 0) _
            refine ex_go (S := (42, [(0, gx_r 0), (1, .inl 2), (2, .inl b)], [gx_r 0], t153, n, 0)) rfl (fun _ => rfl) rfl ?_
            refine gxo_ref (a := 0) (c := 139) rfl g153 rfl rfl rfl rfl rfl ?_
            refine ex_go (S := (46, [(0, gx_r 0), (1, .inl 2), (2, .inl b)], [gx_r 0, gx_r 139], t153, n, 0)) rfl (fun _ => rfl) rfl ?_
            refine gxo_ref (a := 0) (c := 137) rfl g153 rfl rfl rfl rfl rfl ?_
            refine ex_go (S := (50, [(0, gx_r 0), (1, .inl 2), (2, .inl b)], [.inl 2, gx_r 137, gx_r 139], t153, n, 0)) rfl (fun _ => rfl) rfl ?_
            refine gx_ag (v := gx_r 366) (cb := fun c => Nat.ble 4 c && Nat.ble c 7) rfl (fun _ => rfl) g153 rfl rfl (gx_slr g153 rfl (by decide) rfl) (by first | decide | omega) rfl ?_
            obtain ⟨⟨rv154, t154, rn154, rs154⟩, r154, hn154, hs154, g154, fr154, E154, o154, ho154, ro154, hh154⟩ := ac_all (d + 1) 170 ce_170_0 (show ce_170_0 ∈ cm_170 from List.mem_cons_self) (Nat.lt_of_lt_of_le (show ce_170_0.1 < 1 by decide) (by first | decide | omega)) (fun _ => 0) [gx_r 139, gx_r 366] t153 n ⟨gx_vref 139, gx_vref 366, trivial⟩ g153 (fun q hq => absurd hq List.not_mem_nil) E153
            have hn154 : n = rn154 := hn154.symm
            have hs154 : rs154 = 0 := hs154
            subst hn154 hs154
            have ho154 := List.mem_singleton.mp ho154
            subst ho154
            have hv154 : rv154 = none := by
              cases rv154 with
              | none => rfl
              | some w => exact ro154.elim
            subst hv154
            have e154 : ∀ c i, ¬ (139 ≤ c ∧ c ≤ 145) → ai_hv t154 c i = ai_hv t153 c i := fun c i h => fr154 c i (fun z => h (inw_rng (by decide) z))
            refine gx_callo (a := 139) rfl rfl g153 rfl rfl rfl r154 rfl ?_
            show en_ex _ _ _ _ (54, [(0, gx_r 0), (1, .inl 2), (2, .inl b)], [], t154, n, 0) _
            refine ex_go (S := (55, [(0, gx_r 0), (1, .inl 2), (2, .inl b)], [gx_r 0], t154, n, 0)) rfl (fun _ => rfl) rfl ?_
            refine gxo_ref (a := 0) (c := 22) rfl g154 rfl rfl rfl rfl rfl ?_
            obtain ⟨_, r155, t155, rfl, g155, e155, -⟩ := pz_pclear d n g154
            refine gx_callo (a := 22) rfl rfl g154 rfl rfl rfl r155 rfl ?_
            show en_ex _ _ _ _ (61, [(0, gx_r 0), (1, .inl 2), (2, .inl b)], [], t155, n, 0) _
            refine ex_go (S := (97, [(0, gx_r 0), (1, .inl 2), (2, .inl b)], [], t155, n, 0)) rfl (fun _ => rfl) rfl ?_
            refine ex_go (S := (98, [(0, gx_r 0), (1, .inl 2), (2, .inl b)], [.inl 1], t155, n, 0)) rfl (fun _ => rfl) rfl ?_
            refine ex_ret (r := (some (.inl 1), t155, n, 0)) rfl (fun _ => rfl) ?_
            refine ⟨_, rfl, 1, t155, rfl, fun _ => ⟨rfl, fun i hi => ?_⟩, fun h => absurd h (by first | decide | omega)⟩
            rcases (show i = 0 ∨ i = 1 ∨ i = 2 ∨ i = 3 by omega) with rfl | rfl | rfl | rfl
            · rw [if_neg (by decide)]; exact (e155 138 0 (by first | decide | omega)).trans ((e154 138 0 (by first | decide | omega)).trans ((e153 138 0 (by first | decide | omega)).trans (hF 0 (by first | decide | omega))))
            · rw [if_neg (by decide)]; exact (e155 138 1 (by first | decide | omega)).trans ((e154 138 1 (by first | decide | omega)).trans ((e153 138 1 (by first | decide | omega)).trans (hF 1 (by first | decide | omega))))
            · have h9 : F 2 = 1 := by omega
              have h8 := (e155 138 2 (by first | decide | omega)).trans ((e154 138 2 (by first | decide | omega)).trans ((e153 138 2 (by first | decide | omega)).trans (hF 2 (by first | decide | omega))))
              rw [h9] at h8
              rw [if_pos rfl]
              exact h8
            · rw [if_neg (by decide)]; exact (e155 138 3 (by first | decide | omega)).trans ((e154 138 3 (by first | decide | omega)).trans ((e153 138 3 (by first | decide | omega)).trans (hF 3 (by first | decide | omega))))
        · refine ex_go (S := (25, [(0, gx_r 0), (1, .inl 3), (2, .inl b)], [.inl b], t0, n, 0)) rfl (fun _ => rfl) rfl ?_
          by_cases hc56 : b = 0
          · refine gx_1t (c := .eq) rfl (by first | decide | omega) hc56 rfl ?_
            refine ex_go (S := (65, [(0, gx_r 0), (1, .inl 3), (2, .inl b)], [gx_r 0], t0, n, 0)) rfl (fun _ => rfl) rfl ?_
            refine gxo_ref (a := 0) (c := 136) rfl g0 rfl rfl rfl rfl rfl ?_
            refine ex_go (S := (69, [(0, gx_r 0), (1, .inl 3), (2, .inl b)], [.inl 3, gx_r 136], t0, n, 0)) rfl (fun _ => rfl) rfl ?_
            refine gx_ag (v := gx_r 371) (cb := fun c => Nat.ble 4 c && Nat.ble c 7) rfl (fun _ => rfl) g0 rfl rfl (gx_slr g0 rfl (by decide) rfl) (by first | decide | omega) rfl ?_
            refine ex_go (S := (71, [(0, gx_r 0), (1, .inl 3), (2, .inl b)], [gx_r 0, gx_r 371], t0, n, 0)) rfl (fun _ => rfl) rfl ?_
            refine gxo_ref (a := 0) (c := 8) rfl g0 rfl rfl rfl rfl rfl ?_
            obtain ⟨⟨rv157, t157, rn157, rs157⟩, r157, hn157, hs157, g157, fr157, E157, o157, ho157, ro157, hh157⟩ := ac_all (d + 1) 162 ce_162_36 (show ce_162_36 ∈ cm_162 from (List.mem_cons_of_mem _ (List.mem_cons_of_mem _ (List.mem_cons_of_mem _ (List.mem_cons_of_mem _ (List.mem_cons_of_mem _ (List.mem_cons_of_mem _ (List.mem_cons_of_mem _ (List.mem_cons_of_mem _ (List.mem_cons_of_mem _ (List.mem_cons_of_mem _ (List.mem_cons_of_mem _ (List.mem_cons_of_mem _ (List.mem_cons_of_mem _ (List.mem_cons_of_mem _ (List.mem_cons_of_mem _ (List.mem_cons_of_mem _ (List.mem_cons_of_mem _ (List.mem_cons_of_mem _ (List.mem_cons_of_mem _ (List.mem_cons_of_mem _ (List.mem_cons_of_mem _ (List.mem_cons_of_mem _ (List.mem_cons_of_mem _ (List.mem_cons_of_mem _ (List.mem_cons_of_mem _ (List.mem_cons_of_mem _ (List.mem_cons_of_mem _ (List.mem_cons_of_mem _ (List.mem_cons_of_mem _ (List.mem_cons_of_mem _ (List.mem_cons_of_mem _ (List.mem_cons_of_mem _ (List.mem_cons_of_mem _ (List.mem_cons_of_mem _ (List.mem_cons_of_mem _ (List.mem_cons_of_mem _ List.mem_cons_self))))))))))))))))))))))))))))))))))))) (Nat.lt_of_lt_of_le (show ce_162_36.1 < 1 by decide) (by first | decide | omega)) (fun _ => 0) [gx_r 371, gx_r 8] t0 n ⟨gx_vref 371, gx_vref 8, trivial⟩ g0 (fun q hq => absurd hq List.not_mem_nil) hE
            have hn157 : n = rn157 := hn157.symm
            have hs157 : rs157 = 0 := hs157
            subst hn157 hs157
            have ho157 := List.mem_singleton.mp ho157
            subst ho157
            have hv157 : rv157 = none := by
              cases rv157 with
              | none => rfl
              | some w => exact ro157.elim
            subst hv157
            have e157 : ∀ c i, ¬ (371 ≤ c ∧ c ≤ 377) → ai_hv t157 c i = ai_hv t0 c i := fun c i h => fr157 c i (fun z => h (inw_rng (by decide) z))
            refine gx_callo (a := 371) rfl rfl g0 rfl rfl rfl r157 rfl ?_
            show en_ex _ _ _ _ (77, [(0, gx_r 0), (1, .inl 3), (2, .inl b)], [], t157, n, 0) _
            refine ex_go (S := (78, [(0, gx_r 0), (1, .inl 3), (2, .inl b)], [gx_r 0], t157, n, 0)) rfl (fun _ => rfl) rfl ?_
            refine gxo_ref (a := 0) (c := 137) rfl g157 rfl rfl rfl rfl rfl ?_
            refine ex_go (S := (82, [(0, gx_r 0), (1, .inl 3), (2, .inl b)], [.inl 3, gx_r 137], t157, n, 0)) rfl (fun _ => rfl) rfl ?_
            refine gx_ag (v := gx_r 378) (cb := fun c => Nat.ble 4 c && Nat.ble c 7) rfl (fun _ => rfl) g157 rfl rfl (gx_slr g157 rfl (by decide) rfl) (by first | decide | omega) rfl ?_
            refine ex_go (S := (84, [(0, gx_r 0), (1, .inl 3), (2, .inl b)], [gx_r 0, gx_r 378], t157, n, 0)) rfl (fun _ => rfl) rfl ?_
            refine gxo_ref (a := 0) (c := 139) rfl g157 rfl rfl rfl rfl rfl ?_
            obtain ⟨⟨rv158, t158, rn158, rs158⟩, r158, hn158, hs158, g158, fr158, E158, o158, ho158, ro158, hh158⟩ := ac_all (d + 1) 170 ce_170_5 (show ce_170_5 ∈ cm_170 from (List.mem_cons_of_mem _ (List.mem_cons_of_mem _ (List.mem_cons_of_mem _ (List.mem_cons_of_mem _ (List.mem_cons_of_mem _ List.mem_cons_self)))))) (Nat.lt_of_lt_of_le (show ce_170_5.1 < 1 by decide) (by first | decide | omega)) (fun _ => 0) [gx_r 378, gx_r 139] t157 n ⟨gx_vref 378, gx_vref 139, trivial⟩ g157 (fun q hq => absurd hq List.not_mem_nil) E157
            have hn158 : n = rn158 := hn158.symm
            have hs158 : rs158 = 0 := hs158
            subst hn158 hs158
            have ho158 := List.mem_singleton.mp ho158
            subst ho158
            have hv158 : rv158 = none := by
              cases rv158 with
              | none => rfl
              | some w => exact ro158.elim
            subst hv158
            have e158 : ∀ c i, ¬ (378 ≤ c ∧ c ≤ 384) → ai_hv t158 c i = ai_hv t157 c i := fun c i h => fr158 c i (fun z => h (inw_rng (by decide) z))
            refine gx_callo (a := 378) rfl rfl g157 rfl rfl rfl r158 rfl ?_
            show en_ex _ _ _ _ (90, [(0, gx_r 0), (1, .inl 3), (2, .inl b)], [], t158, n, 0) _
            refine ex_go (S := (91, [(0, gx_r 0), (1, .inl 3), (2, .inl b)], [gx_r 0], t158, n, 0)) rfl (fun _ => rfl) rfl ?_
            refine gxo_ref (a := 0) (c := 138) rfl g158 rfl rfl rfl rfl rfl ?_
            refine ex_go (S := (95, [(0, gx_r 0), (1, .inl 3), (2, .inl b)], [.inl 3, gx_r 138], t158, n, 0)) rfl (fun _ => rfl) rfl ?_
            refine ex_go (S := (96, [(0, gx_r 0), (1, .inl 3), (2, .inl b)], [.inl 1, .inl 3, gx_r 138], t158, n, 0)) rfl (fun _ => rfl) rfl ?_
            refine gx_apv (d := 2) rfl (fun _ => rfl) g158 rfl rfl rfl (show 3 < 4 from by omega) rfl (ai_in_h (by first | decide | omega) (by first | decide | omega) (by first | decide | omega)) rfl (fun t159 g159 k159 e159 => ?_)
            refine ex_go (S := (98, [(0, gx_r 0), (1, .inl 3), (2, .inl b)], [.inl 1], t159, n, 0)) rfl (fun _ => rfl) rfl ?_
            refine ex_ret (r := (some (.inl 1), t159, n, 0)) rfl (fun _ => rfl) ?_
            refine ⟨_, rfl, 1, t159, rfl, fun _ => ⟨rfl, fun i hi => ?_⟩, fun h => absurd h (by first | decide | omega)⟩
            rcases (show i = 0 ∨ i = 1 ∨ i = 2 ∨ i = 3 by omega) with rfl | rfl | rfl | rfl
            · rw [if_neg (by decide)]; exact (e159 138 0 (by first | decide | omega)).trans ((e158 138 0 (by first | decide | omega)).trans ((e157 138 0 (by first | decide | omega)).trans (hF 0 (by first | decide | omega))))
            · rw [if_neg (by decide)]; exact (e159 138 1 (by first | decide | omega)).trans ((e158 138 1 (by first | decide | omega)).trans ((e157 138 1 (by first | decide | omega)).trans (hF 1 (by first | decide | omega))))
            · rw [if_neg (by decide)]; exact (e159 138 2 (by first | decide | omega)).trans ((e158 138 2 (by first | decide | omega)).trans ((e157 138 2 (by first | decide | omega)).trans (hF 2 (by first | decide | omega))))
            · rw [if_pos rfl]; exact k159
          · refine gx_1f (c := .eq) rfl (by first | decide | omega) hc56 rfl ?_
            refine ex_go (S := (29, [(0, gx_r 0), (1, .inl 3), (2, .inl b)], [gx_r 0], t0, n, 0)) rfl (fun _ => rfl) rfl ?_
            refine gxo_ref (a := 0) (c := 8) rfl g0 rfl rfl rfl rfl rfl ?_
            refine ex_go (S := (33, [(0, gx_r 0), (1, .inl 3), (2, .inl b)], [gx_r 0, gx_r 8], t0, n, 0)) rfl (fun _ => rfl) rfl ?_
            refine gxo_ref (a := 0) (c := 136) rfl g0 rfl rfl rfl rfl rfl ?_
            refine ex_go (S := (37, [(0, gx_r 0), (1, .inl 3), (2, .inl b)], [.inl 3, gx_r 136, gx_r 8], t0, n, 0)) rfl (fun _ => rfl) rfl ?_
            refine gx_ag (v := gx_r 371) (cb := fun c => Nat.ble 4 c && Nat.ble c 7) rfl (fun _ => rfl) g0 rfl rfl (gx_slr g0 rfl (by decide) rfl) (by first | decide | omega) rfl ?_
            obtain ⟨⟨rv160, t160, rn160, rs160⟩, r160, hn160, hs160, g160, fr160, E160, o160, ho160, ro160, hh160⟩ := ac_all (d + 1) 162 ce_162_39 (show ce_162_39 ∈ cm_162 from (List.mem_cons_of_mem _ (List.mem_cons_of_mem _ (List.mem_cons_of_mem _ (List.mem_cons_of_mem _ (List.mem_cons_of_mem _ (List.mem_cons_of_mem _ (List.mem_cons_of_mem _ (List.mem_cons_of_mem _ (List.mem_cons_of_mem _ (List.mem_cons_of_mem _ (List.mem_cons_of_mem _ (List.mem_cons_of_mem _ (List.mem_cons_of_mem _ (List.mem_cons_of_mem _ (List.mem_cons_of_mem _ (List.mem_cons_of_mem _ (List.mem_cons_of_mem _ (List.mem_cons_of_mem _ (List.mem_cons_of_mem _ (List.mem_cons_of_mem _ (List.mem_cons_of_mem _ (List.mem_cons_of_mem _ (List.mem_cons_of_mem _ (List.mem_cons_of_mem _ (List.mem_cons_of_mem _ (List.mem_cons_of_mem _ (List.mem_cons_of_mem _ (List.mem_cons_of_mem _ (List.mem_cons_of_mem _ (List.mem_cons_of_mem _ (List.mem_cons_of_mem _ (List.mem_cons_of_mem _ (List.mem_cons_of_mem _ (List.mem_cons_of_mem _ (List.mem_cons_of_mem _ (List.mem_cons_of_mem _ (List.mem_cons_of_mem _ (List.mem_cons_of_mem _ (List.mem_cons_of_mem _ List.mem_cons_self)))))))))))))))))))))))))))))))))))))))) (Nat.lt_of_lt_of_le (show ce_162_39.1 < 1 by decide) (by first | decide | omega)) (fun _ => 0) [gx_r 8, gx_r 371] t0 n ⟨gx_vref 8, gx_vref 371, trivial⟩ g0 (fun q hq => absurd hq List.not_mem_nil) hE
            have hn160 : n = rn160 := hn160.symm
            have hs160 : rs160 = 0 := hs160
            subst hn160 hs160
            have ho160 := List.mem_singleton.mp ho160
            subst ho160
            have hv160 : rv160 = none := by
              cases rv160 with
              | none => rfl
              | some w => exact ro160.elim
            subst hv160
            have e160 : ∀ c i, ¬ (8 ≤ c ∧ c ≤ 14) → ai_hv t160 c i = ai_hv t0 c i := fun c i h => fr160 c i (fun z => h (inw_rng (by decide) z))
            refine gx_callo (a := 8) rfl rfl g0 rfl rfl rfl r160 rfl ?_
            show en_ex _ _ _ _ (41, [(0, gx_r 0), (1, .inl 3), (2, .inl b)], [], t160, n, 0) _
            refine ex_go (S := (42, [(0, gx_r 0), (1, .inl 3), (2, .inl b)], [gx_r 0], t160, n, 0)) rfl (fun _ => rfl) rfl ?_
            refine gxo_ref (a := 0) (c := 139) rfl g160 rfl rfl rfl rfl rfl ?_
            refine ex_go (S := (46, [(0, gx_r 0), (1, .inl 3), (2, .inl b)], [gx_r 0, gx_r 139], t160, n, 0)) rfl (fun _ => rfl) rfl ?_
            refine gxo_ref (a := 0) (c := 137) rfl g160 rfl rfl rfl rfl rfl ?_
            refine ex_go (S := (50, [(0, gx_r 0), (1, .inl 3), (2, .inl b)], [.inl 3, gx_r 137, gx_r 139], t160, n, 0)) rfl (fun _ => rfl) rfl ?_
            refine gx_ag (v := gx_r 378) (cb := fun c => Nat.ble 4 c && Nat.ble c 7) rfl (fun _ => rfl) g160 rfl rfl (gx_slr g160 rfl (by decide) rfl) (by first | decide | omega) rfl ?_
            obtain ⟨⟨rv161, t161, rn161, rs161⟩, r161, hn161, hs161, g161, fr161, E161, o161, ho161, ro161, hh161⟩ := ac_all (d + 1) 170 ce_170_3 (show ce_170_3 ∈ cm_170 from (List.mem_cons_of_mem _ (List.mem_cons_of_mem _ (List.mem_cons_of_mem _ List.mem_cons_self)))) (Nat.lt_of_lt_of_le (show ce_170_3.1 < 1 by decide) (by first | decide | omega)) (fun _ => 0) [gx_r 139, gx_r 378] t160 n ⟨gx_vref 139, gx_vref 378, trivial⟩ g160 (fun q hq => absurd hq List.not_mem_nil) E160
            have hn161 : n = rn161 := hn161.symm
            have hs161 : rs161 = 0 := hs161
            subst hn161 hs161
            have ho161 := List.mem_singleton.mp ho161
            subst ho161
            have hv161 : rv161 = none := by
              cases rv161 with
              | none => rfl
              | some w => exact ro161.elim
            subst hv161
            have e161 : ∀ c i, ¬ (139 ≤ c ∧ c ≤ 145) → ai_hv t161 c i = ai_hv t160 c i := fun c i h => fr161 c i (fun z => h (inw_rng (by decide) z))
            refine gx_callo (a := 139) rfl rfl g160 rfl rfl rfl r161 rfl ?_
            show en_ex _ _ _ _ (54, [(0, gx_r 0), (1, .inl 3), (2, .inl b)], [], t161, n, 0) _
            refine ex_go (S := (55, [(0, gx_r 0), (1, .inl 3), (2, .inl b)], [gx_r 0], t161, n, 0)) rfl (fun _ => rfl) rfl ?_
            refine gxo_ref (a := 0) (c := 22) rfl g161 rfl rfl rfl rfl rfl ?_
            obtain ⟨_, r162, t162, rfl, g162, e162, -⟩ := pz_pclear d n g161
            refine gx_callo (a := 22) rfl rfl g161 rfl rfl rfl r162 rfl ?_
            show en_ex _ _ _ _ (61, [(0, gx_r 0), (1, .inl 3), (2, .inl b)], [], t162, n, 0) _
            refine ex_go (S := (97, [(0, gx_r 0), (1, .inl 3), (2, .inl b)], [], t162, n, 0)) rfl (fun _ => rfl) rfl ?_
            refine ex_go (S := (98, [(0, gx_r 0), (1, .inl 3), (2, .inl b)], [.inl 1], t162, n, 0)) rfl (fun _ => rfl) rfl ?_
            refine ex_ret (r := (some (.inl 1), t162, n, 0)) rfl (fun _ => rfl) ?_
            refine ⟨_, rfl, 1, t162, rfl, fun _ => ⟨rfl, fun i hi => ?_⟩, fun h => absurd h (by first | decide | omega)⟩
            rcases (show i = 0 ∨ i = 1 ∨ i = 2 ∨ i = 3 by omega) with rfl | rfl | rfl | rfl
            · rw [if_neg (by decide)]; exact (e162 138 0 (by first | decide | omega)).trans ((e161 138 0 (by first | decide | omega)).trans ((e160 138 0 (by first | decide | omega)).trans (hF 0 (by first | decide | omega))))
            · rw [if_neg (by decide)]; exact (e162 138 1 (by first | decide | omega)).trans ((e161 138 1 (by first | decide | omega)).trans ((e160 138 1 (by first | decide | omega)).trans (hF 1 (by first | decide | omega))))
            · rw [if_neg (by decide)]; exact (e162 138 2 (by first | decide | omega)).trans ((e161 138 2 (by first | decide | omega)).trans ((e160 138 2 (by first | decide | omega)).trans (hF 2 (by first | decide | omega))))
            · have h9 : F 3 = 1 := by omega
              have h8 := (e162 138 3 (by first | decide | omega)).trans ((e161 138 3 (by first | decide | omega)).trans ((e160 138 3 (by first | decide | omega)).trans (hF 3 (by first | decide | omega))))
              rw [h9] at h8
              rw [if_pos rfl]
              exact h8
      · refine gx_1f (c := .ne) rfl (by first | decide | omega) hc34 rfl ?_
        refine ex_go (S := (23, [(0, gx_r 0), (1, .inl m), (2, .inl b)], [.inl 0], t0, n, 0)) rfl (fun _ => rfl) rfl ?_
        refine ex_ret (r := (some (.inl 0), t0, n, 0)) rfl (fun _ => rfl) ?_
        exact ⟨_, rfl, 0, t0, rfl, fun h => absurd h (by first | decide | omega), fun _ => ⟨rfl, fun i hi => hF i hi⟩⟩
end SZN
