section PK5
theorem gx_law {t : en_H} {i : Nat} (l : Nat) (hG : ai_HG ah_G t) (hl : l < 3) (e : i = 169 + l) : ∃ m, ai_hv t 389 i = some (.inl m) ∧ (m ≤ 1099 ∨ m = 4294967295) := by
  obtain ⟨v, k1, m, rfl, m1, m2, m3⟩ := gx_sl (c := 389) (i := i) hG rfl (show i < 320 by omega) (px_run_law l hl (by first | decide | omega))
  refine ⟨m, k1, ?_⟩
  unfold ai_off at m2 m3
  dsimp only at m2 m3
  omega
theorem px_E4_at {t t' : en_H} {c c' l : Nat} (h : px_E4 t c) (hl : l < 3) (hc : c ≤ c') (h1 : ai_hv t' 389 (169 + l) = ai_hv t 389 (169 + l)) (h2 : ∀ i, i < c → ai_hv t' 390 (1100 + i) = ai_hv t 390 (1100 + i)) (h3 : ∀ i, i < c → ai_hv t' 391 (1100 + i) = ai_hv t 391 (1100 + i)) : ai_hv t' 389 (169 + l) = some (.inl 4294967295) ∨ ∃ (s e : Nat) (F : Nat → Nat), ai_hv t' 389 (169 + l) = some (.inl s) ∧ s ≤ e ∧ e < c' ∧ F s = 0 ∧ ai_hv t' 390 (1100 + e) = some (.inl 0) ∧ ∀ i, s ≤ i → i < e → px_st t' i (F i) (F (i + 1)) := by
  rcases h l hl with h | ⟨s, e, F, k1, k2, k3, k4, k5, k6⟩
  · exact Or.inl (h1.trans h)
  · exact Or.inr ⟨s, e, F, h1.trans k1, k2, by omega, k4, (h2 e k3).trans k5, fun i z1 z2 => px_st_kept (k6 i z1 z2) (h2 i (by first | decide | omega)) (h3 i (by first | decide | omega))⟩
theorem pk_readOnce (d n : Nat) {t0 : en_H} {a c : Nat} (s0 : px_S t0 a 0) (ha : a ≤ 999) (hca : c ≤ a) (hO : px_O t0 c) : ∃ r, en_u (d + 33) 193 [gx_r 383] t0 n = some r ∧ ∃ t' a' f', r = (none, t', n, 0) ∧ px_S t' a' f' ∧ px_PF t0 t' ∧ (f' = 0 → a < a' ∧ ∃ c', px_O t' c' ∧ c' ≤ a') := by
  have b0 := s0.2.2.2
  obtain ⟨r, nt, ng, ns, nl, ov, dn, pa, kr, knt, kng, kns, knl, kov, kdn, kpa, kc, hA, hE1, hE4⟩ := hO
  refine en_u_ex (d := d + 32) rfl ?_
  show en_ex _ _ _ _ (0, [(0, gx_r 383)], [], t0, n, 0) _
  refine ex_go (S := (1, [(0, gx_r 383)], [gx_r 383], t0, n, 0)) rfl (fun _ => rfl) rfl ?_
  refine ex_go (S := (3, [(0, gx_r 383)], [.inl 11, gx_r 383], t0, n, 0)) rfl (fun _ => rfl) rfl ?_
  obtain ⟨_, r3, b1, rfl, q2⟩ := pk_isWord (d + 31) n (s0) (w := 11) (by first | decide | omega)
  refine gx_call1 rfl rfl s0.1 rfl rfl r3 rfl ?_
  by_cases hc4 : b1 = 0
  · refine gx_1t (c := .eq) rfl (by first | decide | omega) hc4 rfl ?_
    refine ex_go (S := (14, [(0, gx_r 383)], [gx_r 383], t0, n, 0)) rfl (fun _ => rfl) rfl ?_
    refine ex_go (S := (16, [(0, gx_r 383)], [.inl 20, gx_r 383], t0, n, 0)) rfl (fun _ => rfl) rfl ?_
    refine ex_go (S := (17, [(0, gx_r 383)], [.inl 3, .inl 20, gx_r 383], t0, n, 0)) rfl (fun _ => rfl) rfl ?_
    obtain ⟨_, r7, b5, rfl, q6⟩ := pk_wordHere (d + 30) n (s0) (w := 20) (m := 3) (by first | decide | omega)
    refine gx_call1 rfl rfl s0.1 rfl rfl r7 rfl ?_
    rcases q6 with hn8 | hn8
    · have := hn8
      refine ex_go (S := (21, [(1, .inl b5), (0, gx_r 383)], [], t0, n, 0)) rfl (fun _ => rfl) rfl ?_
      refine ex_go (S := (22, [(1, .inl b5), (0, gx_r 383)], [.inl b5], t0, n, 0)) rfl (fun _ => rfl) rfl ?_
      refine gx_1t (c := .ge) rfl (by first | decide | omega) (show 0 ≤ b5 from by omega) rfl ?_
      refine ex_go (S := (34, [(1, .inl b5), (0, gx_r 383)], [.inl b5], t0, n, 0)) rfl (fun _ => rfl) rfl ?_
      refine ex_go (S := (35, [(1, .inl b5), (0, gx_r 383)], [.inl 3, .inl b5], t0, n, 0)) rfl (fun _ => rfl) rfl ?_
      by_cases hc9 : b5 ≠ 3
      · refine gx_2t (c := .ne) rfl (by first | decide | omega) (by first | decide | omega) hc9 rfl ?_
        refine ex_go (S := (49, [(1, .inl b5), (0, gx_r 383)], [gx_r 383], t0, n, 0)) rfl (fun _ => rfl) rfl ?_
        refine gx_ref (c := 389) rfl s0.1 rfl rfl rfl rfl ?_
        refine ex_go (S := (55, [(1, .inl b5), (0, gx_r 383)], [.inl 169, gx_r 389], t0, n, 0)) rfl (fun _ => rfl) rfl ?_
        refine ex_go (S := (56, [(1, .inl b5), (0, gx_r 383)], [.inl b5, .inl 169, gx_r 389], t0, n, 0)) rfl (fun _ => rfl) rfl ?_
        refine ex_iadd rfl (by first | decide | omega) rfl ?_
        obtain ⟨m10, k11, q12⟩ := gx_law (i := 169 + b5) b5 s0.1 (by first | decide | omega) (by first | decide | omega)
        refine gx_ag (v := .inl m10) (cb := fun c => Nat.beq c 0) rfl (fun _ => rfl) s0.1 rfl rfl k11 (by first | decide | omega) rfl ?_
        rcases q12 with hn13 | hn13
        · have := hn13
          refine gx_1f (c := .lt) rfl (by first | decide | omega) (show ¬ (m10 < 0) from by omega) rfl ?_
          refine ex_go (S := (62, [(1, .inl b5), (0, gx_r 383)], [gx_r 383], t0, n, 0)) rfl (fun _ => rfl) rfl ?_
          refine ex_go (S := (63, [(1, .inl b5), (0, gx_r 383)], [.inl 3, gx_r 383], t0, n, 0)) rfl (fun _ => rfl) rfl ?_
          obtain ⟨_, r114, t114, a114, f114, rfl, s114, e114, q114⟩ := pk_wrong (d + 31) n (s0) (w := 3) (by first | decide | omega)
          have b114 := s114.2.2.2
          refine gx_call0 rfl rfl s0.1 rfl rfl r114 rfl ?_
          have k15 : ai_hv t114 383 19 = some (.inl r) := (e114 383 19 (by first | decide | omega)).trans kr
          have k16 : ai_hv t114 389 162 = some (.inl nt) := (e114 389 162 (by first | decide | omega)).trans knt
          have k17 : ai_hv t114 389 166 = some (.inl ng) := (e114 389 166 (by first | decide | omega)).trans kng
          have k18 : ai_hv t114 389 167 = some (.inl ns) := (e114 389 167 (by first | decide | omega)).trans kns
          have k19 : ai_hv t114 389 168 = some (.inl nl) := (e114 389 168 (by first | decide | omega)).trans knl
          have k20 : ai_hv t114 389 160 = some (.inl ov) := (e114 389 160 (by first | decide | omega)).trans kov
          have k21 : ai_hv t114 389 161 = some (.inl dn) := (e114 389 161 (by first | decide | omega)).trans kdn
          have k22 : ai_hv t114 389 165 = some (.inl pa) := (e114 389 165 (by first | decide | omega)).trans kpa
          have k23 : ai_hv t114 383 13 = some (.inl c) := (e114 383 13 (by first | decide | omega)).trans kc
          have k24 : ai_hv t114 389 (169 + b5) = some (.inl m10) := (e114 389 (169 + b5) (by first | decide | omega)).trans k11
          refine ex_go (S := (67, [(1, .inl b5), (0, gx_r 383)], [gx_r 383], t114, n, 0)) rfl (fun _ => rfl) rfl ?_
          refine gx_get rfl s114.1 rfl s114.2.2.1 rfl ?_
          refine gx_1f (c := .le) rfl (by first | decide | omega) (show ¬ (f114 ≤ 0) from by omega) rfl ?_
          refine ex_ret (r := (none, t114, n, 0)) rfl (fun _ => rfl) ?_
          exact ⟨_, rfl, t114, a114, f114, rfl, s114, (fun c i h => e114 c i (by first | decide | omega)), fun h0 => by omega⟩
        · subst hn13
          refine ex_go (S := (66, [(1, .inl b5), (0, gx_r 383)], [], t0, n, 0)) rfl (fun _ => rfl) rfl ?_
          refine ex_go (S := (67, [(1, .inl b5), (0, gx_r 383)], [gx_r 383], t0, n, 0)) rfl (fun _ => rfl) rfl ?_
          refine gx_get rfl s0.1 rfl s0.2.2.1 rfl ?_
          refine ex_go (S := (74, [(1, .inl b5), (0, gx_r 383)], [], t0, n, 0)) rfl (fun _ => rfl) rfl ?_
          refine ex_go (S := (75, [(1, .inl b5), (0, gx_r 383)], [gx_r 383], t0, n, 0)) rfl (fun _ => rfl) rfl ?_
          refine ex_go (S := (76, [(1, .inl b5), (0, gx_r 383)], [gx_r 383, gx_r 383], t0, n, 0)) rfl (fun _ => rfl) rfl ?_
          refine gx_get rfl s0.1 rfl s0.2.1 rfl ?_
          refine ex_go (S := (80, [(1, .inl b5), (0, gx_r 383)], [.inl 1, .inl a, gx_r 383], t0, n, 0)) rfl (fun _ => rfl) rfl ?_
          refine ex_iadd rfl (by first | decide | omega) rfl ?_
          refine gx_put rfl s0.1 rfl rfl (ai_in_h (by first | decide | omega) (by first | decide | omega) (by first | decide | omega)) rfl (fun t125 g125 k125 e125 => ?_)
          have k26 : ai_hv t125 383 19 = some (.inl r) := (e125 383 19 (by first | decide | omega)).trans kr
          have k27 : ai_hv t125 389 162 = some (.inl nt) := (e125 389 162 (by first | decide | omega)).trans knt
          have k28 : ai_hv t125 389 166 = some (.inl ng) := (e125 389 166 (by first | decide | omega)).trans kng
          have k29 : ai_hv t125 389 167 = some (.inl ns) := (e125 389 167 (by first | decide | omega)).trans kns
          have k30 : ai_hv t125 389 168 = some (.inl nl) := (e125 389 168 (by first | decide | omega)).trans knl
          have k31 : ai_hv t125 389 160 = some (.inl ov) := (e125 389 160 (by first | decide | omega)).trans kov
          have k32 : ai_hv t125 389 161 = some (.inl dn) := (e125 389 161 (by first | decide | omega)).trans kdn
          have k33 : ai_hv t125 389 165 = some (.inl pa) := (e125 389 165 (by first | decide | omega)).trans kpa
          have k34 : ai_hv t125 383 13 = some (.inl c) := (e125 383 13 (by first | decide | omega)).trans kc
          have k35 : ai_hv t125 389 (169 + b5) = some (.inl 4294967295) := (e125 389 (169 + b5) (by first | decide | omega)).trans k11
          have s125 : px_S t125 (a + 1) 0 := ⟨g125, k125, (e125 383 8 (by first | decide | omega)).trans s0.2.2.1, by omega, s0.2.2.2.2⟩
          refine ex_go (S := (85, [(1, .inl b5), (0, gx_r 383)], [.inl b5], t125, n, 0)) rfl (fun _ => rfl) rfl ?_
          refine ex_go (S := (86, [(1, .inl b5), (0, gx_r 383)], [.inl 3, .inl b5], t125, n, 0)) rfl (fun _ => rfl) rfl ?_
          by_cases hc36 : b5 ≠ 3
          · refine gx_2t (c := .ne) rfl (by first | decide | omega) (by first | decide | omega) hc36 rfl ?_
            refine ex_go (S := (112, [(1, .inl b5), (0, gx_r 383)], [gx_r 383], t125, n, 0)) rfl (fun _ => rfl) rfl ?_
            refine gx_ref (c := 389) rfl s125.1 rfl rfl rfl rfl ?_
            refine ex_go (S := (118, [(1, .inl b5), (0, gx_r 383)], [.inl 169, gx_r 389], t125, n, 0)) rfl (fun _ => rfl) rfl ?_
            refine ex_go (S := (119, [(1, .inl b5), (0, gx_r 383)], [.inl b5, .inl 169, gx_r 389], t125, n, 0)) rfl (fun _ => rfl) rfl ?_
            refine ex_iadd rfl (by first | decide | omega) rfl ?_
            refine ex_go (S := (121, [(1, .inl b5), (0, gx_r 383)], [gx_r 383, .inl (169 + b5), gx_r 389], t125, n, 0)) rfl (fun _ => rfl) rfl ?_
            refine gx_get rfl s125.1 rfl k34 rfl ?_
            refine gx_ap rfl (fun _ => rfl) s125.1 rfl rfl rfl (show 169 + b5 < 320 from by omega) (px_run_law b5 (by first | decide | omega) (by first | decide | omega)) (ai_in_h (by first | decide | omega) (by first | decide | omega) (by first | decide | omega)) rfl (fun t137 g137 k137 e137 => ?_)
            have k38 : ai_hv t137 383 19 = some (.inl r) := (e137 383 19 (by first | decide | omega)).trans k26
            have k39 : ai_hv t137 389 162 = some (.inl nt) := (e137 389 162 (by first | decide | omega)).trans k27
            have k40 : ai_hv t137 389 166 = some (.inl ng) := (e137 389 166 (by first | decide | omega)).trans k28
            have k41 : ai_hv t137 389 167 = some (.inl ns) := (e137 389 167 (by first | decide | omega)).trans k29
            have k42 : ai_hv t137 389 168 = some (.inl nl) := (e137 389 168 (by first | decide | omega)).trans k30
            have k43 : ai_hv t137 389 160 = some (.inl ov) := (e137 389 160 (by first | decide | omega)).trans k31
            have k44 : ai_hv t137 389 161 = some (.inl dn) := (e137 389 161 (by first | decide | omega)).trans k32
            have k45 : ai_hv t137 389 165 = some (.inl pa) := (e137 389 165 (by first | decide | omega)).trans k33
            have k46 : ai_hv t137 383 13 = some (.inl c) := (e137 383 13 (by first | decide | omega)).trans k34
            have s137 : px_S t137 (a + 1) 0 := ⟨g137, (e137 383 7 (by first | decide | omega)).trans s125.2.1, (e137 383 8 (by first | decide | omega)).trans s125.2.2.1, s125.2.2.2⟩
            refine ex_go (S := (126, [(1, .inl b5), (0, gx_r 383)], [gx_r 383], t137, n, 0)) rfl (fun _ => rfl) rfl ?_
            refine ex_go (S := (127, [(1, .inl b5), (0, gx_r 383)], [.inl b5, gx_r 383], t137, n, 0)) rfl (fun _ => rfl) rfl ?_
            by_cases hc47 : b5 ≠ 0
            · refine gx_1t (c := .ne) rfl (by first | decide | omega) hc47 rfl ?_
              refine ex_go (S := (136, [(1, .inl b5), (0, gx_r 383)], [.inl b5, gx_r 383], t137, n, 0)) rfl (fun _ => rfl) rfl ?_
              refine ex_go (S := (137, [(1, .inl b5), (0, gx_r 383)], [.inl 1, .inl b5, gx_r 383], t137, n, 0)) rfl (fun _ => rfl) rfl ?_
              by_cases hc48 : b5 ≠ 1
              · refine gx_2t (c := .ne) rfl (by first | decide | omega) (by first | decide | omega) hc48 rfl ?_
                refine ex_go (S := (146, [(1, .inl b5), (0, gx_r 383)], [.inl 2, gx_r 383], t137, n, 0)) rfl (fun _ => rfl) rfl ?_
                refine gx_put rfl s137.1 rfl rfl (ai_in_h (by first | decide | omega) (by first | decide | omega) (by first | decide | omega)) rfl (fun t149 g149 k149 e149 => ?_)
                have k50 : ai_hv t149 383 19 = some (.inl r) := (e149 383 19 (by first | decide | omega)).trans k38
                have k51 : ai_hv t149 389 162 = some (.inl nt) := (e149 389 162 (by first | decide | omega)).trans k39
                have k52 : ai_hv t149 389 166 = some (.inl ng) := (e149 389 166 (by first | decide | omega)).trans k40
                have k53 : ai_hv t149 389 167 = some (.inl ns) := (e149 389 167 (by first | decide | omega)).trans k41
                have k54 : ai_hv t149 389 168 = some (.inl nl) := (e149 389 168 (by first | decide | omega)).trans k42
                have k55 : ai_hv t149 389 160 = some (.inl ov) := (e149 389 160 (by first | decide | omega)).trans k43
                have k56 : ai_hv t149 389 161 = some (.inl dn) := (e149 389 161 (by first | decide | omega)).trans k44
                have k57 : ai_hv t149 389 165 = some (.inl pa) := (e149 389 165 (by first | decide | omega)).trans k45
                have k58 : ai_hv t149 383 13 = some (.inl c) := (e149 383 13 (by first | decide | omega)).trans k46
                have k59 : ai_hv t149 389 (169 + b5) = some (.inl c) := (e149 389 (169 + b5) (by first | decide | omega)).trans k137
                have s149 : px_S t149 (a + 1) 0 := ⟨g149, (e149 383 7 (by first | decide | omega)).trans s137.2.1, (e149 383 8 (by first | decide | omega)).trans s137.2.2.1, s137.2.2.2⟩
                refine ex_go (S := (150, [(1, .inl b5), (0, gx_r 383)], [gx_r 383], t149, n, 0)) rfl (fun _ => rfl) rfl ?_
                refine ex_go (S := (151, [(1, .inl b5), (0, gx_r 383)], [.inl 0, gx_r 383], t149, n, 0)) rfl (fun _ => rfl) rfl ?_
                obtain ⟨_, r160, t160, a160, f160, c160, rfl, x160⟩ := pk_all0 d n _ _ _ _ s149 k58 (by first | decide | omega)
                have s160 := x160.1
                have e160 := x160.2.1
                have k160 := x160.2.2.1
                have q160 := x160.2.2.2.1
                have b160 := s160.2.2.2
                refine gx_call0 rfl rfl s149.1 rfl rfl r160 rfl ?_
                have k61 : ai_hv t160 383 19 = some (.inl r) := (e160 383 19 (by first | decide | omega)).trans k50
                have k62 : ai_hv t160 389 162 = some (.inl nt) := (e160 389 162 (by first | decide | omega)).trans k51
                have k63 : ai_hv t160 389 166 = some (.inl ng) := (e160 389 166 (by first | decide | omega)).trans k52
                have k64 : ai_hv t160 389 167 = some (.inl ns) := (e160 389 167 (by first | decide | omega)).trans k53
                have k65 : ai_hv t160 389 168 = some (.inl nl) := (e160 389 168 (by first | decide | omega)).trans k54
                have k66 : ai_hv t160 389 160 = some (.inl ov) := (e160 389 160 (by first | decide | omega)).trans k55
                have k67 : ai_hv t160 389 161 = some (.inl dn) := (e160 389 161 (by first | decide | omega)).trans k56
                have k68 : ai_hv t160 389 165 = some (.inl pa) := (e160 389 165 (by first | decide | omega)).trans k57
                have k69 : ai_hv t160 389 (169 + b5) = some (.inl c) := (e160 389 (169 + b5) (by first | decide | omega)).trans k59
                have k70 : ai_hv t160 383 21 = some (.inl 2) := (e160 383 21 (by first | decide | omega)).trans k149
                refine ex_go (S := (155, [(1, .inl b5), (0, gx_r 383)], [gx_r 383], t160, n, 0)) rfl (fun _ => rfl) rfl ?_
                refine ex_go (S := (156, [(1, .inl b5), (0, gx_r 383)], [.inl 0, gx_r 383], t160, n, 0)) rfl (fun _ => rfl) rfl ?_
                refine ex_go (S := (157, [(1, .inl b5), (0, gx_r 383)], [.inl 0, .inl 0, gx_r 383], t160, n, 0)) rfl (fun _ => rfl) rfl ?_
                obtain ⟨_, r171, t171, rfl, s171, e171, k171, ko171, kz171⟩ := pk_emit (d + 31) n (s160) (o := 0) (z := 0) (by first | decide | omega) (by first | decide | omega) (by first | decide | omega) k160
                have b171 := s171.2.2.2
                refine gx_call0 rfl rfl s160.1 rfl rfl r171 rfl ?_
                have k72 : ai_hv t171 383 19 = some (.inl r) := (e171 383 19 (by first | decide | omega)).trans k61
                have k73 : ai_hv t171 389 162 = some (.inl nt) := (e171 389 162 (by first | decide | omega)).trans k62
                have k74 : ai_hv t171 389 166 = some (.inl ng) := (e171 389 166 (by first | decide | omega)).trans k63
                have k75 : ai_hv t171 389 167 = some (.inl ns) := (e171 389 167 (by first | decide | omega)).trans k64
                have k76 : ai_hv t171 389 168 = some (.inl nl) := (e171 389 168 (by first | decide | omega)).trans k65
                have k77 : ai_hv t171 389 160 = some (.inl ov) := (e171 389 160 (by first | decide | omega)).trans k66
                have k78 : ai_hv t171 389 161 = some (.inl dn) := (e171 389 161 (by first | decide | omega)).trans k67
                have k79 : ai_hv t171 389 165 = some (.inl pa) := (e171 389 165 (by first | decide | omega)).trans k68
                have k80 : ai_hv t171 389 (169 + b5) = some (.inl c) := (e171 389 (169 + b5) (by first | decide | omega)).trans k69
                have k81 : ai_hv t171 383 21 = some (.inl 2) := (e171 383 21 (by first | decide | omega)).trans k70
                refine ex_ret (r := (none, t171, n, 0)) rfl (fun _ => rfl) ?_
                by_cases h9 : f160 = 0
                · have hE : px_E4 t171 (c160 + 1) := fun l hl => by
                    by_cases e9 : l = b5
                    · obtain ⟨F, F1, F2, F3⟩ := x160.2.2.2.2 (by first | decide | omega) 0
                      exact Or.inr ⟨c, c160, F, by rw [e9]; exact k80, by omega, by omega, F1, ko171, fun i z1 z2 => px_st_kept (F3 i z1 z2) (e171 _ _ (by first | decide | omega)) (e171 _ _ (by first | decide | omega))⟩
                    · exact px_E4_at hE4 hl (by first | decide | omega) ((e171 389 (169 + l) (by first | decide | omega)).trans ((e160 389 (169 + l) (by first | decide | omega)).trans ((e149 389 (169 + l) (by first | decide | omega)).trans ((e137 389 (169 + l) (by first | decide | omega)).trans (e125 389 (169 + l) (by first | decide | omega)))))) (fun i hi => (e171 390 (1100 + i) (by first | decide | omega)).trans ((e160 390 (1100 + i) (by first | decide | omega)).trans ((e149 390 (1100 + i) (by first | decide | omega)).trans ((e137 390 (1100 + i) (by first | decide | omega)).trans (e125 390 (1100 + i) (by first | decide | omega)))))) (fun i hi => (e171 391 (1100 + i) (by first | decide | omega)).trans ((e160 391 (1100 + i) (by first | decide | omega)).trans ((e149 391 (1100 + i) (by first | decide | omega)).trans ((e137 391 (1100 + i) (by first | decide | omega)).trans (e125 391 (1100 + i) (by first | decide | omega))))))
                  refine ⟨_, rfl, t171, a160, f160, rfl, s171, (fun c i h => (e171 c i (by first | decide | omega)).trans ((e160 c i (by first | decide | omega)).trans ((e149 c i (by first | decide | omega)).trans ((e137 c i (by first | decide | omega)).trans (e125 c i (by first | decide | omega)))))), fun h0 => ?_⟩
                  refine ⟨by omega, c160 + 1, ⟨r, nt, ng, ns, nl, ov, dn, pa, k72, k73, k74, k75, k76, k77, k78, k79, k171, by omega, ?_, ?_⟩, by omega⟩
                  · exact px_E1_kept hE1 ((e171 389 163 (by first | decide | omega)).trans ((e160 389 163 (by first | decide | omega)).trans ((e149 389 163 (by first | decide | omega)).trans ((e137 389 163 (by first | decide | omega)).trans (e125 389 163 (by first | decide | omega)))))) (fun k hk => (e171 389 (255 + 4 * k) (by first | decide | omega)).trans ((e160 389 (255 + 4 * k) (by first | decide | omega)).trans ((e149 389 (255 + 4 * k) (by first | decide | omega)).trans ((e137 389 (255 + 4 * k) (by first | decide | omega)).trans (e125 389 (255 + 4 * k) (by first | decide | omega))))))
                  · exact hE
                · exact ⟨_, rfl, t171, a160, f160, rfl, s171, (fun c i h => (e171 c i (by first | decide | omega)).trans ((e160 c i (by first | decide | omega)).trans ((e149 c i (by first | decide | omega)).trans ((e137 c i (by first | decide | omega)).trans (e125 c i (by first | decide | omega)))))), fun h0 => absurd h0 h9⟩
              · refine gx_2f (c := .ne) rfl (by first | decide | omega) (by first | decide | omega) hc48 rfl ?_
                refine ex_go (S := (142, [(1, .inl b5), (0, gx_r 383)], [.inl 8, gx_r 383], t137, n, 0)) rfl (fun _ => rfl) rfl ?_
                refine ex_go (S := (146, [(1, .inl b5), (0, gx_r 383)], [.inl 8, gx_r 383], t137, n, 0)) rfl (fun _ => rfl) rfl ?_
                refine gx_put rfl s137.1 rfl rfl (ai_in_h (by first | decide | omega) (by first | decide | omega) (by first | decide | omega)) rfl (fun t182 g182 k182 e182 => ?_)
                have k83 : ai_hv t182 383 19 = some (.inl r) := (e182 383 19 (by first | decide | omega)).trans k38
                have k84 : ai_hv t182 389 162 = some (.inl nt) := (e182 389 162 (by first | decide | omega)).trans k39
                have k85 : ai_hv t182 389 166 = some (.inl ng) := (e182 389 166 (by first | decide | omega)).trans k40
                have k86 : ai_hv t182 389 167 = some (.inl ns) := (e182 389 167 (by first | decide | omega)).trans k41
                have k87 : ai_hv t182 389 168 = some (.inl nl) := (e182 389 168 (by first | decide | omega)).trans k42
                have k88 : ai_hv t182 389 160 = some (.inl ov) := (e182 389 160 (by first | decide | omega)).trans k43
                have k89 : ai_hv t182 389 161 = some (.inl dn) := (e182 389 161 (by first | decide | omega)).trans k44
                have k90 : ai_hv t182 389 165 = some (.inl pa) := (e182 389 165 (by first | decide | omega)).trans k45
                have k91 : ai_hv t182 383 13 = some (.inl c) := (e182 383 13 (by first | decide | omega)).trans k46
                have k92 : ai_hv t182 389 (169 + b5) = some (.inl c) := (e182 389 (169 + b5) (by first | decide | omega)).trans k137
                have s182 : px_S t182 (a + 1) 0 := ⟨g182, (e182 383 7 (by first | decide | omega)).trans s137.2.1, (e182 383 8 (by first | decide | omega)).trans s137.2.2.1, s137.2.2.2⟩
                refine ex_go (S := (150, [(1, .inl b5), (0, gx_r 383)], [gx_r 383], t182, n, 0)) rfl (fun _ => rfl) rfl ?_
                refine ex_go (S := (151, [(1, .inl b5), (0, gx_r 383)], [.inl 0, gx_r 383], t182, n, 0)) rfl (fun _ => rfl) rfl ?_
                obtain ⟨_, r193, t193, a193, f193, c193, rfl, x193⟩ := pk_all0 d n _ _ _ _ s182 k91 (by first | decide | omega)
                have s193 := x193.1
                have e193 := x193.2.1
                have k193 := x193.2.2.1
                have q193 := x193.2.2.2.1
                have b193 := s193.2.2.2
                refine gx_call0 rfl rfl s182.1 rfl rfl r193 rfl ?_
                have k94 : ai_hv t193 383 19 = some (.inl r) := (e193 383 19 (by first | decide | omega)).trans k83
                have k95 : ai_hv t193 389 162 = some (.inl nt) := (e193 389 162 (by first | decide | omega)).trans k84
                have k96 : ai_hv t193 389 166 = some (.inl ng) := (e193 389 166 (by first | decide | omega)).trans k85
                have k97 : ai_hv t193 389 167 = some (.inl ns) := (e193 389 167 (by first | decide | omega)).trans k86
                have k98 : ai_hv t193 389 168 = some (.inl nl) := (e193 389 168 (by first | decide | omega)).trans k87
                have k99 : ai_hv t193 389 160 = some (.inl ov) := (e193 389 160 (by first | decide | omega)).trans k88
                have k100 : ai_hv t193 389 161 = some (.inl dn) := (e193 389 161 (by first | decide | omega)).trans k89
                have k101 : ai_hv t193 389 165 = some (.inl pa) := (e193 389 165 (by first | decide | omega)).trans k90
                have k102 : ai_hv t193 389 (169 + b5) = some (.inl c) := (e193 389 (169 + b5) (by first | decide | omega)).trans k92
                have k103 : ai_hv t193 383 21 = some (.inl 8) := (e193 383 21 (by first | decide | omega)).trans k182
                refine ex_go (S := (155, [(1, .inl b5), (0, gx_r 383)], [gx_r 383], t193, n, 0)) rfl (fun _ => rfl) rfl ?_
                refine ex_go (S := (156, [(1, .inl b5), (0, gx_r 383)], [.inl 0, gx_r 383], t193, n, 0)) rfl (fun _ => rfl) rfl ?_
                refine ex_go (S := (157, [(1, .inl b5), (0, gx_r 383)], [.inl 0, .inl 0, gx_r 383], t193, n, 0)) rfl (fun _ => rfl) rfl ?_
                obtain ⟨_, r204, t204, rfl, s204, e204, k204, ko204, kz204⟩ := pk_emit (d + 31) n (s193) (o := 0) (z := 0) (by first | decide | omega) (by first | decide | omega) (by first | decide | omega) k193
                have b204 := s204.2.2.2
                refine gx_call0 rfl rfl s193.1 rfl rfl r204 rfl ?_
                have k105 : ai_hv t204 383 19 = some (.inl r) := (e204 383 19 (by first | decide | omega)).trans k94
                have k106 : ai_hv t204 389 162 = some (.inl nt) := (e204 389 162 (by first | decide | omega)).trans k95
                have k107 : ai_hv t204 389 166 = some (.inl ng) := (e204 389 166 (by first | decide | omega)).trans k96
                have k108 : ai_hv t204 389 167 = some (.inl ns) := (e204 389 167 (by first | decide | omega)).trans k97
                have k109 : ai_hv t204 389 168 = some (.inl nl) := (e204 389 168 (by first | decide | omega)).trans k98
                have k110 : ai_hv t204 389 160 = some (.inl ov) := (e204 389 160 (by first | decide | omega)).trans k99
                have k111 : ai_hv t204 389 161 = some (.inl dn) := (e204 389 161 (by first | decide | omega)).trans k100
                have k112 : ai_hv t204 389 165 = some (.inl pa) := (e204 389 165 (by first | decide | omega)).trans k101
                have k113 : ai_hv t204 389 (169 + b5) = some (.inl c) := (e204 389 (169 + b5) (by first | decide | omega)).trans k102
                have k114 : ai_hv t204 383 21 = some (.inl 8) := (e204 383 21 (by first | decide | omega)).trans k103
                refine ex_ret (r := (none, t204, n, 0)) rfl (fun _ => rfl) ?_
                by_cases h9 : f193 = 0
                · have hE : px_E4 t204 (c193 + 1) := fun l hl => by
                    by_cases e9 : l = b5
                    · obtain ⟨F, F1, F2, F3⟩ := x193.2.2.2.2 (by first | decide | omega) 0
                      exact Or.inr ⟨c, c193, F, by rw [e9]; exact k113, by omega, by omega, F1, ko204, fun i z1 z2 => px_st_kept (F3 i z1 z2) (e204 _ _ (by first | decide | omega)) (e204 _ _ (by first | decide | omega))⟩
                    · exact px_E4_at hE4 hl (by first | decide | omega) ((e204 389 (169 + l) (by first | decide | omega)).trans ((e193 389 (169 + l) (by first | decide | omega)).trans ((e182 389 (169 + l) (by first | decide | omega)).trans ((e137 389 (169 + l) (by first | decide | omega)).trans (e125 389 (169 + l) (by first | decide | omega)))))) (fun i hi => (e204 390 (1100 + i) (by first | decide | omega)).trans ((e193 390 (1100 + i) (by first | decide | omega)).trans ((e182 390 (1100 + i) (by first | decide | omega)).trans ((e137 390 (1100 + i) (by first | decide | omega)).trans (e125 390 (1100 + i) (by first | decide | omega)))))) (fun i hi => (e204 391 (1100 + i) (by first | decide | omega)).trans ((e193 391 (1100 + i) (by first | decide | omega)).trans ((e182 391 (1100 + i) (by first | decide | omega)).trans ((e137 391 (1100 + i) (by first | decide | omega)).trans (e125 391 (1100 + i) (by first | decide | omega))))))
                  refine ⟨_, rfl, t204, a193, f193, rfl, s204, (fun c i h => (e204 c i (by first | decide | omega)).trans ((e193 c i (by first | decide | omega)).trans ((e182 c i (by first | decide | omega)).trans ((e137 c i (by first | decide | omega)).trans (e125 c i (by first | decide | omega)))))), fun h0 => ?_⟩
                  refine ⟨by omega, c193 + 1, ⟨r, nt, ng, ns, nl, ov, dn, pa, k105, k106, k107, k108, k109, k110, k111, k112, k204, by omega, ?_, ?_⟩, by omega⟩
                  · exact px_E1_kept hE1 ((e204 389 163 (by first | decide | omega)).trans ((e193 389 163 (by first | decide | omega)).trans ((e182 389 163 (by first | decide | omega)).trans ((e137 389 163 (by first | decide | omega)).trans (e125 389 163 (by first | decide | omega)))))) (fun k hk => (e204 389 (255 + 4 * k) (by first | decide | omega)).trans ((e193 389 (255 + 4 * k) (by first | decide | omega)).trans ((e182 389 (255 + 4 * k) (by first | decide | omega)).trans ((e137 389 (255 + 4 * k) (by first | decide | omega)).trans (e125 389 (255 + 4 * k) (by first | decide | omega))))))
                  · exact hE
                · exact ⟨_, rfl, t204, a193, f193, rfl, s204, (fun c i h => (e204 c i (by first | decide | omega)).trans ((e193 c i (by first | decide | omega)).trans ((e182 c i (by first | decide | omega)).trans ((e137 c i (by first | decide | omega)).trans (e125 c i (by first | decide | omega)))))), fun h0 => absurd h0 h9⟩
            · refine gx_1f (c := .ne) rfl (by first | decide | omega) hc47 rfl ?_
              refine ex_go (S := (132, [(1, .inl b5), (0, gx_r 383)], [.inl 7, gx_r 383], t137, n, 0)) rfl (fun _ => rfl) rfl ?_
              refine ex_go (S := (146, [(1, .inl b5), (0, gx_r 383)], [.inl 7, gx_r 383], t137, n, 0)) rfl (fun _ => rfl) rfl ?_
              refine gx_put rfl s137.1 rfl rfl (ai_in_h (by first | decide | omega) (by first | decide | omega) (by first | decide | omega)) rfl (fun t215 g215 k215 e215 => ?_)
              have k116 : ai_hv t215 383 19 = some (.inl r) := (e215 383 19 (by first | decide | omega)).trans k38
              have k117 : ai_hv t215 389 162 = some (.inl nt) := (e215 389 162 (by first | decide | omega)).trans k39
              have k118 : ai_hv t215 389 166 = some (.inl ng) := (e215 389 166 (by first | decide | omega)).trans k40
              have k119 : ai_hv t215 389 167 = some (.inl ns) := (e215 389 167 (by first | decide | omega)).trans k41
              have k120 : ai_hv t215 389 168 = some (.inl nl) := (e215 389 168 (by first | decide | omega)).trans k42
              have k121 : ai_hv t215 389 160 = some (.inl ov) := (e215 389 160 (by first | decide | omega)).trans k43
              have k122 : ai_hv t215 389 161 = some (.inl dn) := (e215 389 161 (by first | decide | omega)).trans k44
              have k123 : ai_hv t215 389 165 = some (.inl pa) := (e215 389 165 (by first | decide | omega)).trans k45
              have k124 : ai_hv t215 383 13 = some (.inl c) := (e215 383 13 (by first | decide | omega)).trans k46
              have k125 : ai_hv t215 389 (169 + b5) = some (.inl c) := (e215 389 (169 + b5) (by first | decide | omega)).trans k137
              have s215 : px_S t215 (a + 1) 0 := ⟨g215, (e215 383 7 (by first | decide | omega)).trans s137.2.1, (e215 383 8 (by first | decide | omega)).trans s137.2.2.1, s137.2.2.2⟩
              refine ex_go (S := (150, [(1, .inl b5), (0, gx_r 383)], [gx_r 383], t215, n, 0)) rfl (fun _ => rfl) rfl ?_
              refine ex_go (S := (151, [(1, .inl b5), (0, gx_r 383)], [.inl 0, gx_r 383], t215, n, 0)) rfl (fun _ => rfl) rfl ?_
              obtain ⟨_, r226, t226, a226, f226, c226, rfl, x226⟩ := pk_all0 d n _ _ _ _ s215 k124 (by first | decide | omega)
              have s226 := x226.1
              have e226 := x226.2.1
              have k226 := x226.2.2.1
              have q226 := x226.2.2.2.1
              have b226 := s226.2.2.2
              refine gx_call0 rfl rfl s215.1 rfl rfl r226 rfl ?_
              have k127 : ai_hv t226 383 19 = some (.inl r) := (e226 383 19 (by first | decide | omega)).trans k116
              have k128 : ai_hv t226 389 162 = some (.inl nt) := (e226 389 162 (by first | decide | omega)).trans k117
              have k129 : ai_hv t226 389 166 = some (.inl ng) := (e226 389 166 (by first | decide | omega)).trans k118
              have k130 : ai_hv t226 389 167 = some (.inl ns) := (e226 389 167 (by first | decide | omega)).trans k119
              have k131 : ai_hv t226 389 168 = some (.inl nl) := (e226 389 168 (by first | decide | omega)).trans k120
              have k132 : ai_hv t226 389 160 = some (.inl ov) := (e226 389 160 (by first | decide | omega)).trans k121
              have k133 : ai_hv t226 389 161 = some (.inl dn) := (e226 389 161 (by first | decide | omega)).trans k122
              have k134 : ai_hv t226 389 165 = some (.inl pa) := (e226 389 165 (by first | decide | omega)).trans k123
              have k135 : ai_hv t226 389 (169 + b5) = some (.inl c) := (e226 389 (169 + b5) (by first | decide | omega)).trans k125
              have k136 : ai_hv t226 383 21 = some (.inl 7) := (e226 383 21 (by first | decide | omega)).trans k215
              refine ex_go (S := (155, [(1, .inl b5), (0, gx_r 383)], [gx_r 383], t226, n, 0)) rfl (fun _ => rfl) rfl ?_
              refine ex_go (S := (156, [(1, .inl b5), (0, gx_r 383)], [.inl 0, gx_r 383], t226, n, 0)) rfl (fun _ => rfl) rfl ?_
              refine ex_go (S := (157, [(1, .inl b5), (0, gx_r 383)], [.inl 0, .inl 0, gx_r 383], t226, n, 0)) rfl (fun _ => rfl) rfl ?_
              obtain ⟨_, r237, t237, rfl, s237, e237, k237, ko237, kz237⟩ := pk_emit (d + 31) n (s226) (o := 0) (z := 0) (by first | decide | omega) (by first | decide | omega) (by first | decide | omega) k226
              have b237 := s237.2.2.2
              refine gx_call0 rfl rfl s226.1 rfl rfl r237 rfl ?_
              have k138 : ai_hv t237 383 19 = some (.inl r) := (e237 383 19 (by first | decide | omega)).trans k127
              have k139 : ai_hv t237 389 162 = some (.inl nt) := (e237 389 162 (by first | decide | omega)).trans k128
              have k140 : ai_hv t237 389 166 = some (.inl ng) := (e237 389 166 (by first | decide | omega)).trans k129
              have k141 : ai_hv t237 389 167 = some (.inl ns) := (e237 389 167 (by first | decide | omega)).trans k130
              have k142 : ai_hv t237 389 168 = some (.inl nl) := (e237 389 168 (by first | decide | omega)).trans k131
              have k143 : ai_hv t237 389 160 = some (.inl ov) := (e237 389 160 (by first | decide | omega)).trans k132
              have k144 : ai_hv t237 389 161 = some (.inl dn) := (e237 389 161 (by first | decide | omega)).trans k133
              have k145 : ai_hv t237 389 165 = some (.inl pa) := (e237 389 165 (by first | decide | omega)).trans k134
              have k146 : ai_hv t237 389 (169 + b5) = some (.inl c) := (e237 389 (169 + b5) (by first | decide | omega)).trans k135
              have k147 : ai_hv t237 383 21 = some (.inl 7) := (e237 383 21 (by first | decide | omega)).trans k136
              refine ex_ret (r := (none, t237, n, 0)) rfl (fun _ => rfl) ?_
              by_cases h9 : f226 = 0
              · have hE : px_E4 t237 (c226 + 1) := fun l hl => by
                  by_cases e9 : l = b5
                  · obtain ⟨F, F1, F2, F3⟩ := x226.2.2.2.2 (by first | decide | omega) 0
                    exact Or.inr ⟨c, c226, F, by rw [e9]; exact k146, by omega, by omega, F1, ko237, fun i z1 z2 => px_st_kept (F3 i z1 z2) (e237 _ _ (by first | decide | omega)) (e237 _ _ (by first | decide | omega))⟩
                  · exact px_E4_at hE4 hl (by first | decide | omega) ((e237 389 (169 + l) (by first | decide | omega)).trans ((e226 389 (169 + l) (by first | decide | omega)).trans ((e215 389 (169 + l) (by first | decide | omega)).trans ((e137 389 (169 + l) (by first | decide | omega)).trans (e125 389 (169 + l) (by first | decide | omega)))))) (fun i hi => (e237 390 (1100 + i) (by first | decide | omega)).trans ((e226 390 (1100 + i) (by first | decide | omega)).trans ((e215 390 (1100 + i) (by first | decide | omega)).trans ((e137 390 (1100 + i) (by first | decide | omega)).trans (e125 390 (1100 + i) (by first | decide | omega)))))) (fun i hi => (e237 391 (1100 + i) (by first | decide | omega)).trans ((e226 391 (1100 + i) (by first | decide | omega)).trans ((e215 391 (1100 + i) (by first | decide | omega)).trans ((e137 391 (1100 + i) (by first | decide | omega)).trans (e125 391 (1100 + i) (by first | decide | omega))))))
                refine ⟨_, rfl, t237, a226, f226, rfl, s237, (fun c i h => (e237 c i (by first | decide | omega)).trans ((e226 c i (by first | decide | omega)).trans ((e215 c i (by first | decide | omega)).trans ((e137 c i (by first | decide | omega)).trans (e125 c i (by first | decide | omega)))))), fun h0 => ?_⟩
                refine ⟨by omega, c226 + 1, ⟨r, nt, ng, ns, nl, ov, dn, pa, k138, k139, k140, k141, k142, k143, k144, k145, k237, by omega, ?_, ?_⟩, by omega⟩
                · exact px_E1_kept hE1 ((e237 389 163 (by first | decide | omega)).trans ((e226 389 163 (by first | decide | omega)).trans ((e215 389 163 (by first | decide | omega)).trans ((e137 389 163 (by first | decide | omega)).trans (e125 389 163 (by first | decide | omega)))))) (fun k hk => (e237 389 (255 + 4 * k) (by first | decide | omega)).trans ((e226 389 (255 + 4 * k) (by first | decide | omega)).trans ((e215 389 (255 + 4 * k) (by first | decide | omega)).trans ((e137 389 (255 + 4 * k) (by first | decide | omega)).trans (e125 389 (255 + 4 * k) (by first | decide | omega))))))
                · exact hE
              · exact ⟨_, rfl, t237, a226, f226, rfl, s237, (fun c i h => (e237 c i (by first | decide | omega)).trans ((e226 c i (by first | decide | omega)).trans ((e215 c i (by first | decide | omega)).trans ((e137 c i (by first | decide | omega)).trans (e125 c i (by first | decide | omega)))))), fun h0 => absurd h0 h9⟩
          · refine gx_2f (c := .ne) rfl (by first | decide | omega) (by first | decide | omega) hc36 rfl ?_
            refine ex_go (S := (90, [(1, .inl b5), (0, gx_r 383)], [gx_r 383], t125, n, 0)) rfl (fun _ => rfl) rfl ?_
            refine ex_go (S := (91, [(1, .inl b5), (0, gx_r 383)], [.inl 1, gx_r 383], t125, n, 0)) rfl (fun _ => rfl) rfl ?_
            refine gx_put rfl s125.1 rfl rfl (ai_in_h (by first | decide | omega) (by first | decide | omega) (by first | decide | omega)) rfl (fun t248 g248 k248 e248 => ?_)
            have k149 : ai_hv t248 383 19 = some (.inl r) := (e248 383 19 (by first | decide | omega)).trans k26
            have k150 : ai_hv t248 389 162 = some (.inl nt) := (e248 389 162 (by first | decide | omega)).trans k27
            have k151 : ai_hv t248 389 166 = some (.inl ng) := (e248 389 166 (by first | decide | omega)).trans k28
            have k152 : ai_hv t248 389 167 = some (.inl ns) := (e248 389 167 (by first | decide | omega)).trans k29
            have k153 : ai_hv t248 389 168 = some (.inl nl) := (e248 389 168 (by first | decide | omega)).trans k30
            have k154 : ai_hv t248 389 160 = some (.inl ov) := (e248 389 160 (by first | decide | omega)).trans k31
            have k155 : ai_hv t248 389 161 = some (.inl dn) := (e248 389 161 (by first | decide | omega)).trans k32
            have k156 : ai_hv t248 389 165 = some (.inl pa) := (e248 389 165 (by first | decide | omega)).trans k33
            have k157 : ai_hv t248 383 13 = some (.inl c) := (e248 383 13 (by first | decide | omega)).trans k34
            have k158 : ai_hv t248 389 (169 + b5) = some (.inl 4294967295) := (e248 389 (169 + b5) (by first | decide | omega)).trans k35
            have s248 : px_S t248 (a + 1) 0 := ⟨g248, (e248 383 7 (by first | decide | omega)).trans s125.2.1, (e248 383 8 (by first | decide | omega)).trans s125.2.2.1, s125.2.2.2⟩
            refine ex_go (S := (95, [(1, .inl b5), (0, gx_r 383)], [gx_r 383], t248, n, 0)) rfl (fun _ => rfl) rfl ?_
            refine gx_ref (c := 389) rfl s248.1 rfl rfl rfl rfl ?_
            refine ex_go (S := (101, [(1, .inl b5), (0, gx_r 383)], [.inl 165, gx_r 389], t248, n, 0)) rfl (fun _ => rfl) rfl ?_
            refine ex_go (S := (102, [(1, .inl b5), (0, gx_r 383)], [gx_r 383, .inl 165, gx_r 389], t248, n, 0)) rfl (fun _ => rfl) rfl ?_
            refine ex_go (S := (103, [(1, .inl b5), (0, gx_r 383)], [.inl 1, gx_r 383, .inl 165, gx_r 389], t248, n, 0)) rfl (fun _ => rfl) rfl ?_
            refine ex_go (S := (104, [(1, .inl b5), (0, gx_r 383)], [.inl 4, .inl 1, gx_r 383, .inl 165, gx_r 389], t248, n, 0)) rfl (fun _ => rfl) rfl ?_
            obtain ⟨_, r259, v259, t259, a259, f259, rfl, s259, e259, q259⟩ := pk_takeNumber (d + 30) n (s248) (lo := 1) (hi := 4) (by first | decide | omega) (by first | decide | omega)
            have b259 := s259.2.2.2
            refine gx_call1 rfl rfl s248.1 rfl rfl r259 rfl ?_
            have k160 : ai_hv t259 383 19 = some (.inl r) := (e259 383 19 (by first | decide | omega)).trans k149
            have k161 : ai_hv t259 389 162 = some (.inl nt) := (e259 389 162 (by first | decide | omega)).trans k150
            have k162 : ai_hv t259 389 166 = some (.inl ng) := (e259 389 166 (by first | decide | omega)).trans k151
            have k163 : ai_hv t259 389 167 = some (.inl ns) := (e259 389 167 (by first | decide | omega)).trans k152
            have k164 : ai_hv t259 389 168 = some (.inl nl) := (e259 389 168 (by first | decide | omega)).trans k153
            have k165 : ai_hv t259 389 160 = some (.inl ov) := (e259 389 160 (by first | decide | omega)).trans k154
            have k166 : ai_hv t259 389 161 = some (.inl dn) := (e259 389 161 (by first | decide | omega)).trans k155
            have k167 : ai_hv t259 389 165 = some (.inl pa) := (e259 389 165 (by first | decide | omega)).trans k156
            have k168 : ai_hv t259 383 13 = some (.inl c) := (e259 383 13 (by first | decide | omega)).trans k157
            have k169 : ai_hv t259 389 (169 + b5) = some (.inl 4294967295) := (e259 389 (169 + b5) (by first | decide | omega)).trans k158
            have k170 : ai_hv t259 383 20 = some (.inl 1) := (e259 383 20 (by first | decide | omega)).trans k248
            refine gx_ap rfl (fun _ => rfl) s259.1 rfl rfl rfl (show 165 < 320 from by omega) rfl (ai_in_h (by first | decide | omega) (by first | decide | omega) (by first | decide | omega)) rfl (fun t271 g271 k271 e271 => ?_)
            have k172 : ai_hv t271 383 19 = some (.inl r) := (e271 383 19 (by first | decide | omega)).trans k160
            have k173 : ai_hv t271 389 162 = some (.inl nt) := (e271 389 162 (by first | decide | omega)).trans k161
            have k174 : ai_hv t271 389 166 = some (.inl ng) := (e271 389 166 (by first | decide | omega)).trans k162
            have k175 : ai_hv t271 389 167 = some (.inl ns) := (e271 389 167 (by first | decide | omega)).trans k163
            have k176 : ai_hv t271 389 168 = some (.inl nl) := (e271 389 168 (by first | decide | omega)).trans k164
            have k177 : ai_hv t271 389 160 = some (.inl ov) := (e271 389 160 (by first | decide | omega)).trans k165
            have k178 : ai_hv t271 389 161 = some (.inl dn) := (e271 389 161 (by first | decide | omega)).trans k166
            have k179 : ai_hv t271 383 13 = some (.inl c) := (e271 383 13 (by first | decide | omega)).trans k168
            have k180 : ai_hv t271 389 (169 + b5) = some (.inl 4294967295) := (e271 389 (169 + b5) (by first | decide | omega)).trans k169
            have k181 : ai_hv t271 383 20 = some (.inl 1) := (e271 383 20 (by first | decide | omega)).trans k170
            have s271 : px_S t271 a259 f259 := ⟨g271, (e271 383 7 (by first | decide | omega)).trans s259.2.1, (e271 383 8 (by first | decide | omega)).trans s259.2.2.1, s259.2.2.2⟩
            refine ex_go (S := (160, [(1, .inl b5), (0, gx_r 383)], [], t271, n, 0)) rfl (fun _ => rfl) rfl ?_
            refine ex_ret (r := (none, t271, n, 0)) rfl (fun _ => rfl) ?_
            refine ⟨_, rfl, t271, a259, f259, rfl, s271, (fun c i h => (e271 c i (by first | decide | omega)).trans ((e259 c i (by first | decide | omega)).trans ((e248 c i (by first | decide | omega)).trans (e125 c i (by first | decide | omega))))), fun h0 => ?_⟩
            refine ⟨by omega, c, ⟨r, nt, ng, ns, nl, ov, dn, v259, k172, k173, k174, k175, k176, k177, k178, k271, k179, by omega, ?_, ?_⟩, by omega⟩
            · exact px_E1_kept hE1 ((e271 389 163 (by first | decide | omega)).trans ((e259 389 163 (by first | decide | omega)).trans ((e248 389 163 (by first | decide | omega)).trans (e125 389 163 (by first | decide | omega))))) (fun k hk => (e271 389 (255 + 4 * k) (by first | decide | omega)).trans ((e259 389 (255 + 4 * k) (by first | decide | omega)).trans ((e248 389 (255 + 4 * k) (by first | decide | omega)).trans (e125 389 (255 + 4 * k) (by first | decide | omega)))))
            · exact px_E4_kept hE4 (Nat.le_refl _) (fun l hl => (e271 389 (169 + l) (by first | decide | omega)).trans ((e259 389 (169 + l) (by first | decide | omega)).trans ((e248 389 (169 + l) (by first | decide | omega)).trans (e125 389 (169 + l) (by first | decide | omega))))) (fun i hi => (e271 390 (1100 + i) (by first | decide | omega)).trans ((e259 390 (1100 + i) (by first | decide | omega)).trans ((e248 390 (1100 + i) (by first | decide | omega)).trans (e125 390 (1100 + i) (by first | decide | omega))))) (fun i hi => (e271 391 (1100 + i) (by first | decide | omega)).trans ((e259 391 (1100 + i) (by first | decide | omega)).trans ((e248 391 (1100 + i) (by first | decide | omega)).trans (e125 391 (1100 + i) (by first | decide | omega)))))
      · refine gx_2f (c := .ne) rfl (by first | decide | omega) (by first | decide | omega) hc9 rfl ?_
        refine ex_go (S := (39, [(1, .inl b5), (0, gx_r 383)], [gx_r 383], t0, n, 0)) rfl (fun _ => rfl) rfl ?_
        obtain ⟨m182, k183, m182l, m182h⟩ := gx_in (c := 383) (i := 20) (lo := 0) (hi := 1) s0.1 rfl rfl rfl rfl
        refine gx_get rfl s0.1 rfl k183 rfl ?_
        by_cases hc184 : m182 = 0
        · refine gx_1t (c := .eq) rfl (by first | decide | omega) hc184 rfl ?_
          refine ex_go (S := (67, [(1, .inl b5), (0, gx_r 383)], [gx_r 383], t0, n, 0)) rfl (fun _ => rfl) rfl ?_
          refine gx_get rfl s0.1 rfl s0.2.2.1 rfl ?_
          refine ex_go (S := (74, [(1, .inl b5), (0, gx_r 383)], [], t0, n, 0)) rfl (fun _ => rfl) rfl ?_
          refine ex_go (S := (75, [(1, .inl b5), (0, gx_r 383)], [gx_r 383], t0, n, 0)) rfl (fun _ => rfl) rfl ?_
          refine ex_go (S := (76, [(1, .inl b5), (0, gx_r 383)], [gx_r 383, gx_r 383], t0, n, 0)) rfl (fun _ => rfl) rfl ?_
          refine gx_get rfl s0.1 rfl s0.2.1 rfl ?_
          refine ex_go (S := (80, [(1, .inl b5), (0, gx_r 383)], [.inl 1, .inl a, gx_r 383], t0, n, 0)) rfl (fun _ => rfl) rfl ?_
          refine ex_iadd rfl (by first | decide | omega) rfl ?_
          refine gx_put rfl s0.1 rfl rfl (ai_in_h (by first | decide | omega) (by first | decide | omega) (by first | decide | omega)) rfl (fun t285 g285 k285 e285 => ?_)
          have k186 : ai_hv t285 383 19 = some (.inl r) := (e285 383 19 (by first | decide | omega)).trans kr
          have k187 : ai_hv t285 389 162 = some (.inl nt) := (e285 389 162 (by first | decide | omega)).trans knt
          have k188 : ai_hv t285 389 166 = some (.inl ng) := (e285 389 166 (by first | decide | omega)).trans kng
          have k189 : ai_hv t285 389 167 = some (.inl ns) := (e285 389 167 (by first | decide | omega)).trans kns
          have k190 : ai_hv t285 389 168 = some (.inl nl) := (e285 389 168 (by first | decide | omega)).trans knl
          have k191 : ai_hv t285 389 160 = some (.inl ov) := (e285 389 160 (by first | decide | omega)).trans kov
          have k192 : ai_hv t285 389 161 = some (.inl dn) := (e285 389 161 (by first | decide | omega)).trans kdn
          have k193 : ai_hv t285 389 165 = some (.inl pa) := (e285 389 165 (by first | decide | omega)).trans kpa
          have k194 : ai_hv t285 383 13 = some (.inl c) := (e285 383 13 (by first | decide | omega)).trans kc
          have k195 : ai_hv t285 383 20 = some (.inl m182) := (e285 383 20 (by first | decide | omega)).trans k183
          have s285 : px_S t285 (a + 1) 0 := ⟨g285, k285, (e285 383 8 (by first | decide | omega)).trans s0.2.2.1, by omega, s0.2.2.2.2⟩
          refine ex_go (S := (85, [(1, .inl b5), (0, gx_r 383)], [.inl b5], t285, n, 0)) rfl (fun _ => rfl) rfl ?_
          refine ex_go (S := (86, [(1, .inl b5), (0, gx_r 383)], [.inl 3, .inl b5], t285, n, 0)) rfl (fun _ => rfl) rfl ?_
          by_cases hc196 : b5 ≠ 3
          · refine gx_2t (c := .ne) rfl (by first | decide | omega) (by first | decide | omega) hc196 rfl ?_
            refine ex_go (S := (112, [(1, .inl b5), (0, gx_r 383)], [gx_r 383], t285, n, 0)) rfl (fun _ => rfl) rfl ?_
            refine gx_ref (c := 389) rfl s285.1 rfl rfl rfl rfl ?_
            refine ex_go (S := (118, [(1, .inl b5), (0, gx_r 383)], [.inl 169, gx_r 389], t285, n, 0)) rfl (fun _ => rfl) rfl ?_
            refine ex_go (S := (119, [(1, .inl b5), (0, gx_r 383)], [.inl b5, .inl 169, gx_r 389], t285, n, 0)) rfl (fun _ => rfl) rfl ?_
            refine ex_iadd rfl (by first | decide | omega) rfl ?_
            refine ex_go (S := (121, [(1, .inl b5), (0, gx_r 383)], [gx_r 383, .inl (169 + b5), gx_r 389], t285, n, 0)) rfl (fun _ => rfl) rfl ?_
            refine gx_get rfl s285.1 rfl k194 rfl ?_
            refine gx_ap rfl (fun _ => rfl) s285.1 rfl rfl rfl (show 169 + b5 < 320 from by omega) (px_run_law b5 (by first | decide | omega) (by first | decide | omega)) (ai_in_h (by first | decide | omega) (by first | decide | omega) (by first | decide | omega)) rfl (fun t297 g297 k297 e297 => ?_)
            have k198 : ai_hv t297 383 19 = some (.inl r) := (e297 383 19 (by first | decide | omega)).trans k186
            have k199 : ai_hv t297 389 162 = some (.inl nt) := (e297 389 162 (by first | decide | omega)).trans k187
            have k200 : ai_hv t297 389 166 = some (.inl ng) := (e297 389 166 (by first | decide | omega)).trans k188
            have k201 : ai_hv t297 389 167 = some (.inl ns) := (e297 389 167 (by first | decide | omega)).trans k189
            have k202 : ai_hv t297 389 168 = some (.inl nl) := (e297 389 168 (by first | decide | omega)).trans k190
            have k203 : ai_hv t297 389 160 = some (.inl ov) := (e297 389 160 (by first | decide | omega)).trans k191
            have k204 : ai_hv t297 389 161 = some (.inl dn) := (e297 389 161 (by first | decide | omega)).trans k192
            have k205 : ai_hv t297 389 165 = some (.inl pa) := (e297 389 165 (by first | decide | omega)).trans k193
            have k206 : ai_hv t297 383 13 = some (.inl c) := (e297 383 13 (by first | decide | omega)).trans k194
            have k207 : ai_hv t297 383 20 = some (.inl m182) := (e297 383 20 (by first | decide | omega)).trans k195
            have s297 : px_S t297 (a + 1) 0 := ⟨g297, (e297 383 7 (by first | decide | omega)).trans s285.2.1, (e297 383 8 (by first | decide | omega)).trans s285.2.2.1, s285.2.2.2⟩
            refine ex_go (S := (126, [(1, .inl b5), (0, gx_r 383)], [gx_r 383], t297, n, 0)) rfl (fun _ => rfl) rfl ?_
            refine ex_go (S := (127, [(1, .inl b5), (0, gx_r 383)], [.inl b5, gx_r 383], t297, n, 0)) rfl (fun _ => rfl) rfl ?_
            by_cases hc208 : b5 ≠ 0
            · refine gx_1t (c := .ne) rfl (by first | decide | omega) hc208 rfl ?_
              refine ex_go (S := (136, [(1, .inl b5), (0, gx_r 383)], [.inl b5, gx_r 383], t297, n, 0)) rfl (fun _ => rfl) rfl ?_
              refine ex_go (S := (137, [(1, .inl b5), (0, gx_r 383)], [.inl 1, .inl b5, gx_r 383], t297, n, 0)) rfl (fun _ => rfl) rfl ?_
              by_cases hc209 : b5 ≠ 1
              · refine gx_2t (c := .ne) rfl (by first | decide | omega) (by first | decide | omega) hc209 rfl ?_
                refine ex_go (S := (146, [(1, .inl b5), (0, gx_r 383)], [.inl 2, gx_r 383], t297, n, 0)) rfl (fun _ => rfl) rfl ?_
                refine gx_put rfl s297.1 rfl rfl (ai_in_h (by first | decide | omega) (by first | decide | omega) (by first | decide | omega)) rfl (fun t310 g310 k310 e310 => ?_)
                have k211 : ai_hv t310 383 19 = some (.inl r) := (e310 383 19 (by first | decide | omega)).trans k198
                have k212 : ai_hv t310 389 162 = some (.inl nt) := (e310 389 162 (by first | decide | omega)).trans k199
                have k213 : ai_hv t310 389 166 = some (.inl ng) := (e310 389 166 (by first | decide | omega)).trans k200
                have k214 : ai_hv t310 389 167 = some (.inl ns) := (e310 389 167 (by first | decide | omega)).trans k201
                have k215 : ai_hv t310 389 168 = some (.inl nl) := (e310 389 168 (by first | decide | omega)).trans k202
                have k216 : ai_hv t310 389 160 = some (.inl ov) := (e310 389 160 (by first | decide | omega)).trans k203
                have k217 : ai_hv t310 389 161 = some (.inl dn) := (e310 389 161 (by first | decide | omega)).trans k204
                have k218 : ai_hv t310 389 165 = some (.inl pa) := (e310 389 165 (by first | decide | omega)).trans k205
                have k219 : ai_hv t310 383 13 = some (.inl c) := (e310 383 13 (by first | decide | omega)).trans k206
                have k220 : ai_hv t310 383 20 = some (.inl m182) := (e310 383 20 (by first | decide | omega)).trans k207
                have k221 : ai_hv t310 389 (169 + b5) = some (.inl c) := (e310 389 (169 + b5) (by first | decide | omega)).trans k297
                have s310 : px_S t310 (a + 1) 0 := ⟨g310, (e310 383 7 (by first | decide | omega)).trans s297.2.1, (e310 383 8 (by first | decide | omega)).trans s297.2.2.1, s297.2.2.2⟩
                refine ex_go (S := (150, [(1, .inl b5), (0, gx_r 383)], [gx_r 383], t310, n, 0)) rfl (fun _ => rfl) rfl ?_
                refine ex_go (S := (151, [(1, .inl b5), (0, gx_r 383)], [.inl 0, gx_r 383], t310, n, 0)) rfl (fun _ => rfl) rfl ?_
                obtain ⟨_, r322, t322, a322, f322, c322, rfl, x322⟩ := pk_all0 d n _ _ _ _ s310 k219 (by first | decide | omega)
                have s322 := x322.1
                have e322 := x322.2.1
                have k322 := x322.2.2.1
                have q322 := x322.2.2.2.1
                have b322 := s322.2.2.2
                refine gx_call0 rfl rfl s310.1 rfl rfl r322 rfl ?_
                have k223 : ai_hv t322 383 19 = some (.inl r) := (e322 383 19 (by first | decide | omega)).trans k211
                have k224 : ai_hv t322 389 162 = some (.inl nt) := (e322 389 162 (by first | decide | omega)).trans k212
                have k225 : ai_hv t322 389 166 = some (.inl ng) := (e322 389 166 (by first | decide | omega)).trans k213
                have k226 : ai_hv t322 389 167 = some (.inl ns) := (e322 389 167 (by first | decide | omega)).trans k214
                have k227 : ai_hv t322 389 168 = some (.inl nl) := (e322 389 168 (by first | decide | omega)).trans k215
                have k228 : ai_hv t322 389 160 = some (.inl ov) := (e322 389 160 (by first | decide | omega)).trans k216
                have k229 : ai_hv t322 389 161 = some (.inl dn) := (e322 389 161 (by first | decide | omega)).trans k217
                have k230 : ai_hv t322 389 165 = some (.inl pa) := (e322 389 165 (by first | decide | omega)).trans k218
                have k231 : ai_hv t322 383 20 = some (.inl m182) := (e322 383 20 (by first | decide | omega)).trans k220
                have k232 : ai_hv t322 389 (169 + b5) = some (.inl c) := (e322 389 (169 + b5) (by first | decide | omega)).trans k221
                have k233 : ai_hv t322 383 21 = some (.inl 2) := (e322 383 21 (by first | decide | omega)).trans k310
                refine ex_go (S := (155, [(1, .inl b5), (0, gx_r 383)], [gx_r 383], t322, n, 0)) rfl (fun _ => rfl) rfl ?_
                refine ex_go (S := (156, [(1, .inl b5), (0, gx_r 383)], [.inl 0, gx_r 383], t322, n, 0)) rfl (fun _ => rfl) rfl ?_
                refine ex_go (S := (157, [(1, .inl b5), (0, gx_r 383)], [.inl 0, .inl 0, gx_r 383], t322, n, 0)) rfl (fun _ => rfl) rfl ?_
                obtain ⟨_, r334, t334, rfl, s334, e334, k334, ko334, kz334⟩ := pk_emit (d + 31) n (s322) (o := 0) (z := 0) (by first | decide | omega) (by first | decide | omega) (by first | decide | omega) k322
                have b334 := s334.2.2.2
                refine gx_call0 rfl rfl s322.1 rfl rfl r334 rfl ?_
                have k235 : ai_hv t334 383 19 = some (.inl r) := (e334 383 19 (by first | decide | omega)).trans k223
                have k236 : ai_hv t334 389 162 = some (.inl nt) := (e334 389 162 (by first | decide | omega)).trans k224
                have k237 : ai_hv t334 389 166 = some (.inl ng) := (e334 389 166 (by first | decide | omega)).trans k225
                have k238 : ai_hv t334 389 167 = some (.inl ns) := (e334 389 167 (by first | decide | omega)).trans k226
                have k239 : ai_hv t334 389 168 = some (.inl nl) := (e334 389 168 (by first | decide | omega)).trans k227
                have k240 : ai_hv t334 389 160 = some (.inl ov) := (e334 389 160 (by first | decide | omega)).trans k228
                have k241 : ai_hv t334 389 161 = some (.inl dn) := (e334 389 161 (by first | decide | omega)).trans k229
                have k242 : ai_hv t334 389 165 = some (.inl pa) := (e334 389 165 (by first | decide | omega)).trans k230
                have k243 : ai_hv t334 383 20 = some (.inl m182) := (e334 383 20 (by first | decide | omega)).trans k231
                have k244 : ai_hv t334 389 (169 + b5) = some (.inl c) := (e334 389 (169 + b5) (by first | decide | omega)).trans k232
                have k245 : ai_hv t334 383 21 = some (.inl 2) := (e334 383 21 (by first | decide | omega)).trans k233
                refine ex_ret (r := (none, t334, n, 0)) rfl (fun _ => rfl) ?_
                by_cases h9 : f322 = 0
                · have hE : px_E4 t334 (c322 + 1) := fun l hl => by
                    by_cases e9 : l = b5
                    · obtain ⟨F, F1, F2, F3⟩ := x322.2.2.2.2 (by first | decide | omega) 0
                      exact Or.inr ⟨c, c322, F, by rw [e9]; exact k244, by omega, by omega, F1, ko334, fun i z1 z2 => px_st_kept (F3 i z1 z2) (e334 _ _ (by first | decide | omega)) (e334 _ _ (by first | decide | omega))⟩
                    · exact px_E4_at hE4 hl (by first | decide | omega) ((e334 389 (169 + l) (by first | decide | omega)).trans ((e322 389 (169 + l) (by first | decide | omega)).trans ((e310 389 (169 + l) (by first | decide | omega)).trans ((e297 389 (169 + l) (by first | decide | omega)).trans (e285 389 (169 + l) (by first | decide | omega)))))) (fun i hi => (e334 390 (1100 + i) (by first | decide | omega)).trans ((e322 390 (1100 + i) (by first | decide | omega)).trans ((e310 390 (1100 + i) (by first | decide | omega)).trans ((e297 390 (1100 + i) (by first | decide | omega)).trans (e285 390 (1100 + i) (by first | decide | omega)))))) (fun i hi => (e334 391 (1100 + i) (by first | decide | omega)).trans ((e322 391 (1100 + i) (by first | decide | omega)).trans ((e310 391 (1100 + i) (by first | decide | omega)).trans ((e297 391 (1100 + i) (by first | decide | omega)).trans (e285 391 (1100 + i) (by first | decide | omega))))))
                  refine ⟨_, rfl, t334, a322, f322, rfl, s334, (fun c i h => (e334 c i (by first | decide | omega)).trans ((e322 c i (by first | decide | omega)).trans ((e310 c i (by first | decide | omega)).trans ((e297 c i (by first | decide | omega)).trans (e285 c i (by first | decide | omega)))))), fun h0 => ?_⟩
                  refine ⟨by omega, c322 + 1, ⟨r, nt, ng, ns, nl, ov, dn, pa, k235, k236, k237, k238, k239, k240, k241, k242, k334, by omega, ?_, ?_⟩, by omega⟩
                  · exact px_E1_kept hE1 ((e334 389 163 (by first | decide | omega)).trans ((e322 389 163 (by first | decide | omega)).trans ((e310 389 163 (by first | decide | omega)).trans ((e297 389 163 (by first | decide | omega)).trans (e285 389 163 (by first | decide | omega)))))) (fun k hk => (e334 389 (255 + 4 * k) (by first | decide | omega)).trans ((e322 389 (255 + 4 * k) (by first | decide | omega)).trans ((e310 389 (255 + 4 * k) (by first | decide | omega)).trans ((e297 389 (255 + 4 * k) (by first | decide | omega)).trans (e285 389 (255 + 4 * k) (by first | decide | omega))))))
                  · exact hE
                · exact ⟨_, rfl, t334, a322, f322, rfl, s334, (fun c i h => (e334 c i (by first | decide | omega)).trans ((e322 c i (by first | decide | omega)).trans ((e310 c i (by first | decide | omega)).trans ((e297 c i (by first | decide | omega)).trans (e285 c i (by first | decide | omega)))))), fun h0 => absurd h0 h9⟩
              · refine gx_2f (c := .ne) rfl (by first | decide | omega) (by first | decide | omega) hc209 rfl ?_
                refine ex_go (S := (142, [(1, .inl b5), (0, gx_r 383)], [.inl 8, gx_r 383], t297, n, 0)) rfl (fun _ => rfl) rfl ?_
                refine ex_go (S := (146, [(1, .inl b5), (0, gx_r 383)], [.inl 8, gx_r 383], t297, n, 0)) rfl (fun _ => rfl) rfl ?_
                refine gx_put rfl s297.1 rfl rfl (ai_in_h (by first | decide | omega) (by first | decide | omega) (by first | decide | omega)) rfl (fun t346 g346 k346 e346 => ?_)
                have k247 : ai_hv t346 383 19 = some (.inl r) := (e346 383 19 (by first | decide | omega)).trans k198
                have k248 : ai_hv t346 389 162 = some (.inl nt) := (e346 389 162 (by first | decide | omega)).trans k199
                have k249 : ai_hv t346 389 166 = some (.inl ng) := (e346 389 166 (by first | decide | omega)).trans k200
                have k250 : ai_hv t346 389 167 = some (.inl ns) := (e346 389 167 (by first | decide | omega)).trans k201
                have k251 : ai_hv t346 389 168 = some (.inl nl) := (e346 389 168 (by first | decide | omega)).trans k202
                have k252 : ai_hv t346 389 160 = some (.inl ov) := (e346 389 160 (by first | decide | omega)).trans k203
                have k253 : ai_hv t346 389 161 = some (.inl dn) := (e346 389 161 (by first | decide | omega)).trans k204
                have k254 : ai_hv t346 389 165 = some (.inl pa) := (e346 389 165 (by first | decide | omega)).trans k205
                have k255 : ai_hv t346 383 13 = some (.inl c) := (e346 383 13 (by first | decide | omega)).trans k206
                have k256 : ai_hv t346 383 20 = some (.inl m182) := (e346 383 20 (by first | decide | omega)).trans k207
                have k257 : ai_hv t346 389 (169 + b5) = some (.inl c) := (e346 389 (169 + b5) (by first | decide | omega)).trans k297
                have s346 : px_S t346 (a + 1) 0 := ⟨g346, (e346 383 7 (by first | decide | omega)).trans s297.2.1, (e346 383 8 (by first | decide | omega)).trans s297.2.2.1, s297.2.2.2⟩
                refine ex_go (S := (150, [(1, .inl b5), (0, gx_r 383)], [gx_r 383], t346, n, 0)) rfl (fun _ => rfl) rfl ?_
                refine ex_go (S := (151, [(1, .inl b5), (0, gx_r 383)], [.inl 0, gx_r 383], t346, n, 0)) rfl (fun _ => rfl) rfl ?_
                obtain ⟨_, r358, t358, a358, f358, c358, rfl, x358⟩ := pk_all0 d n _ _ _ _ s346 k255 (by first | decide | omega)
                have s358 := x358.1
                have e358 := x358.2.1
                have k358 := x358.2.2.1
                have q358 := x358.2.2.2.1
                have b358 := s358.2.2.2
                refine gx_call0 rfl rfl s346.1 rfl rfl r358 rfl ?_
                have k259 : ai_hv t358 383 19 = some (.inl r) := (e358 383 19 (by first | decide | omega)).trans k247
                have k260 : ai_hv t358 389 162 = some (.inl nt) := (e358 389 162 (by first | decide | omega)).trans k248
                have k261 : ai_hv t358 389 166 = some (.inl ng) := (e358 389 166 (by first | decide | omega)).trans k249
                have k262 : ai_hv t358 389 167 = some (.inl ns) := (e358 389 167 (by first | decide | omega)).trans k250
                have k263 : ai_hv t358 389 168 = some (.inl nl) := (e358 389 168 (by first | decide | omega)).trans k251
                have k264 : ai_hv t358 389 160 = some (.inl ov) := (e358 389 160 (by first | decide | omega)).trans k252
                have k265 : ai_hv t358 389 161 = some (.inl dn) := (e358 389 161 (by first | decide | omega)).trans k253
                have k266 : ai_hv t358 389 165 = some (.inl pa) := (e358 389 165 (by first | decide | omega)).trans k254
                have k267 : ai_hv t358 383 20 = some (.inl m182) := (e358 383 20 (by first | decide | omega)).trans k256
                have k268 : ai_hv t358 389 (169 + b5) = some (.inl c) := (e358 389 (169 + b5) (by first | decide | omega)).trans k257
                have k269 : ai_hv t358 383 21 = some (.inl 8) := (e358 383 21 (by first | decide | omega)).trans k346
                refine ex_go (S := (155, [(1, .inl b5), (0, gx_r 383)], [gx_r 383], t358, n, 0)) rfl (fun _ => rfl) rfl ?_
                refine ex_go (S := (156, [(1, .inl b5), (0, gx_r 383)], [.inl 0, gx_r 383], t358, n, 0)) rfl (fun _ => rfl) rfl ?_
                refine ex_go (S := (157, [(1, .inl b5), (0, gx_r 383)], [.inl 0, .inl 0, gx_r 383], t358, n, 0)) rfl (fun _ => rfl) rfl ?_
                obtain ⟨_, r370, t370, rfl, s370, e370, k370, ko370, kz370⟩ := pk_emit (d + 31) n (s358) (o := 0) (z := 0) (by first | decide | omega) (by first | decide | omega) (by first | decide | omega) k358
                have b370 := s370.2.2.2
                refine gx_call0 rfl rfl s358.1 rfl rfl r370 rfl ?_
                have k271 : ai_hv t370 383 19 = some (.inl r) := (e370 383 19 (by first | decide | omega)).trans k259
                have k272 : ai_hv t370 389 162 = some (.inl nt) := (e370 389 162 (by first | decide | omega)).trans k260
                have k273 : ai_hv t370 389 166 = some (.inl ng) := (e370 389 166 (by first | decide | omega)).trans k261
                have k274 : ai_hv t370 389 167 = some (.inl ns) := (e370 389 167 (by first | decide | omega)).trans k262
                have k275 : ai_hv t370 389 168 = some (.inl nl) := (e370 389 168 (by first | decide | omega)).trans k263
                have k276 : ai_hv t370 389 160 = some (.inl ov) := (e370 389 160 (by first | decide | omega)).trans k264
                have k277 : ai_hv t370 389 161 = some (.inl dn) := (e370 389 161 (by first | decide | omega)).trans k265
                have k278 : ai_hv t370 389 165 = some (.inl pa) := (e370 389 165 (by first | decide | omega)).trans k266
                have k279 : ai_hv t370 383 20 = some (.inl m182) := (e370 383 20 (by first | decide | omega)).trans k267
                have k280 : ai_hv t370 389 (169 + b5) = some (.inl c) := (e370 389 (169 + b5) (by first | decide | omega)).trans k268
                have k281 : ai_hv t370 383 21 = some (.inl 8) := (e370 383 21 (by first | decide | omega)).trans k269
                refine ex_ret (r := (none, t370, n, 0)) rfl (fun _ => rfl) ?_
                by_cases h9 : f358 = 0
                · have hE : px_E4 t370 (c358 + 1) := fun l hl => by
                    by_cases e9 : l = b5
                    · obtain ⟨F, F1, F2, F3⟩ := x358.2.2.2.2 (by first | decide | omega) 0
                      exact Or.inr ⟨c, c358, F, by rw [e9]; exact k280, by omega, by omega, F1, ko370, fun i z1 z2 => px_st_kept (F3 i z1 z2) (e370 _ _ (by first | decide | omega)) (e370 _ _ (by first | decide | omega))⟩
                    · exact px_E4_at hE4 hl (by first | decide | omega) ((e370 389 (169 + l) (by first | decide | omega)).trans ((e358 389 (169 + l) (by first | decide | omega)).trans ((e346 389 (169 + l) (by first | decide | omega)).trans ((e297 389 (169 + l) (by first | decide | omega)).trans (e285 389 (169 + l) (by first | decide | omega)))))) (fun i hi => (e370 390 (1100 + i) (by first | decide | omega)).trans ((e358 390 (1100 + i) (by first | decide | omega)).trans ((e346 390 (1100 + i) (by first | decide | omega)).trans ((e297 390 (1100 + i) (by first | decide | omega)).trans (e285 390 (1100 + i) (by first | decide | omega)))))) (fun i hi => (e370 391 (1100 + i) (by first | decide | omega)).trans ((e358 391 (1100 + i) (by first | decide | omega)).trans ((e346 391 (1100 + i) (by first | decide | omega)).trans ((e297 391 (1100 + i) (by first | decide | omega)).trans (e285 391 (1100 + i) (by first | decide | omega))))))
                  refine ⟨_, rfl, t370, a358, f358, rfl, s370, (fun c i h => (e370 c i (by first | decide | omega)).trans ((e358 c i (by first | decide | omega)).trans ((e346 c i (by first | decide | omega)).trans ((e297 c i (by first | decide | omega)).trans (e285 c i (by first | decide | omega)))))), fun h0 => ?_⟩
                  refine ⟨by omega, c358 + 1, ⟨r, nt, ng, ns, nl, ov, dn, pa, k271, k272, k273, k274, k275, k276, k277, k278, k370, by omega, ?_, ?_⟩, by omega⟩
                  · exact px_E1_kept hE1 ((e370 389 163 (by first | decide | omega)).trans ((e358 389 163 (by first | decide | omega)).trans ((e346 389 163 (by first | decide | omega)).trans ((e297 389 163 (by first | decide | omega)).trans (e285 389 163 (by first | decide | omega)))))) (fun k hk => (e370 389 (255 + 4 * k) (by first | decide | omega)).trans ((e358 389 (255 + 4 * k) (by first | decide | omega)).trans ((e346 389 (255 + 4 * k) (by first | decide | omega)).trans ((e297 389 (255 + 4 * k) (by first | decide | omega)).trans (e285 389 (255 + 4 * k) (by first | decide | omega))))))
                  · exact hE
                · exact ⟨_, rfl, t370, a358, f358, rfl, s370, (fun c i h => (e370 c i (by first | decide | omega)).trans ((e358 c i (by first | decide | omega)).trans ((e346 c i (by first | decide | omega)).trans ((e297 c i (by first | decide | omega)).trans (e285 c i (by first | decide | omega)))))), fun h0 => absurd h0 h9⟩
            · refine gx_1f (c := .ne) rfl (by first | decide | omega) hc208 rfl ?_
              refine ex_go (S := (132, [(1, .inl b5), (0, gx_r 383)], [.inl 7, gx_r 383], t297, n, 0)) rfl (fun _ => rfl) rfl ?_
              refine ex_go (S := (146, [(1, .inl b5), (0, gx_r 383)], [.inl 7, gx_r 383], t297, n, 0)) rfl (fun _ => rfl) rfl ?_
              refine gx_put rfl s297.1 rfl rfl (ai_in_h (by first | decide | omega) (by first | decide | omega) (by first | decide | omega)) rfl (fun t382 g382 k382 e382 => ?_)
              have k283 : ai_hv t382 383 19 = some (.inl r) := (e382 383 19 (by first | decide | omega)).trans k198
              have k284 : ai_hv t382 389 162 = some (.inl nt) := (e382 389 162 (by first | decide | omega)).trans k199
              have k285 : ai_hv t382 389 166 = some (.inl ng) := (e382 389 166 (by first | decide | omega)).trans k200
              have k286 : ai_hv t382 389 167 = some (.inl ns) := (e382 389 167 (by first | decide | omega)).trans k201
              have k287 : ai_hv t382 389 168 = some (.inl nl) := (e382 389 168 (by first | decide | omega)).trans k202
              have k288 : ai_hv t382 389 160 = some (.inl ov) := (e382 389 160 (by first | decide | omega)).trans k203
              have k289 : ai_hv t382 389 161 = some (.inl dn) := (e382 389 161 (by first | decide | omega)).trans k204
              have k290 : ai_hv t382 389 165 = some (.inl pa) := (e382 389 165 (by first | decide | omega)).trans k205
              have k291 : ai_hv t382 383 13 = some (.inl c) := (e382 383 13 (by first | decide | omega)).trans k206
              have k292 : ai_hv t382 383 20 = some (.inl m182) := (e382 383 20 (by first | decide | omega)).trans k207
              have k293 : ai_hv t382 389 (169 + b5) = some (.inl c) := (e382 389 (169 + b5) (by first | decide | omega)).trans k297
              have s382 : px_S t382 (a + 1) 0 := ⟨g382, (e382 383 7 (by first | decide | omega)).trans s297.2.1, (e382 383 8 (by first | decide | omega)).trans s297.2.2.1, s297.2.2.2⟩
              refine ex_go (S := (150, [(1, .inl b5), (0, gx_r 383)], [gx_r 383], t382, n, 0)) rfl (fun _ => rfl) rfl ?_
              refine ex_go (S := (151, [(1, .inl b5), (0, gx_r 383)], [.inl 0, gx_r 383], t382, n, 0)) rfl (fun _ => rfl) rfl ?_
              obtain ⟨_, r394, t394, a394, f394, c394, rfl, x394⟩ := pk_all0 d n _ _ _ _ s382 k291 (by first | decide | omega)
              have s394 := x394.1
              have e394 := x394.2.1
              have k394 := x394.2.2.1
              have q394 := x394.2.2.2.1
              have b394 := s394.2.2.2
              refine gx_call0 rfl rfl s382.1 rfl rfl r394 rfl ?_
              have k295 : ai_hv t394 383 19 = some (.inl r) := (e394 383 19 (by first | decide | omega)).trans k283
              have k296 : ai_hv t394 389 162 = some (.inl nt) := (e394 389 162 (by first | decide | omega)).trans k284
              have k297 : ai_hv t394 389 166 = some (.inl ng) := (e394 389 166 (by first | decide | omega)).trans k285
              have k298 : ai_hv t394 389 167 = some (.inl ns) := (e394 389 167 (by first | decide | omega)).trans k286
              have k299 : ai_hv t394 389 168 = some (.inl nl) := (e394 389 168 (by first | decide | omega)).trans k287
              have k300 : ai_hv t394 389 160 = some (.inl ov) := (e394 389 160 (by first | decide | omega)).trans k288
              have k301 : ai_hv t394 389 161 = some (.inl dn) := (e394 389 161 (by first | decide | omega)).trans k289
              have k302 : ai_hv t394 389 165 = some (.inl pa) := (e394 389 165 (by first | decide | omega)).trans k290
              have k303 : ai_hv t394 383 20 = some (.inl m182) := (e394 383 20 (by first | decide | omega)).trans k292
              have k304 : ai_hv t394 389 (169 + b5) = some (.inl c) := (e394 389 (169 + b5) (by first | decide | omega)).trans k293
              have k305 : ai_hv t394 383 21 = some (.inl 7) := (e394 383 21 (by first | decide | omega)).trans k382
              refine ex_go (S := (155, [(1, .inl b5), (0, gx_r 383)], [gx_r 383], t394, n, 0)) rfl (fun _ => rfl) rfl ?_
              refine ex_go (S := (156, [(1, .inl b5), (0, gx_r 383)], [.inl 0, gx_r 383], t394, n, 0)) rfl (fun _ => rfl) rfl ?_
              refine ex_go (S := (157, [(1, .inl b5), (0, gx_r 383)], [.inl 0, .inl 0, gx_r 383], t394, n, 0)) rfl (fun _ => rfl) rfl ?_
              obtain ⟨_, r406, t406, rfl, s406, e406, k406, ko406, kz406⟩ := pk_emit (d + 31) n (s394) (o := 0) (z := 0) (by first | decide | omega) (by first | decide | omega) (by first | decide | omega) k394
              have b406 := s406.2.2.2
              refine gx_call0 rfl rfl s394.1 rfl rfl r406 rfl ?_
              have k307 : ai_hv t406 383 19 = some (.inl r) := (e406 383 19 (by first | decide | omega)).trans k295
              have k308 : ai_hv t406 389 162 = some (.inl nt) := (e406 389 162 (by first | decide | omega)).trans k296
              have k309 : ai_hv t406 389 166 = some (.inl ng) := (e406 389 166 (by first | decide | omega)).trans k297
              have k310 : ai_hv t406 389 167 = some (.inl ns) := (e406 389 167 (by first | decide | omega)).trans k298
              have k311 : ai_hv t406 389 168 = some (.inl nl) := (e406 389 168 (by first | decide | omega)).trans k299
              have k312 : ai_hv t406 389 160 = some (.inl ov) := (e406 389 160 (by first | decide | omega)).trans k300
              have k313 : ai_hv t406 389 161 = some (.inl dn) := (e406 389 161 (by first | decide | omega)).trans k301
              have k314 : ai_hv t406 389 165 = some (.inl pa) := (e406 389 165 (by first | decide | omega)).trans k302
              have k315 : ai_hv t406 383 20 = some (.inl m182) := (e406 383 20 (by first | decide | omega)).trans k303
              have k316 : ai_hv t406 389 (169 + b5) = some (.inl c) := (e406 389 (169 + b5) (by first | decide | omega)).trans k304
              have k317 : ai_hv t406 383 21 = some (.inl 7) := (e406 383 21 (by first | decide | omega)).trans k305
              refine ex_ret (r := (none, t406, n, 0)) rfl (fun _ => rfl) ?_
              by_cases h9 : f394 = 0
              · have hE : px_E4 t406 (c394 + 1) := fun l hl => by
                  by_cases e9 : l = b5
                  · obtain ⟨F, F1, F2, F3⟩ := x394.2.2.2.2 (by first | decide | omega) 0
                    exact Or.inr ⟨c, c394, F, by rw [e9]; exact k316, by omega, by omega, F1, ko406, fun i z1 z2 => px_st_kept (F3 i z1 z2) (e406 _ _ (by first | decide | omega)) (e406 _ _ (by first | decide | omega))⟩
                  · exact px_E4_at hE4 hl (by first | decide | omega) ((e406 389 (169 + l) (by first | decide | omega)).trans ((e394 389 (169 + l) (by first | decide | omega)).trans ((e382 389 (169 + l) (by first | decide | omega)).trans ((e297 389 (169 + l) (by first | decide | omega)).trans (e285 389 (169 + l) (by first | decide | omega)))))) (fun i hi => (e406 390 (1100 + i) (by first | decide | omega)).trans ((e394 390 (1100 + i) (by first | decide | omega)).trans ((e382 390 (1100 + i) (by first | decide | omega)).trans ((e297 390 (1100 + i) (by first | decide | omega)).trans (e285 390 (1100 + i) (by first | decide | omega)))))) (fun i hi => (e406 391 (1100 + i) (by first | decide | omega)).trans ((e394 391 (1100 + i) (by first | decide | omega)).trans ((e382 391 (1100 + i) (by first | decide | omega)).trans ((e297 391 (1100 + i) (by first | decide | omega)).trans (e285 391 (1100 + i) (by first | decide | omega))))))
                refine ⟨_, rfl, t406, a394, f394, rfl, s406, (fun c i h => (e406 c i (by first | decide | omega)).trans ((e394 c i (by first | decide | omega)).trans ((e382 c i (by first | decide | omega)).trans ((e297 c i (by first | decide | omega)).trans (e285 c i (by first | decide | omega)))))), fun h0 => ?_⟩
                refine ⟨by omega, c394 + 1, ⟨r, nt, ng, ns, nl, ov, dn, pa, k307, k308, k309, k310, k311, k312, k313, k314, k406, by omega, ?_, ?_⟩, by omega⟩
                · exact px_E1_kept hE1 ((e406 389 163 (by first | decide | omega)).trans ((e394 389 163 (by first | decide | omega)).trans ((e382 389 163 (by first | decide | omega)).trans ((e297 389 163 (by first | decide | omega)).trans (e285 389 163 (by first | decide | omega)))))) (fun k hk => (e406 389 (255 + 4 * k) (by first | decide | omega)).trans ((e394 389 (255 + 4 * k) (by first | decide | omega)).trans ((e382 389 (255 + 4 * k) (by first | decide | omega)).trans ((e297 389 (255 + 4 * k) (by first | decide | omega)).trans (e285 389 (255 + 4 * k) (by first | decide | omega))))))
                · exact hE
              · exact ⟨_, rfl, t406, a394, f394, rfl, s406, (fun c i h => (e406 c i (by first | decide | omega)).trans ((e394 c i (by first | decide | omega)).trans ((e382 c i (by first | decide | omega)).trans ((e297 c i (by first | decide | omega)).trans (e285 c i (by first | decide | omega)))))), fun h0 => absurd h0 h9⟩
          · refine gx_2f (c := .ne) rfl (by first | decide | omega) (by first | decide | omega) hc196 rfl ?_
            refine ex_go (S := (90, [(1, .inl b5), (0, gx_r 383)], [gx_r 383], t285, n, 0)) rfl (fun _ => rfl) rfl ?_
            refine ex_go (S := (91, [(1, .inl b5), (0, gx_r 383)], [.inl 1, gx_r 383], t285, n, 0)) rfl (fun _ => rfl) rfl ?_
            refine gx_put rfl s285.1 rfl rfl (ai_in_h (by first | decide | omega) (by first | decide | omega) (by first | decide | omega)) rfl (fun t418 g418 k418 e418 => ?_)
            have k319 : ai_hv t418 383 19 = some (.inl r) := (e418 383 19 (by first | decide | omega)).trans k186
            have k320 : ai_hv t418 389 162 = some (.inl nt) := (e418 389 162 (by first | decide | omega)).trans k187
            have k321 : ai_hv t418 389 166 = some (.inl ng) := (e418 389 166 (by first | decide | omega)).trans k188
            have k322 : ai_hv t418 389 167 = some (.inl ns) := (e418 389 167 (by first | decide | omega)).trans k189
            have k323 : ai_hv t418 389 168 = some (.inl nl) := (e418 389 168 (by first | decide | omega)).trans k190
            have k324 : ai_hv t418 389 160 = some (.inl ov) := (e418 389 160 (by first | decide | omega)).trans k191
            have k325 : ai_hv t418 389 161 = some (.inl dn) := (e418 389 161 (by first | decide | omega)).trans k192
            have k326 : ai_hv t418 389 165 = some (.inl pa) := (e418 389 165 (by first | decide | omega)).trans k193
            have k327 : ai_hv t418 383 13 = some (.inl c) := (e418 383 13 (by first | decide | omega)).trans k194
            have s418 : px_S t418 (a + 1) 0 := ⟨g418, (e418 383 7 (by first | decide | omega)).trans s285.2.1, (e418 383 8 (by first | decide | omega)).trans s285.2.2.1, s285.2.2.2⟩
            refine ex_go (S := (95, [(1, .inl b5), (0, gx_r 383)], [gx_r 383], t418, n, 0)) rfl (fun _ => rfl) rfl ?_
            refine gx_ref (c := 389) rfl s418.1 rfl rfl rfl rfl ?_
            refine ex_go (S := (101, [(1, .inl b5), (0, gx_r 383)], [.inl 165, gx_r 389], t418, n, 0)) rfl (fun _ => rfl) rfl ?_
            refine ex_go (S := (102, [(1, .inl b5), (0, gx_r 383)], [gx_r 383, .inl 165, gx_r 389], t418, n, 0)) rfl (fun _ => rfl) rfl ?_
            refine ex_go (S := (103, [(1, .inl b5), (0, gx_r 383)], [.inl 1, gx_r 383, .inl 165, gx_r 389], t418, n, 0)) rfl (fun _ => rfl) rfl ?_
            refine ex_go (S := (104, [(1, .inl b5), (0, gx_r 383)], [.inl 4, .inl 1, gx_r 383, .inl 165, gx_r 389], t418, n, 0)) rfl (fun _ => rfl) rfl ?_
            obtain ⟨_, r428, v428, t428, a428, f428, rfl, s428, e428, q428⟩ := pk_takeNumber (d + 30) n (s418) (lo := 1) (hi := 4) (by first | decide | omega) (by first | decide | omega)
            have b428 := s428.2.2.2
            refine gx_call1 rfl rfl s418.1 rfl rfl r428 rfl ?_
            have k329 : ai_hv t428 383 19 = some (.inl r) := (e428 383 19 (by first | decide | omega)).trans k319
            have k330 : ai_hv t428 389 162 = some (.inl nt) := (e428 389 162 (by first | decide | omega)).trans k320
            have k331 : ai_hv t428 389 166 = some (.inl ng) := (e428 389 166 (by first | decide | omega)).trans k321
            have k332 : ai_hv t428 389 167 = some (.inl ns) := (e428 389 167 (by first | decide | omega)).trans k322
            have k333 : ai_hv t428 389 168 = some (.inl nl) := (e428 389 168 (by first | decide | omega)).trans k323
            have k334 : ai_hv t428 389 160 = some (.inl ov) := (e428 389 160 (by first | decide | omega)).trans k324
            have k335 : ai_hv t428 389 161 = some (.inl dn) := (e428 389 161 (by first | decide | omega)).trans k325
            have k336 : ai_hv t428 389 165 = some (.inl pa) := (e428 389 165 (by first | decide | omega)).trans k326
            have k337 : ai_hv t428 383 13 = some (.inl c) := (e428 383 13 (by first | decide | omega)).trans k327
            have k338 : ai_hv t428 383 20 = some (.inl 1) := (e428 383 20 (by first | decide | omega)).trans k418
            refine gx_ap rfl (fun _ => rfl) s428.1 rfl rfl rfl (show 165 < 320 from by omega) rfl (ai_in_h (by first | decide | omega) (by first | decide | omega) (by first | decide | omega)) rfl (fun t439 g439 k439 e439 => ?_)
            have k340 : ai_hv t439 383 19 = some (.inl r) := (e439 383 19 (by first | decide | omega)).trans k329
            have k341 : ai_hv t439 389 162 = some (.inl nt) := (e439 389 162 (by first | decide | omega)).trans k330
            have k342 : ai_hv t439 389 166 = some (.inl ng) := (e439 389 166 (by first | decide | omega)).trans k331
            have k343 : ai_hv t439 389 167 = some (.inl ns) := (e439 389 167 (by first | decide | omega)).trans k332
            have k344 : ai_hv t439 389 168 = some (.inl nl) := (e439 389 168 (by first | decide | omega)).trans k333
            have k345 : ai_hv t439 389 160 = some (.inl ov) := (e439 389 160 (by first | decide | omega)).trans k334
            have k346 : ai_hv t439 389 161 = some (.inl dn) := (e439 389 161 (by first | decide | omega)).trans k335
            have k347 : ai_hv t439 383 13 = some (.inl c) := (e439 383 13 (by first | decide | omega)).trans k337
            have k348 : ai_hv t439 383 20 = some (.inl 1) := (e439 383 20 (by first | decide | omega)).trans k338
            have s439 : px_S t439 a428 f428 := ⟨g439, (e439 383 7 (by first | decide | omega)).trans s428.2.1, (e439 383 8 (by first | decide | omega)).trans s428.2.2.1, s428.2.2.2⟩
            refine ex_go (S := (160, [(1, .inl b5), (0, gx_r 383)], [], t439, n, 0)) rfl (fun _ => rfl) rfl ?_
            refine ex_ret (r := (none, t439, n, 0)) rfl (fun _ => rfl) ?_
            refine ⟨_, rfl, t439, a428, f428, rfl, s439, (fun c i h => (e439 c i (by first | decide | omega)).trans ((e428 c i (by first | decide | omega)).trans ((e418 c i (by first | decide | omega)).trans (e285 c i (by first | decide | omega))))), fun h0 => ?_⟩
            refine ⟨by omega, c, ⟨r, nt, ng, ns, nl, ov, dn, v428, k340, k341, k342, k343, k344, k345, k346, k439, k347, by omega, ?_, ?_⟩, by omega⟩
            · exact px_E1_kept hE1 ((e439 389 163 (by first | decide | omega)).trans ((e428 389 163 (by first | decide | omega)).trans ((e418 389 163 (by first | decide | omega)).trans (e285 389 163 (by first | decide | omega))))) (fun k hk => (e439 389 (255 + 4 * k) (by first | decide | omega)).trans ((e428 389 (255 + 4 * k) (by first | decide | omega)).trans ((e418 389 (255 + 4 * k) (by first | decide | omega)).trans (e285 389 (255 + 4 * k) (by first | decide | omega)))))
            · exact px_E4_kept hE4 (Nat.le_refl _) (fun l hl => (e439 389 (169 + l) (by first | decide | omega)).trans ((e428 389 (169 + l) (by first | decide | omega)).trans ((e418 389 (169 + l) (by first | decide | omega)).trans (e285 389 (169 + l) (by first | decide | omega))))) (fun i hi => (e439 390 (1100 + i) (by first | decide | omega)).trans ((e428 390 (1100 + i) (by first | decide | omega)).trans ((e418 390 (1100 + i) (by first | decide | omega)).trans (e285 390 (1100 + i) (by first | decide | omega))))) (fun i hi => (e439 391 (1100 + i) (by first | decide | omega)).trans ((e428 391 (1100 + i) (by first | decide | omega)).trans ((e418 391 (1100 + i) (by first | decide | omega)).trans (e285 391 (1100 + i) (by first | decide | omega)))))
        · refine gx_1f (c := .eq) rfl (by first | decide | omega) hc184 rfl ?_
          refine ex_go (S := (61, [(1, .inl b5), (0, gx_r 383)], [], t0, n, 0)) rfl (fun _ => rfl) rfl ?_
          refine ex_go (S := (62, [(1, .inl b5), (0, gx_r 383)], [gx_r 383], t0, n, 0)) rfl (fun _ => rfl) rfl ?_
          refine ex_go (S := (63, [(1, .inl b5), (0, gx_r 383)], [.inl 3, gx_r 383], t0, n, 0)) rfl (fun _ => rfl) rfl ?_
          obtain ⟨_, r449, t449, a449, f449, rfl, s449, e449, q449⟩ := pk_wrong (d + 31) n (s0) (w := 3) (by first | decide | omega)
          have b449 := s449.2.2.2
          refine gx_call0 rfl rfl s0.1 rfl rfl r449 rfl ?_
          have k350 : ai_hv t449 383 19 = some (.inl r) := (e449 383 19 (by first | decide | omega)).trans kr
          have k351 : ai_hv t449 389 162 = some (.inl nt) := (e449 389 162 (by first | decide | omega)).trans knt
          have k352 : ai_hv t449 389 166 = some (.inl ng) := (e449 389 166 (by first | decide | omega)).trans kng
          have k353 : ai_hv t449 389 167 = some (.inl ns) := (e449 389 167 (by first | decide | omega)).trans kns
          have k354 : ai_hv t449 389 168 = some (.inl nl) := (e449 389 168 (by first | decide | omega)).trans knl
          have k355 : ai_hv t449 389 160 = some (.inl ov) := (e449 389 160 (by first | decide | omega)).trans kov
          have k356 : ai_hv t449 389 161 = some (.inl dn) := (e449 389 161 (by first | decide | omega)).trans kdn
          have k357 : ai_hv t449 389 165 = some (.inl pa) := (e449 389 165 (by first | decide | omega)).trans kpa
          have k358 : ai_hv t449 383 13 = some (.inl c) := (e449 383 13 (by first | decide | omega)).trans kc
          have k359 : ai_hv t449 383 20 = some (.inl m182) := (e449 383 20 (by first | decide | omega)).trans k183
          refine ex_go (S := (67, [(1, .inl b5), (0, gx_r 383)], [gx_r 383], t449, n, 0)) rfl (fun _ => rfl) rfl ?_
          refine gx_get rfl s449.1 rfl s449.2.2.1 rfl ?_
          refine gx_1f (c := .le) rfl (by first | decide | omega) (show ¬ (f449 ≤ 0) from by omega) rfl ?_
          refine ex_ret (r := (none, t449, n, 0)) rfl (fun _ => rfl) ?_
          exact ⟨_, rfl, t449, a449, f449, rfl, s449, (fun c i h => e449 c i (by first | decide | omega)), fun h0 => by omega⟩
    · subst hn8
      refine ex_go (S := (21, [(1, .inl 4294967295), (0, gx_r 383)], [], t0, n, 0)) rfl (fun _ => rfl) rfl ?_
      refine ex_go (S := (22, [(1, .inl 4294967295), (0, gx_r 383)], [.inl 4294967295], t0, n, 0)) rfl (fun _ => rfl) rfl ?_
      refine ex_go (S := (25, [(1, .inl 4294967295), (0, gx_r 383)], [], t0, n, 0)) rfl (fun _ => rfl) rfl ?_
      refine ex_go (S := (26, [(1, .inl 4294967295), (0, gx_r 383)], [gx_r 383], t0, n, 0)) rfl (fun _ => rfl) rfl ?_
      refine ex_go (S := (27, [(1, .inl 4294967295), (0, gx_r 383)], [.inl 1, gx_r 383], t0, n, 0)) rfl (fun _ => rfl) rfl ?_
      obtain ⟨_, r460, t460, a460, f460, rfl, s460, e460, q460⟩ := pk_wrong (d + 31) n (s0) (w := 1) (by first | decide | omega)
      have b460 := s460.2.2.2
      refine gx_call0 rfl rfl s0.1 rfl rfl r460 rfl ?_
      have k361 : ai_hv t460 383 19 = some (.inl r) := (e460 383 19 (by first | decide | omega)).trans kr
      have k362 : ai_hv t460 389 162 = some (.inl nt) := (e460 389 162 (by first | decide | omega)).trans knt
      have k363 : ai_hv t460 389 166 = some (.inl ng) := (e460 389 166 (by first | decide | omega)).trans kng
      have k364 : ai_hv t460 389 167 = some (.inl ns) := (e460 389 167 (by first | decide | omega)).trans kns
      have k365 : ai_hv t460 389 168 = some (.inl nl) := (e460 389 168 (by first | decide | omega)).trans knl
      have k366 : ai_hv t460 389 160 = some (.inl ov) := (e460 389 160 (by first | decide | omega)).trans kov
      have k367 : ai_hv t460 389 161 = some (.inl dn) := (e460 389 161 (by first | decide | omega)).trans kdn
      have k368 : ai_hv t460 389 165 = some (.inl pa) := (e460 389 165 (by first | decide | omega)).trans kpa
      have k369 : ai_hv t460 383 13 = some (.inl c) := (e460 383 13 (by first | decide | omega)).trans kc
      refine ex_go (S := (66, [(1, .inl 4294967295), (0, gx_r 383)], [], t460, n, 0)) rfl (fun _ => rfl) rfl ?_
      refine ex_go (S := (67, [(1, .inl 4294967295), (0, gx_r 383)], [gx_r 383], t460, n, 0)) rfl (fun _ => rfl) rfl ?_
      refine gx_get rfl s460.1 rfl s460.2.2.1 rfl ?_
      refine gx_1f (c := .le) rfl (by first | decide | omega) (show ¬ (f460 ≤ 0) from by omega) rfl ?_
      refine ex_ret (r := (none, t460, n, 0)) rfl (fun _ => rfl) ?_
      exact ⟨_, rfl, t460, a460, f460, rfl, s460, (fun c i h => e460 c i (by first | decide | omega)), fun h0 => by omega⟩
  · refine gx_1f (c := .eq) rfl (by first | decide | omega) hc4 rfl ?_
    refine ex_go (S := (10, [(0, gx_r 383)], [.inl 3], t0, n, 0)) rfl (fun _ => rfl) rfl ?_
    refine ex_go (S := (20, [(0, gx_r 383)], [.inl 3], t0, n, 0)) rfl (fun _ => rfl) rfl ?_
    refine ex_go (S := (21, [(1, .inl 3), (0, gx_r 383)], [], t0, n, 0)) rfl (fun _ => rfl) rfl ?_
    refine ex_go (S := (22, [(1, .inl 3), (0, gx_r 383)], [.inl 3], t0, n, 0)) rfl (fun _ => rfl) rfl ?_
    refine ex_go (S := (33, [(1, .inl 3), (0, gx_r 383)], [], t0, n, 0)) rfl (fun _ => rfl) rfl ?_
    refine ex_go (S := (34, [(1, .inl 3), (0, gx_r 383)], [.inl 3], t0, n, 0)) rfl (fun _ => rfl) rfl ?_
    refine ex_go (S := (35, [(1, .inl 3), (0, gx_r 383)], [.inl 3, .inl 3], t0, n, 0)) rfl (fun _ => rfl) rfl ?_
    refine ex_go (S := (38, [(1, .inl 3), (0, gx_r 383)], [], t0, n, 0)) rfl (fun _ => rfl) rfl ?_
    refine ex_go (S := (39, [(1, .inl 3), (0, gx_r 383)], [gx_r 383], t0, n, 0)) rfl (fun _ => rfl) rfl ?_
    obtain ⟨m370, k371, m370l, m370h⟩ := gx_in (c := 383) (i := 20) (lo := 0) (hi := 1) s0.1 rfl rfl rfl rfl
    refine gx_get rfl s0.1 rfl k371 rfl ?_
    by_cases hc372 : m370 = 0
    · refine gx_1t (c := .eq) rfl (by first | decide | omega) hc372 rfl ?_
      refine ex_go (S := (67, [(1, .inl 3), (0, gx_r 383)], [gx_r 383], t0, n, 0)) rfl (fun _ => rfl) rfl ?_
      refine gx_get rfl s0.1 rfl s0.2.2.1 rfl ?_
      refine ex_go (S := (74, [(1, .inl 3), (0, gx_r 383)], [], t0, n, 0)) rfl (fun _ => rfl) rfl ?_
      refine ex_go (S := (75, [(1, .inl 3), (0, gx_r 383)], [gx_r 383], t0, n, 0)) rfl (fun _ => rfl) rfl ?_
      refine ex_go (S := (76, [(1, .inl 3), (0, gx_r 383)], [gx_r 383, gx_r 383], t0, n, 0)) rfl (fun _ => rfl) rfl ?_
      refine gx_get rfl s0.1 rfl s0.2.1 rfl ?_
      refine ex_go (S := (80, [(1, .inl 3), (0, gx_r 383)], [.inl 1, .inl a, gx_r 383], t0, n, 0)) rfl (fun _ => rfl) rfl ?_
      refine ex_iadd rfl (by first | decide | omega) rfl ?_
      refine gx_put rfl s0.1 rfl rfl (ai_in_h (by first | decide | omega) (by first | decide | omega) (by first | decide | omega)) rfl (fun t473 g473 k473 e473 => ?_)
      have k374 : ai_hv t473 383 19 = some (.inl r) := (e473 383 19 (by first | decide | omega)).trans kr
      have k375 : ai_hv t473 389 162 = some (.inl nt) := (e473 389 162 (by first | decide | omega)).trans knt
      have k376 : ai_hv t473 389 166 = some (.inl ng) := (e473 389 166 (by first | decide | omega)).trans kng
      have k377 : ai_hv t473 389 167 = some (.inl ns) := (e473 389 167 (by first | decide | omega)).trans kns
      have k378 : ai_hv t473 389 168 = some (.inl nl) := (e473 389 168 (by first | decide | omega)).trans knl
      have k379 : ai_hv t473 389 160 = some (.inl ov) := (e473 389 160 (by first | decide | omega)).trans kov
      have k380 : ai_hv t473 389 161 = some (.inl dn) := (e473 389 161 (by first | decide | omega)).trans kdn
      have k381 : ai_hv t473 389 165 = some (.inl pa) := (e473 389 165 (by first | decide | omega)).trans kpa
      have k382 : ai_hv t473 383 13 = some (.inl c) := (e473 383 13 (by first | decide | omega)).trans kc
      have k383 : ai_hv t473 383 20 = some (.inl m370) := (e473 383 20 (by first | decide | omega)).trans k371
      have s473 : px_S t473 (a + 1) 0 := ⟨g473, k473, (e473 383 8 (by first | decide | omega)).trans s0.2.2.1, by omega, s0.2.2.2.2⟩
      refine ex_go (S := (85, [(1, .inl 3), (0, gx_r 383)], [.inl 3], t473, n, 0)) rfl (fun _ => rfl) rfl ?_
      refine ex_go (S := (86, [(1, .inl 3), (0, gx_r 383)], [.inl 3, .inl 3], t473, n, 0)) rfl (fun _ => rfl) rfl ?_
      refine ex_go (S := (89, [(1, .inl 3), (0, gx_r 383)], [], t473, n, 0)) rfl (fun _ => rfl) rfl ?_
      refine ex_go (S := (90, [(1, .inl 3), (0, gx_r 383)], [gx_r 383], t473, n, 0)) rfl (fun _ => rfl) rfl ?_
      refine ex_go (S := (91, [(1, .inl 3), (0, gx_r 383)], [.inl 1, gx_r 383], t473, n, 0)) rfl (fun _ => rfl) rfl ?_
      refine gx_put rfl s473.1 rfl rfl (ai_in_h (by first | decide | omega) (by first | decide | omega) (by first | decide | omega)) rfl (fun t484 g484 k484 e484 => ?_)
      have k385 : ai_hv t484 383 19 = some (.inl r) := (e484 383 19 (by first | decide | omega)).trans k374
      have k386 : ai_hv t484 389 162 = some (.inl nt) := (e484 389 162 (by first | decide | omega)).trans k375
      have k387 : ai_hv t484 389 166 = some (.inl ng) := (e484 389 166 (by first | decide | omega)).trans k376
      have k388 : ai_hv t484 389 167 = some (.inl ns) := (e484 389 167 (by first | decide | omega)).trans k377
      have k389 : ai_hv t484 389 168 = some (.inl nl) := (e484 389 168 (by first | decide | omega)).trans k378
      have k390 : ai_hv t484 389 160 = some (.inl ov) := (e484 389 160 (by first | decide | omega)).trans k379
      have k391 : ai_hv t484 389 161 = some (.inl dn) := (e484 389 161 (by first | decide | omega)).trans k380
      have k392 : ai_hv t484 389 165 = some (.inl pa) := (e484 389 165 (by first | decide | omega)).trans k381
      have k393 : ai_hv t484 383 13 = some (.inl c) := (e484 383 13 (by first | decide | omega)).trans k382
      have s484 : px_S t484 (a + 1) 0 := ⟨g484, (e484 383 7 (by first | decide | omega)).trans s473.2.1, (e484 383 8 (by first | decide | omega)).trans s473.2.2.1, s473.2.2.2⟩
      refine ex_go (S := (95, [(1, .inl 3), (0, gx_r 383)], [gx_r 383], t484, n, 0)) rfl (fun _ => rfl) rfl ?_
      refine gx_ref (c := 389) rfl s484.1 rfl rfl rfl rfl ?_
      refine ex_go (S := (101, [(1, .inl 3), (0, gx_r 383)], [.inl 165, gx_r 389], t484, n, 0)) rfl (fun _ => rfl) rfl ?_
      refine ex_go (S := (102, [(1, .inl 3), (0, gx_r 383)], [gx_r 383, .inl 165, gx_r 389], t484, n, 0)) rfl (fun _ => rfl) rfl ?_
      refine ex_go (S := (103, [(1, .inl 3), (0, gx_r 383)], [.inl 1, gx_r 383, .inl 165, gx_r 389], t484, n, 0)) rfl (fun _ => rfl) rfl ?_
      refine ex_go (S := (104, [(1, .inl 3), (0, gx_r 383)], [.inl 4, .inl 1, gx_r 383, .inl 165, gx_r 389], t484, n, 0)) rfl (fun _ => rfl) rfl ?_
      obtain ⟨_, r494, v494, t494, a494, f494, rfl, s494, e494, q494⟩ := pk_takeNumber (d + 30) n (s484) (lo := 1) (hi := 4) (by first | decide | omega) (by first | decide | omega)
      have b494 := s494.2.2.2
      refine gx_call1 rfl rfl s484.1 rfl rfl r494 rfl ?_
      have k395 : ai_hv t494 383 19 = some (.inl r) := (e494 383 19 (by first | decide | omega)).trans k385
      have k396 : ai_hv t494 389 162 = some (.inl nt) := (e494 389 162 (by first | decide | omega)).trans k386
      have k397 : ai_hv t494 389 166 = some (.inl ng) := (e494 389 166 (by first | decide | omega)).trans k387
      have k398 : ai_hv t494 389 167 = some (.inl ns) := (e494 389 167 (by first | decide | omega)).trans k388
      have k399 : ai_hv t494 389 168 = some (.inl nl) := (e494 389 168 (by first | decide | omega)).trans k389
      have k400 : ai_hv t494 389 160 = some (.inl ov) := (e494 389 160 (by first | decide | omega)).trans k390
      have k401 : ai_hv t494 389 161 = some (.inl dn) := (e494 389 161 (by first | decide | omega)).trans k391
      have k402 : ai_hv t494 389 165 = some (.inl pa) := (e494 389 165 (by first | decide | omega)).trans k392
      have k403 : ai_hv t494 383 13 = some (.inl c) := (e494 383 13 (by first | decide | omega)).trans k393
      have k404 : ai_hv t494 383 20 = some (.inl 1) := (e494 383 20 (by first | decide | omega)).trans k484
      refine gx_ap rfl (fun _ => rfl) s494.1 rfl rfl rfl (show 165 < 320 from by omega) rfl (ai_in_h (by first | decide | omega) (by first | decide | omega) (by first | decide | omega)) rfl (fun t505 g505 k505 e505 => ?_)
      have k406 : ai_hv t505 383 19 = some (.inl r) := (e505 383 19 (by first | decide | omega)).trans k395
      have k407 : ai_hv t505 389 162 = some (.inl nt) := (e505 389 162 (by first | decide | omega)).trans k396
      have k408 : ai_hv t505 389 166 = some (.inl ng) := (e505 389 166 (by first | decide | omega)).trans k397
      have k409 : ai_hv t505 389 167 = some (.inl ns) := (e505 389 167 (by first | decide | omega)).trans k398
      have k410 : ai_hv t505 389 168 = some (.inl nl) := (e505 389 168 (by first | decide | omega)).trans k399
      have k411 : ai_hv t505 389 160 = some (.inl ov) := (e505 389 160 (by first | decide | omega)).trans k400
      have k412 : ai_hv t505 389 161 = some (.inl dn) := (e505 389 161 (by first | decide | omega)).trans k401
      have k413 : ai_hv t505 383 13 = some (.inl c) := (e505 383 13 (by first | decide | omega)).trans k403
      have k414 : ai_hv t505 383 20 = some (.inl 1) := (e505 383 20 (by first | decide | omega)).trans k404
      have s505 : px_S t505 a494 f494 := ⟨g505, (e505 383 7 (by first | decide | omega)).trans s494.2.1, (e505 383 8 (by first | decide | omega)).trans s494.2.2.1, s494.2.2.2⟩
      refine ex_go (S := (160, [(1, .inl 3), (0, gx_r 383)], [], t505, n, 0)) rfl (fun _ => rfl) rfl ?_
      refine ex_ret (r := (none, t505, n, 0)) rfl (fun _ => rfl) ?_
      refine ⟨_, rfl, t505, a494, f494, rfl, s505, (fun c i h => (e505 c i (by first | decide | omega)).trans ((e494 c i (by first | decide | omega)).trans ((e484 c i (by first | decide | omega)).trans (e473 c i (by first | decide | omega))))), fun h0 => ?_⟩
      refine ⟨by omega, c, ⟨r, nt, ng, ns, nl, ov, dn, v494, k406, k407, k408, k409, k410, k411, k412, k505, k413, by omega, ?_, ?_⟩, by omega⟩
      · exact px_E1_kept hE1 ((e505 389 163 (by first | decide | omega)).trans ((e494 389 163 (by first | decide | omega)).trans ((e484 389 163 (by first | decide | omega)).trans (e473 389 163 (by first | decide | omega))))) (fun k hk => (e505 389 (255 + 4 * k) (by first | decide | omega)).trans ((e494 389 (255 + 4 * k) (by first | decide | omega)).trans ((e484 389 (255 + 4 * k) (by first | decide | omega)).trans (e473 389 (255 + 4 * k) (by first | decide | omega)))))
      · exact px_E4_kept hE4 (Nat.le_refl _) (fun l hl => (e505 389 (169 + l) (by first | decide | omega)).trans ((e494 389 (169 + l) (by first | decide | omega)).trans ((e484 389 (169 + l) (by first | decide | omega)).trans (e473 389 (169 + l) (by first | decide | omega))))) (fun i hi => (e505 390 (1100 + i) (by first | decide | omega)).trans ((e494 390 (1100 + i) (by first | decide | omega)).trans ((e484 390 (1100 + i) (by first | decide | omega)).trans (e473 390 (1100 + i) (by first | decide | omega))))) (fun i hi => (e505 391 (1100 + i) (by first | decide | omega)).trans ((e494 391 (1100 + i) (by first | decide | omega)).trans ((e484 391 (1100 + i) (by first | decide | omega)).trans (e473 391 (1100 + i) (by first | decide | omega)))))
    · refine gx_1f (c := .eq) rfl (by first | decide | omega) hc372 rfl ?_
      refine ex_go (S := (61, [(1, .inl 3), (0, gx_r 383)], [], t0, n, 0)) rfl (fun _ => rfl) rfl ?_
      refine ex_go (S := (62, [(1, .inl 3), (0, gx_r 383)], [gx_r 383], t0, n, 0)) rfl (fun _ => rfl) rfl ?_
      refine ex_go (S := (63, [(1, .inl 3), (0, gx_r 383)], [.inl 3, gx_r 383], t0, n, 0)) rfl (fun _ => rfl) rfl ?_
      obtain ⟨_, r515, t515, a515, f515, rfl, s515, e515, q515⟩ := pk_wrong (d + 31) n (s0) (w := 3) (by first | decide | omega)
      have b515 := s515.2.2.2
      refine gx_call0 rfl rfl s0.1 rfl rfl r515 rfl ?_
      have k416 : ai_hv t515 383 19 = some (.inl r) := (e515 383 19 (by first | decide | omega)).trans kr
      have k417 : ai_hv t515 389 162 = some (.inl nt) := (e515 389 162 (by first | decide | omega)).trans knt
      have k418 : ai_hv t515 389 166 = some (.inl ng) := (e515 389 166 (by first | decide | omega)).trans kng
      have k419 : ai_hv t515 389 167 = some (.inl ns) := (e515 389 167 (by first | decide | omega)).trans kns
      have k420 : ai_hv t515 389 168 = some (.inl nl) := (e515 389 168 (by first | decide | omega)).trans knl
      have k421 : ai_hv t515 389 160 = some (.inl ov) := (e515 389 160 (by first | decide | omega)).trans kov
      have k422 : ai_hv t515 389 161 = some (.inl dn) := (e515 389 161 (by first | decide | omega)).trans kdn
      have k423 : ai_hv t515 389 165 = some (.inl pa) := (e515 389 165 (by first | decide | omega)).trans kpa
      have k424 : ai_hv t515 383 13 = some (.inl c) := (e515 383 13 (by first | decide | omega)).trans kc
      have k425 : ai_hv t515 383 20 = some (.inl m370) := (e515 383 20 (by first | decide | omega)).trans k371
      refine ex_go (S := (67, [(1, .inl 3), (0, gx_r 383)], [gx_r 383], t515, n, 0)) rfl (fun _ => rfl) rfl ?_
      refine gx_get rfl s515.1 rfl s515.2.2.1 rfl ?_
      refine gx_1f (c := .le) rfl (by first | decide | omega) (show ¬ (f515 ≤ 0) from by omega) rfl ?_
      refine ex_ret (r := (none, t515, n, 0)) rfl (fun _ => rfl) ?_
      exact ⟨_, rfl, t515, a515, f515, rfl, s515, (fun c i h => e515 c i (by first | decide | omega)), fun h0 => by omega⟩
theorem pk_readLine (d n : Nat) {t0 : en_H} {a c : Nat} (s0 : px_S t0 a 0) (ha : a ≤ 999) (hca : c ≤ a) (hO : px_O t0 c) : ∃ r, en_u (d + 34) 97 [gx_r 383] t0 n = some r ∧ ∃ t' a' f', r = (none, t', n, 0) ∧ px_S t' a' f' ∧ px_PF t0 t' ∧ (f' = 0 → a < a' ∧ ∃ c', px_O t' c' ∧ c' ≤ a') := by
  have b0 := s0.2.2.2
  refine en_u_ex (d := d + 33) rfl ?_
  show en_ex _ _ _ _ (0, [(0, gx_r 383)], [], t0, n, 0) _
  refine ex_go (S := (1, [(0, gx_r 383)], [gx_r 383], t0, n, 0)) rfl (fun _ => rfl) rfl ?_
  refine ex_go (S := (2, [(0, gx_r 383)], [.inl 1, gx_r 383], t0, n, 0)) rfl (fun _ => rfl) rfl ?_
  obtain ⟨_, r3, b1, rfl, q2⟩ := pk_isWord (d + 32) n (s0) (w := 1) (by first | decide | omega)
  refine gx_call1 rfl rfl s0.1 rfl rfl r3 rfl ?_
  by_cases hc4 : b1 = 0
  · refine gx_1t (c := .eq) rfl (by first | decide | omega) hc4 rfl ?_
    refine ex_go (S := (16, [(0, gx_r 383)], [gx_r 383], t0, n, 0)) rfl (fun _ => rfl) rfl ?_
    refine ex_go (S := (17, [(0, gx_r 383)], [.inl 2, gx_r 383], t0, n, 0)) rfl (fun _ => rfl) rfl ?_
    obtain ⟨_, r7, b5, rfl, q6⟩ := pk_isWord (d + 32) n (s0) (w := 2) (by first | decide | omega)
    refine gx_call1 rfl rfl s0.1 rfl rfl r7 rfl ?_
    by_cases hc8 : b5 = 0
    · refine gx_1t (c := .eq) rfl (by first | decide | omega) hc8 rfl ?_
      refine ex_go (S := (31, [(0, gx_r 383)], [gx_r 383], t0, n, 0)) rfl (fun _ => rfl) rfl ?_
      refine ex_go (S := (32, [(0, gx_r 383)], [.inl 4, gx_r 383], t0, n, 0)) rfl (fun _ => rfl) rfl ?_
      obtain ⟨_, r11, b9, rfl, q10⟩ := pk_isWord (d + 32) n (s0) (w := 4) (by first | decide | omega)
      refine gx_call1 rfl rfl s0.1 rfl rfl r11 rfl ?_
      by_cases hc12 : b9 = 0
      · refine gx_1t (c := .eq) rfl (by first | decide | omega) hc12 rfl ?_
        refine ex_go (S := (46, [(0, gx_r 383)], [gx_r 383], t0, n, 0)) rfl (fun _ => rfl) rfl ?_
        refine ex_go (S := (48, [(0, gx_r 383)], [.inl 8, gx_r 383], t0, n, 0)) rfl (fun _ => rfl) rfl ?_
        obtain ⟨_, r15, b13, rfl, q14⟩ := pk_isWord (d + 32) n (s0) (w := 8) (by first | decide | omega)
        refine gx_call1 rfl rfl s0.1 rfl rfl r15 rfl ?_
        by_cases hc16 : b13 = 0
        · refine gx_1t (c := .eq) rfl (by first | decide | omega) hc16 rfl ?_
          refine ex_go (S := (62, [(0, gx_r 383)], [gx_r 383], t0, n, 0)) rfl (fun _ => rfl) rfl ?_
          refine ex_go (S := (64, [(0, gx_r 383)], [.inl 12, gx_r 383], t0, n, 0)) rfl (fun _ => rfl) rfl ?_
          obtain ⟨_, r19, b17, rfl, q18⟩ := pk_isWord (d + 32) n (s0) (w := 12) (by first | decide | omega)
          refine gx_call1 rfl rfl s0.1 rfl rfl r19 rfl ?_
          by_cases hc20 : b17 = 0
          · refine gx_1t (c := .eq) rfl (by first | decide | omega) hc20 rfl ?_
            refine ex_go (S := (78, [(0, gx_r 383)], [gx_r 383], t0, n, 0)) rfl (fun _ => rfl) rfl ?_
            refine ex_go (S := (80, [(0, gx_r 383)], [.inl 15, gx_r 383], t0, n, 0)) rfl (fun _ => rfl) rfl ?_
            obtain ⟨_, r23, b21, rfl, q22⟩ := pk_isWord (d + 32) n (s0) (w := 15) (by first | decide | omega)
            refine gx_call1 rfl rfl s0.1 rfl rfl r23 rfl ?_
            by_cases hc24 : b21 = 0
            · refine gx_1t (c := .eq) rfl (by first | decide | omega) hc24 rfl ?_
              refine ex_go (S := (94, [(0, gx_r 383)], [gx_r 383], t0, n, 0)) rfl (fun _ => rfl) rfl ?_
              refine ex_go (S := (96, [(0, gx_r 383)], [.inl 17, gx_r 383], t0, n, 0)) rfl (fun _ => rfl) rfl ?_
              obtain ⟨_, r27, b25, rfl, q26⟩ := pk_isWord (d + 32) n (s0) (w := 17) (by first | decide | omega)
              refine gx_call1 rfl rfl s0.1 rfl rfl r27 rfl ?_
              by_cases hc28 : b25 = 0
              · refine gx_1t (c := .eq) rfl (by first | decide | omega) hc28 rfl ?_
                refine ex_go (S := (110, [(0, gx_r 383)], [gx_r 383], t0, n, 0)) rfl (fun _ => rfl) rfl ?_
                obtain ⟨_, r129, t129, a129, f129, rfl, s129, e129, q129⟩ := pk_readOnce (d) n s0 (by first | decide | omega) hca hO
                refine gx_call0 rfl rfl s0.1 rfl rfl r129 rfl ?_
                refine ex_ret (r := (none, t129, n, 0)) rfl (fun _ => rfl) ?_
                exact ⟨_, rfl, t129, a129, f129, rfl, s129, e129, q129⟩
              · refine gx_1f (c := .eq) rfl (by first | decide | omega) hc28 rfl ?_
                refine ex_go (S := (103, [(0, gx_r 383)], [gx_r 383], t0, n, 0)) rfl (fun _ => rfl) rfl ?_
                obtain ⟨_, r130, t130, a130, f130, rfl, s130, e130, q130⟩ := pk_readLoad (d + 28) n s0 (by first | decide | omega) hca hO
                have e130 := px_PG_F e130
                refine gx_call0 rfl rfl s0.1 rfl rfl r130 rfl ?_
                refine ex_go (S := (113, [(0, gx_r 383)], [], t130, n, 0)) rfl (fun _ => rfl) rfl ?_
                refine ex_ret (r := (none, t130, n, 0)) rfl (fun _ => rfl) ?_
                exact ⟨_, rfl, t130, a130, f130, rfl, s130, e130, q130⟩
            · refine gx_1f (c := .eq) rfl (by first | decide | omega) hc24 rfl ?_
              refine ex_go (S := (87, [(0, gx_r 383)], [gx_r 383], t0, n, 0)) rfl (fun _ => rfl) rfl ?_
              obtain ⟨_, r131, t131, a131, f131, rfl, s131, e131, q131⟩ := pk_readSign (d + 28) n s0 (by first | decide | omega) hca hO
              have e131 := px_PG_F e131
              refine gx_call0 rfl rfl s0.1 rfl rfl r131 rfl ?_
              refine ex_go (S := (113, [(0, gx_r 383)], [], t131, n, 0)) rfl (fun _ => rfl) rfl ?_
              refine ex_ret (r := (none, t131, n, 0)) rfl (fun _ => rfl) ?_
              exact ⟨_, rfl, t131, a131, f131, rfl, s131, e131, q131⟩
          · refine gx_1f (c := .eq) rfl (by first | decide | omega) hc20 rfl ?_
            refine ex_go (S := (71, [(0, gx_r 383)], [gx_r 383], t0, n, 0)) rfl (fun _ => rfl) rfl ?_
            obtain ⟨_, r132, t132, a132, f132, rfl, s132, e132, q132⟩ := pk_readGap (d + 28) n s0 (by first | decide | omega) hca hO
            have e132 := px_PG_F e132
            refine gx_call0 rfl rfl s0.1 rfl rfl r132 rfl ?_
            refine ex_go (S := (113, [(0, gx_r 383)], [], t132, n, 0)) rfl (fun _ => rfl) rfl ?_
            refine ex_ret (r := (none, t132, n, 0)) rfl (fun _ => rfl) ?_
            exact ⟨_, rfl, t132, a132, f132, rfl, s132, e132, q132⟩
        · refine gx_1f (c := .eq) rfl (by first | decide | omega) hc16 rfl ?_
          refine ex_go (S := (55, [(0, gx_r 383)], [gx_r 383], t0, n, 0)) rfl (fun _ => rfl) rfl ?_
          obtain ⟨_, r133, t133, a133, f133, rfl, s133, e133, q133⟩ := pk_readCrew (d + 28) n s0 (by first | decide | omega) hca hO
          have e133 := px_PG_F e133
          refine gx_call0 rfl rfl s0.1 rfl rfl r133 rfl ?_
          refine ex_go (S := (113, [(0, gx_r 383)], [], t133, n, 0)) rfl (fun _ => rfl) rfl ?_
          refine ex_ret (r := (none, t133, n, 0)) rfl (fun _ => rfl) ?_
          exact ⟨_, rfl, t133, a133, f133, rfl, s133, e133, q133⟩
      · refine gx_1f (c := .eq) rfl (by first | decide | omega) hc12 rfl ?_
        refine ex_go (S := (39, [(0, gx_r 383)], [gx_r 383], t0, n, 0)) rfl (fun _ => rfl) rfl ?_
        obtain ⟨_, r134, t134, a134, f134, rfl, s134, e134, q134⟩ := pk_readLead (d + 28) n s0 (by first | decide | omega) hca hO
        have e134 := px_PG_F e134
        refine gx_call0 rfl rfl s0.1 rfl rfl r134 rfl ?_
        refine ex_go (S := (113, [(0, gx_r 383)], [], t134, n, 0)) rfl (fun _ => rfl) rfl ?_
        refine ex_ret (r := (none, t134, n, 0)) rfl (fun _ => rfl) ?_
        exact ⟨_, rfl, t134, a134, f134, rfl, s134, e134, q134⟩
    · refine gx_1f (c := .eq) rfl (by first | decide | omega) hc8 rfl ?_
      refine ex_go (S := (24, [(0, gx_r 383)], [gx_r 383], t0, n, 0)) rfl (fun _ => rfl) rfl ?_
      obtain ⟨_, r135, t135, a135, f135, rfl, s135, e135, q135⟩ := pk_readThing (d + 28) n s0 (by first | decide | omega) hca hO
      have e135 := px_PG_F e135
      refine gx_call0 rfl rfl s0.1 rfl rfl r135 rfl ?_
      refine ex_go (S := (113, [(0, gx_r 383)], [], t135, n, 0)) rfl (fun _ => rfl) rfl ?_
      refine ex_ret (r := (none, t135, n, 0)) rfl (fun _ => rfl) ?_
      exact ⟨_, rfl, t135, a135, f135, rfl, s135, e135, q135⟩
  · refine gx_1f (c := .eq) rfl (by first | decide | omega) hc4 rfl ?_
    refine ex_go (S := (9, [(0, gx_r 383)], [gx_r 383], t0, n, 0)) rfl (fun _ => rfl) rfl ?_
    obtain ⟨_, r136, t136, a136, f136, rfl, s136, e136, q136⟩ := pk_readDrift (d + 28) n s0 (by first | decide | omega) hca hO
    have e136 := px_PG_F e136
    refine gx_call0 rfl rfl s0.1 rfl rfl r136 rfl ?_
    refine ex_go (S := (113, [(0, gx_r 383)], [], t136, n, 0)) rfl (fun _ => rfl) rfl ?_
    refine ex_ret (r := (none, t136, n, 0)) rfl (fun _ => rfl) ?_
    exact ⟨_, rfl, t136, a136, f136, rfl, s136, e136, q136⟩
end PK5
