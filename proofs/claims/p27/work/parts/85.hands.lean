section PKD
theorem gx_iv {ρ : Nat → Nat} {lo hi : Nat} {v : en_V} (hh : hi < 2147483648) (h : ai_rv ρ (.inl (lo + 2147483648, hi + 2147483648, none)) v) : ∃ m, v = .inl m ∧ lo ≤ m ∧ m ≤ hi := by
  obtain ⟨m, rfl, h1, h2, h3, -⟩ := h
  refine ⟨m, rfl, ?_, ?_⟩ <;> unfold ai_off at h2 h3 <;> dsimp only at h2 h3 <;> omega
theorem gx_vi {ρ : Nat → Nat} {lo hi m : Nat} (h1 : lo ≤ m) (h2 : m ≤ hi) (hh : hi < 2147483648) : ai_rv ρ (.inl (lo + 2147483648, hi + 2147483648, none)) (.inl m) := ⟨m, rfl, by omega, by rw [ai_off_nn (by first | decide | omega)]; show lo + 2147483648 ≤ _; omega, by rw [ai_off_nn (by first | decide | omega)]; show _ ≤ hi + 2147483648; omega, trivial⟩
theorem gx_vfull {ρ : Nat → Nat} {m : Nat} (h : m < 4294967296) : ai_rv ρ (.inl (0, 4294967295, none)) (.inl m) := ⟨m, rfl, h, Nat.zero_le _, by unfold ai_off; show _ ≤ 4294967295; omega, trivial⟩
theorem gx_vref {ρ : Nat → Nat} (c : Nat) : ai_rv ρ (.inr (.inr (c + 100))) (gx_r c) := Or.inr (Or.inr (Or.inr (Or.inl ⟨c, rfl, rfl⟩)))
theorem gx_fr {wr : ai_W} {t t' : en_H} (C : Nat → Nat → Prop) (h : ∀ c i, ¬ C c i → ai_hv t' c i = ai_hv t c i) (hC : ∀ c i, C c i → ai_inw wr c i) : ai_FR wr t t' := fun c i hn => h c i (fun z => hn (hC c i z))
theorem px_E_blk {t t' : en_H} {b : Nat} (h : ai_E t) (e : ∀ c i, ¬ (c = 399 ∧ 45 * b ≤ i ∧ i < 45 * b + 17) → ai_hv t' c i = ai_hv t c i) (k1 : ai_En t' 399 (45 * b + 7) 0 9999) (k2 : ai_En t' 399 (45 * b + 8) 0 9999) : ai_E t' := by
  refine ⟨⟨ai_El_kept h.1.1 (fun j => e _ j (by first | decide | omega)) (fun j => e _ j (by first | decide | omega)) (fun j => e _ j (by first | decide | omega)), ai_El_kept h.1.2 (fun j => e _ j (by first | decide | omega)) (fun j => e _ j (by first | decide | omega)) (fun j => e _ j (by first | decide | omega))⟩, ?_⟩
  obtain ⟨e1, e2, e3, e4⟩ := h.2
  refine ⟨fun k hk => ?_, fun k hk => ?_, fun b' hb => ?_, fun l hl => ?_⟩
  · have := e1 k hk
    simp only [ai_En, fun i => e 389 i (by first | decide | omega)] at this ⊢
    exact this
  · have := e2 k hk
    simp only [ai_En, fun i => e 396 i (by first | decide | omega)] at this ⊢
    exact this
  · by_cases c : b' = b
    · subst c
      obtain ⟨x, x1, x2, x3⟩ := k1
      obtain ⟨y, y1, y2, y3⟩ := k2
      exact ⟨x, y, x1, y1, by omega⟩
    · rw [e 399 _ (by first | decide | omega), e 399 _ (by first | decide | omega)]
      exact e3 b' hb
  · have := e4 l hl
    simp only [ai_rpn, fun i => e 389 i (by first | decide | omega), fun i => e 390 i (by first | decide | omega), fun i => e 391 i (by first | decide | omega)] at this ⊢
    exact this
/-- an answer of a contract with one out -/
theorem gx_of_cok {f : en_F} {mi lo hi : Nat} {c : ai_C} {as : List en_V} {t : en_H} {n : Nat} (h : ai_cok ah_G f mi c) (ho : c.2.2.2.2 = [(some (.inl (lo + 2147483648, hi + 2147483648, none)), [])]) (hO : c.2.2.1 = []) (hh : hi < 2147483648) (ha : ai_rvs (fun _ => 0) c.2.1 as) (hG : ai_HG ah_G t) (hE : ai_E t) : ∃ v t', f mi as t n = some (some (.inl v), t', n, 0) ∧ ai_HG ah_G t' ∧ ai_E t' ∧ lo ≤ v ∧ v ≤ hi ∧ ai_FR c.2.2.2.1 t t' := by
  obtain ⟨⟨rv, rt, rn, rs⟩, r1, r2, r3, r4, r5, r6, o, ho', r7, r8⟩ := h (fun _ => 0) as t n ha hG (by rw [hO]; exact ai_HO_nil) hE
  rw [ho] at ho'
  have e := List.mem_singleton.mp ho'
  subst e
  have r2 : rn = n := r2
  have r3 : rs = 0 := r3
  subst r2 r3
  cases rv with
  | none => exact absurd r7 (fun h => h)
  | some v =>
    obtain ⟨m, rfl, m1, m2⟩ := gx_iv hh r7
    exact ⟨m, rt, r1, r4, r6, m1, m2, r5⟩
theorem h28_0 : ai_base ah_G ar_tab 28 re_28_0 := fun d hd hc => by
  intro ρ as t n hs hG hO hE
  obtain ⟨w0, ws, rfl, g0, hs⟩ := ai_rvs_cons hs
  obtain ⟨w1, ws, rfl, g1, hs⟩ := ai_rvs_cons hs
  have hs := ai_rvs_nil hs
  subst hs
  have g0 := ha_rc (c := 383) g0
  subst g0
  have g1 := ha_int (x := 945) (m := 0) (by decide) g1
  subst g1
  obtain ⟨d, rfl⟩ : ∃ d9, d = d9 + 1 := ⟨d - 1, by have h9 : 1 ≤ d := hd; omega⟩
  obtain ⟨_, r1, t1, rfl, g1, e1, k7, k8⟩ := pk_starts945 d n hG
  exact ⟨_, r1, rfl, rfl, g1, gx_fr _ e1 (fun c i z => ⟨(399, 945, 1034), List.mem_cons_self, z.1.symm, by show 945 ≤ i; omega, by show i ≤ 1034; omega⟩), px_E_blk (b := 21) hE e1 k7 k8, (none, []), List.mem_cons_self, trivial, ai_HO_nil⟩
theorem h28_1 : ai_base ah_G ar_tab 28 re_28_1 := fun d hd hc => by
  intro ρ as t n hs hG hO hE
  obtain ⟨w0, ws, rfl, g0, hs⟩ := ai_rvs_cons hs
  obtain ⟨w1, ws, rfl, g1, hs⟩ := ai_rvs_cons hs
  have hs := ai_rvs_nil hs
  subst hs
  have g0 := ha_rc (c := 383) g0
  subst g0
  have g1 := ha_int (x := 0) (m := 0) (by decide) g1
  subst g1
  obtain ⟨d, rfl⟩ : ∃ d9, d = d9 + 1 := ⟨d - 1, by have h9 : 1 ≤ d := hd; omega⟩
  obtain ⟨_, r1, t1, rfl, g1, e1, k7, k8⟩ := pk_starts0 d n hG
  exact ⟨_, r1, rfl, rfl, g1, gx_fr _ e1 (fun c i z => ⟨(399, 0, 1034), List.mem_cons_self, z.1.symm, Nat.zero_le _, by show i ≤ 1034; omega⟩), px_E_blk (b := 0) hE e1 k7 k8, (none, []), List.mem_cons_self, trivial, ai_HO_nil⟩
theorem hand_28 : ∀ q ∈ rm_28, ai_base ah_G ar_tab 28 q := ha_cons h28_0 (ha_cons h28_1 ha_nil)
theorem h120_0 : ai_base ah_G ar_tab 120 re_120_0 := fun d hd hc => by
  intro ρ as t n hs hG hO hE
  obtain ⟨w0, ws, rfl, g0, hs⟩ := ai_rvs_cons hs
  obtain ⟨w1, ws, rfl, g1, hs⟩ := ai_rvs_cons hs
  obtain ⟨w2, ws, rfl, g2, hs⟩ := ai_rvs_cons hs
  obtain ⟨w3, ws, rfl, g3, hs⟩ := ai_rvs_cons hs
  have hs := ai_rvs_nil hs
  subst hs
  have g0 := ha_rc (c := 383) g0
  subst g0
  have g1 := ha_int (x := 0) (m := 0) (by decide) g1
  subst g1
  have g2 := ha_int (x := 1) (m := 0) (by decide) g2
  subst g2
  obtain ⟨x, rfl, xl, xh⟩ := gx_iv (lo := 1) (hi := 999) (by decide) g3
  obtain ⟨_, r1, v1, t1, rfl, vb, g1, E1, e1⟩ := pk_lends0_1 d n hG hE (as := x) (by first | decide | omega)
  exact ⟨_, r1, rfl, rfl, g1, gx_fr _ e1 (fun c i z => ⟨(399, 0, 1034), List.mem_cons_self, z.1.symm, Nat.zero_le _, by show i ≤ 1034; omega⟩), E1, _, List.mem_cons_self, gx_vfull vb, ai_HO_nil⟩
theorem h120_1 : ai_base ah_G ar_tab 120 re_120_1 := fun d hd hc => by
  intro ρ as t n hs hG hO hE
  obtain ⟨w0, ws, rfl, g0, hs⟩ := ai_rvs_cons hs
  obtain ⟨w1, ws, rfl, g1, hs⟩ := ai_rvs_cons hs
  obtain ⟨w2, ws, rfl, g2, hs⟩ := ai_rvs_cons hs
  obtain ⟨w3, ws, rfl, g3, hs⟩ := ai_rvs_cons hs
  have hs := ai_rvs_nil hs
  subst hs
  have g0 := ha_rc (c := 383) g0
  subst g0
  have g1 := ha_int (x := 0) (m := 0) (by decide) g1
  subst g1
  have g2 := ha_int (x := 0) (m := 0) (by decide) g2
  subst g2
  obtain ⟨x, rfl, xl, xh⟩ := gx_iv (lo := 1) (hi := 999) (by decide) g3
  obtain ⟨_, r1, v1, t1, rfl, vb, g1, E1, e1⟩ := pk_lends0_0 d n hG hE (as := x) (by first | decide | omega)
  exact ⟨_, r1, rfl, rfl, g1, gx_fr _ e1 (fun c i z => ⟨(399, 0, 1034), List.mem_cons_self, z.1.symm, Nat.zero_le _, by show i ≤ 1034; omega⟩), E1, _, List.mem_cons_self, gx_vfull vb, ai_HO_nil⟩
theorem h120_2 : ai_base ah_G ar_tab 120 re_120_2 := fun d hd hc => by
  intro ρ as t n hs hG hO hE
  obtain ⟨w0, ws, rfl, g0, hs⟩ := ai_rvs_cons hs
  obtain ⟨w1, ws, rfl, g1, hs⟩ := ai_rvs_cons hs
  obtain ⟨w2, ws, rfl, g2, hs⟩ := ai_rvs_cons hs
  obtain ⟨w3, ws, rfl, g3, hs⟩ := ai_rvs_cons hs
  have hs := ai_rvs_nil hs
  subst hs
  have g0 := ha_rc (c := 383) g0
  subst g0
  have g1 := ha_int (x := 945) (m := 0) (by decide) g1
  subst g1
  have g2 := ha_int (x := 1) (m := 0) (by decide) g2
  subst g2
  obtain ⟨x, rfl, xl, xh⟩ := gx_iv (lo := 0) (hi := 999) (by decide) g3
  obtain ⟨_, r1, v1, t1, rfl, vb, g1, E1, e1⟩ := pk_lends945_1 d n hG hE (as := x) (by first | decide | omega)
  exact ⟨_, r1, rfl, rfl, g1, gx_fr _ e1 (fun c i z => ⟨(399, 945, 1034), List.mem_cons_self, z.1.symm, by show 945 ≤ i; omega, by show i ≤ 1034; omega⟩), E1, _, List.mem_cons_self, gx_vfull vb, ai_HO_nil⟩
theorem h120_3 : ai_base ah_G ar_tab 120 re_120_3 := fun d hd hc => by
  intro ρ as t n hs hG hO hE
  obtain ⟨w0, ws, rfl, g0, hs⟩ := ai_rvs_cons hs
  obtain ⟨w1, ws, rfl, g1, hs⟩ := ai_rvs_cons hs
  obtain ⟨w2, ws, rfl, g2, hs⟩ := ai_rvs_cons hs
  obtain ⟨w3, ws, rfl, g3, hs⟩ := ai_rvs_cons hs
  have hs := ai_rvs_nil hs
  subst hs
  have g0 := ha_rc (c := 383) g0
  subst g0
  have g1 := ha_int (x := 945) (m := 0) (by decide) g1
  subst g1
  have g2 := ha_int (x := 0) (m := 0) (by decide) g2
  subst g2
  obtain ⟨x, rfl, xl, xh⟩ := gx_iv (lo := 0) (hi := 999) (by decide) g3
  obtain ⟨_, r1, v1, t1, rfl, vb, g1, E1, e1⟩ := pk_lends945_0 d n hG hE (as := x) (by first | decide | omega)
  exact ⟨_, r1, rfl, rfl, g1, gx_fr _ e1 (fun c i z => ⟨(399, 945, 1034), List.mem_cons_self, z.1.symm, by show 945 ≤ i; omega, by show i ≤ 1034; omega⟩), E1, _, List.mem_cons_self, gx_vfull vb, ai_HO_nil⟩
theorem hand_120 : ∀ q ∈ rm_120, ai_base ah_G ar_tab 120 q := ha_cons h120_0 (ha_cons h120_1 (ha_cons h120_2 (ha_cons h120_3 ha_nil)))
theorem h211_0 : ai_base ah_G ar_tab 211 re_211_0 := fun d hd hc => by
  intro ρ as t n hs hG hO hE
  obtain ⟨w0, ws, rfl, g0, hs⟩ := ai_rvs_cons hs
  obtain ⟨w1, ws, rfl, g1, hs⟩ := ai_rvs_cons hs
  obtain ⟨w2, ws, rfl, g2, hs⟩ := ai_rvs_cons hs
  obtain ⟨w3, ws, rfl, g3, hs⟩ := ai_rvs_cons hs
  have hs := ai_rvs_nil hs
  subst hs
  have g0 := ha_rc (c := 383) g0
  subst g0
  have g1 := ha_int (x := 1) (m := 0) (by decide) g1
  subst g1
  have g2 := ha_int (x := 99) (m := 0) (by decide) g2
  subst g2
  have g3 := ha_int (x := 1) (m := 0) (by decide) g3
  subst g3
  obtain ⟨d, rfl⟩ : ∃ d9, d = d9 + 2 := ⟨d - 2, by have h9 : 2 ≤ d := hd; omega⟩
  obtain ⟨_, r1, v1, t1, rfl, vb, g1, e1⟩ := pk_lawOf d n hG hE (lw := 1) (mo := 99) (ot := 1) (by first | decide | omega) (by first | decide | omega) (by first | decide | omega)
  exact ⟨_, r1, rfl, rfl, g1, gx_fr _ e1 (fun c i z => ⟨(398, 0, 1099), List.mem_cons_self, z.1.symm, Nat.zero_le _, by show i ≤ 1099; omega⟩), ai_E_kept hE (fun c i hz => e1 c i (fun z => by rw [z.1] at hz; exact absurd hz (by decide))), _, List.mem_cons_self, gx_vi (lo := 0) (hi := 99) (Nat.zero_le _) (by first | decide | omega) (by decide), ai_HO_nil⟩
theorem h211_1 : ai_base ah_G ar_tab 211 re_211_1 := fun d hd hc => by
  intro ρ as t n hs hG hO hE
  obtain ⟨w0, ws, rfl, g0, hs⟩ := ai_rvs_cons hs
  obtain ⟨w1, ws, rfl, g1, hs⟩ := ai_rvs_cons hs
  obtain ⟨w2, ws, rfl, g2, hs⟩ := ai_rvs_cons hs
  obtain ⟨w3, ws, rfl, g3, hs⟩ := ai_rvs_cons hs
  have hs := ai_rvs_nil hs
  subst hs
  have g0 := ha_rc (c := 383) g0
  subst g0
  have g1 := ha_int (x := 2) (m := 0) (by decide) g1
  subst g1
  have g2 := ha_int (x := 10) (m := 0) (by decide) g2
  subst g2
  have g3 := ha_int (x := 1) (m := 0) (by decide) g3
  subst g3
  obtain ⟨d, rfl⟩ : ∃ d9, d = d9 + 2 := ⟨d - 2, by have h9 : 2 ≤ d := hd; omega⟩
  obtain ⟨_, r1, v1, t1, rfl, vb, g1, e1⟩ := pk_lawOf d n hG hE (lw := 2) (mo := 10) (ot := 1) (by first | decide | omega) (by first | decide | omega) (by first | decide | omega)
  exact ⟨_, r1, rfl, rfl, g1, gx_fr _ e1 (fun c i z => ⟨(398, 0, 1099), List.mem_cons_self, z.1.symm, Nat.zero_le _, by show i ≤ 1099; omega⟩), ai_E_kept hE (fun c i hz => e1 c i (fun z => by rw [z.1] at hz; exact absurd hz (by decide))), _, List.mem_cons_self, gx_vi (lo := 0) (hi := 99) (Nat.zero_le _) (by first | decide | omega) (by decide), ai_HO_nil⟩
theorem h211_2 : ai_base ah_G ar_tab 211 re_211_2 := fun d hd hc => by
  intro ρ as t n hs hG hO hE
  obtain ⟨w0, ws, rfl, g0, hs⟩ := ai_rvs_cons hs
  obtain ⟨w1, ws, rfl, g1, hs⟩ := ai_rvs_cons hs
  obtain ⟨w2, ws, rfl, g2, hs⟩ := ai_rvs_cons hs
  obtain ⟨w3, ws, rfl, g3, hs⟩ := ai_rvs_cons hs
  have hs := ai_rvs_nil hs
  subst hs
  have g0 := ha_rc (c := 383) g0
  subst g0
  have g1 := ha_int (x := 0) (m := 0) (by decide) g1
  subst g1
  have g2 := ha_int (x := 99) (m := 0) (by decide) g2
  subst g2
  obtain ⟨x, rfl, xl, xh⟩ := gx_iv (lo := 0) (hi := 30) (by decide) g3
  obtain ⟨d, rfl⟩ : ∃ d9, d = d9 + 2 := ⟨d - 2, by have h9 : 2 ≤ d := hd; omega⟩
  obtain ⟨_, r1, v1, t1, rfl, vb, g1, e1⟩ := pk_lawOf d n hG hE (lw := 0) (mo := 99) (ot := x) (by first | decide | omega) (by first | decide | omega) (by first | decide | omega)
  exact ⟨_, r1, rfl, rfl, g1, gx_fr _ e1 (fun c i z => ⟨(398, 0, 1099), List.mem_cons_self, z.1.symm, Nat.zero_le _, by show i ≤ 1099; omega⟩), ai_E_kept hE (fun c i hz => e1 c i (fun z => by rw [z.1] at hz; exact absurd hz (by decide))), _, List.mem_cons_self, gx_vi (lo := 0) (hi := 99) (Nat.zero_le _) (by first | decide | omega) (by decide), ai_HO_nil⟩
theorem h211_3 : ai_base ah_G ar_tab 211 re_211_3 := fun d hd hc => by
  intro ρ as t n hs hG hO hE
  obtain ⟨w0, ws, rfl, g0, hs⟩ := ai_rvs_cons hs
  obtain ⟨w1, ws, rfl, g1, hs⟩ := ai_rvs_cons hs
  obtain ⟨w2, ws, rfl, g2, hs⟩ := ai_rvs_cons hs
  obtain ⟨w3, ws, rfl, g3, hs⟩ := ai_rvs_cons hs
  have hs := ai_rvs_nil hs
  subst hs
  have g0 := ha_rc (c := 383) g0
  subst g0
  have g1 := ha_int (x := 0) (m := 0) (by decide) g1
  subst g1
  have g2 := ha_int (x := 99) (m := 0) (by decide) g2
  subst g2
  obtain ⟨x, rfl, xl, xh⟩ := gx_iv (lo := 0) (hi := 9999) (by decide) g3
  obtain ⟨d, rfl⟩ : ∃ d9, d = d9 + 2 := ⟨d - 2, by have h9 : 2 ≤ d := hd; omega⟩
  obtain ⟨_, r1, v1, t1, rfl, vb, g1, e1⟩ := pk_lawOf d n hG hE (lw := 0) (mo := 99) (ot := x) (by first | decide | omega) (by first | decide | omega) (by first | decide | omega)
  exact ⟨_, r1, rfl, rfl, g1, gx_fr _ e1 (fun c i z => ⟨(398, 0, 1099), List.mem_cons_self, z.1.symm, Nat.zero_le _, by show i ≤ 1099; omega⟩), ai_E_kept hE (fun c i hz => e1 c i (fun z => by rw [z.1] at hz; exact absurd hz (by decide))), _, List.mem_cons_self, gx_vi (lo := 0) (hi := 99) (Nat.zero_le _) (by first | decide | omega) (by decide), ai_HO_nil⟩
theorem hand_211 : ∀ q ∈ rm_211, ai_base ah_G ar_tab 211 q := ha_cons h211_0 (ha_cons h211_1 (ha_cons h211_2 (ha_cons h211_3 ha_nil)))
theorem gx_pass_of {d : Nat} (hc : ∀ mi' q', q' ∈ ar_tab mi' → q'.1 < 4 → ai_cok ah_G (en_u d) mi' q'.2.1) : gx_pass (en_u d) := by
  have h1 : ai_cok ah_G (en_u d) 127 rt_127_0 := hc 127 re_127_0 (show re_127_0 ∈ rm_127 from List.mem_cons_self) (by decide)
  have h2 : ai_cok ah_G (en_u d) 138 rt_138_0 := hc 138 re_138_0 (show re_138_0 ∈ rm_138 from List.mem_cons_self) (by decide)
  have h3 : ai_cok ah_G (en_u d) 131 rt_131_0 := hc 131 re_131_0 (show re_131_0 ∈ rm_131 from List.mem_cons_self) (by decide)
  have h4 : ai_cok ah_G (en_u d) 142 rt_142_2 := hc 142 re_142_2 (show re_142_2 ∈ rm_142 from List.mem_cons_of_mem _ (List.mem_cons_of_mem _ List.mem_cons_self)) (by decide)
  refine ⟨fun t n hG hE => ?_, fun t n hG hE => ?_, fun t n x hG hE hx => ?_, fun t n c x y hG hE hb hx hy => ?_⟩
  · obtain ⟨v, t', r1, r2, r3, r4, r5, r6⟩ := gx_of_cok (lo := 0) (hi := 2) (as := [gx_r 383]) (n := n) h1 rfl rfl (by decide) ⟨gx_vref 383, trivial⟩ hG hE
    exact ⟨v, t', r1, r2, r3, r5, fun c i => r6 c i (fun ⟨q, hq, _⟩ => by cases hq)⟩
  · obtain ⟨v, t', r1, r2, r3, r4, r5, r6⟩ := gx_of_cok (lo := 0) (hi := 6) (as := [gx_r 383]) (n := n) h2 rfl rfl (by decide) ⟨gx_vref 383, trivial⟩ hG hE
    exact ⟨v, t', r1, r2, r3, r5, fun c i => r6 c i (fun ⟨q, hq, _⟩ => by cases hq)⟩
  · obtain ⟨v, t', r1, r2, r3, r4, r5, r6⟩ := gx_of_cok (lo := 0) (hi := 63) (as := [gx_r 383, .inl x]) (n := n) h3 rfl rfl (by decide) ⟨gx_vref 383, gx_vi (lo := 0) (hi := 63) (Nat.zero_le _) hx (by decide), trivial⟩ hG hE
    exact ⟨v, t', r1, r2, r3, r5, fun c i => r6 c i (fun ⟨q, hq, _⟩ => by cases hq)⟩
  · obtain ⟨v, t', r1, r2, r3, r4, r5, r6⟩ := gx_of_cok (lo := 0) (hi := 99) (as := [gx_r 383, .inl c, .inl x, .inl y]) (n := n) h4 rfl rfl (by decide) ⟨gx_vref 383, gx_vi (lo := 0) (hi := 1) (Nat.zero_le _) hb (by decide), gx_vfull hx, gx_vi (lo := 0) (hi := 1) (Nat.zero_le _) hy (by decide), trivial⟩ hG hE
    refine ⟨v, t', r1, r2, r3, r5, fun c i h => r6 c i (fun ⟨q, hq, z1, z2, z3⟩ => h ?_)⟩
    rcases List.mem_cons.mp hq with rfl | hq
    · exact Or.inl ⟨z1.symm, z3⟩
    · rcases List.mem_cons.mp hq with rfl | hq
      · exact Or.inr ⟨z1.symm, z3⟩
      · cases hq
theorem h116_0 : ai_base ah_G ar_tab 116 re_116_0 := fun d hd hc => by
  intro ρ as t n hs hG hO hE
  obtain ⟨w0, ws, rfl, g0, hs⟩ := ai_rvs_cons hs
  obtain ⟨w1, ws, rfl, g1, hs⟩ := ai_rvs_cons hs
  have hs := ai_rvs_nil hs
  subst hs
  have g0 := ha_rc (c := 383) g0
  subst g0
  have g1 := ha_int (x := 0) (m := 0) (by decide) g1
  subst g1
  obtain ⟨_, r1, v1, t1, rfl, vb, g1, E1, e1⟩ := pk_passes0 d n (gx_pass_of hc) hG hE
  refine ⟨_, r1, rfl, rfl, g1, gx_fr _ e1 (fun c i z => ?_), E1, _, List.mem_cons_self, gx_vfull vb, ai_HO_nil⟩
  rcases z with z | z | z
  · exact ⟨(397, 0, 3), List.mem_cons_self, z.1.symm, Nat.zero_le _, z.2⟩
  · exact ⟨(398, 0, 1099), List.mem_cons_of_mem _ List.mem_cons_self, z.1.symm, Nat.zero_le _, z.2⟩
  · exact ⟨(399, 0, 1034), List.mem_cons_of_mem _ (List.mem_cons_of_mem _ List.mem_cons_self), z.1.symm, Nat.zero_le _, z.2⟩
theorem h116_1 : ai_base ah_G ar_tab 116 re_116_1 := fun d hd hc => by
  intro ρ as t n hs hG hO hE
  obtain ⟨w0, ws, rfl, g0, hs⟩ := ai_rvs_cons hs
  obtain ⟨w1, ws, rfl, g1, hs⟩ := ai_rvs_cons hs
  have hs := ai_rvs_nil hs
  subst hs
  have g0 := ha_rc (c := 383) g0
  subst g0
  have g1 := ha_int (x := 945) (m := 0) (by decide) g1
  subst g1
  obtain ⟨_, r1, v1, t1, rfl, vb, g1, E1, e1⟩ := pk_passes945 d n (gx_pass_of hc) hG hE
  refine ⟨_, r1, rfl, rfl, g1, gx_fr _ e1 (fun c i z => ?_), E1, _, List.mem_cons_self, gx_vfull vb, ai_HO_nil⟩
  rcases z with z | z | z
  · exact ⟨(397, 0, 3), List.mem_cons_self, z.1.symm, Nat.zero_le _, z.2⟩
  · exact ⟨(398, 0, 1099), List.mem_cons_of_mem _ List.mem_cons_self, z.1.symm, Nat.zero_le _, z.2⟩
  · exact ⟨(399, 945, 1034), List.mem_cons_of_mem _ (List.mem_cons_of_mem _ List.mem_cons_self), z.1.symm, z.2.1, z.2.2⟩
theorem h116_2 : ai_base ah_G ar_tab 116 re_116_2 := fun d hd hc => by
  intro ρ as t n hs hG hO hE
  obtain ⟨w0, ws, rfl, g0, hs⟩ := ai_rvs_cons hs
  obtain ⟨w1, ws, rfl, g1, hs⟩ := ai_rvs_cons hs
  have hs := ai_rvs_nil hs
  subst hs
  have g0 := ha_rc (c := 383) g0
  subst g0
  have g1 := ha_int (x := 990) (m := 0) (by decide) g1
  subst g1
  obtain ⟨_, r1, v1, t1, rfl, vb, g1, E1, e1⟩ := pk_passes990 d n (gx_pass_of hc) hG hE
  refine ⟨_, r1, rfl, rfl, g1, gx_fr _ e1 (fun c i z => ?_), E1, _, List.mem_cons_self, gx_vfull vb, ai_HO_nil⟩
  rcases z with z | z | z
  · exact ⟨(397, 0, 3), List.mem_cons_self, z.1.symm, Nat.zero_le _, z.2⟩
  · exact ⟨(398, 0, 1099), List.mem_cons_of_mem _ List.mem_cons_self, z.1.symm, Nat.zero_le _, z.2⟩
  · exact ⟨(399, 945, 1034), List.mem_cons_of_mem _ (List.mem_cons_of_mem _ List.mem_cons_self), z.1.symm, z.2.1, z.2.2⟩
theorem hand_116 : ∀ q ∈ rm_116, ai_base ah_G ar_tab 116 q := ha_cons h116_0 (ha_cons h116_1 (ha_cons h116_2 ha_nil))
/-- THE REFERENCE IS SAFE -/
theorem ar_hands : ar_hand := ⟨hand_28, hand_116, hand_120, hand_123, hand_211⟩
end PKD
