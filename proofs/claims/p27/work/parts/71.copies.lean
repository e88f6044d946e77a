section HA3
theorem ha_nil {P : ai_cert → Prop} : ∀ q ∈ ([] : List ai_cert), P q := fun q hq => by cases hq
theorem ha_cons {P : ai_cert → Prop} {a : ai_cert} {l : List ai_cert} (h1 : P a) (h2 : ∀ q ∈ l, P q) : ∀ q ∈ a :: l, P q := fun q hq => by
  rcases List.mem_cons.mp hq with rfl | hq
  · exact h1
  · exact h2 q hq
set_option maxRecDepth 1000000 in
theorem cp_0 : ai_base ah_G ar_tab 123 re_123_0 := fun d _ _ => cp_ok (fb := 8) (tb := 7) (m := 17) (by decide +kernel) (by decide) (by decide) (by decide) (by decide)
set_option maxRecDepth 1000000 in
theorem cp_1 : ai_base ah_G ar_tab 123 re_123_1 := fun d _ _ => cp_ok (fb := 12) (tb := 11) (m := 17) (by decide +kernel) (by decide) (by decide) (by decide) (by decide)
set_option maxRecDepth 1000000 in
theorem cp_2 : ai_base ah_G ar_tab 123 re_123_2 := fun d _ _ => cp_ok (fb := 15) (tb := 14) (m := 17) (by decide +kernel) (by decide) (by decide) (by decide) (by decide)
set_option maxRecDepth 1000000 in
theorem cp_3 : ai_base ah_G ar_tab 123 re_123_3 := fun d _ _ => cp_ok (fb := 0) (tb := 15) (m := 17) (by decide +kernel) (by decide) (by decide) (by decide) (by decide)
set_option maxRecDepth 1000000 in
theorem cp_4 : ai_base ah_G ar_tab 123 re_123_4 := fun d _ _ => cp_ok (fb := 18) (tb := 17) (m := 17) (by decide +kernel) (by decide) (by decide) (by decide) (by decide)
set_option maxRecDepth 1000000 in
theorem cp_5 : ai_base ah_G ar_tab 123 re_123_5 := fun d _ _ => cp_ok (fb := 0) (tb := 8) (m := 17) (by decide +kernel) (by decide) (by decide) (by decide) (by decide)
set_option maxRecDepth 1000000 in
theorem cp_6 : ai_base ah_G ar_tab 123 re_123_6 := fun d _ _ => cp_ok (fb := 0) (tb := 5) (m := 17) (by decide +kernel) (by decide) (by decide) (by decide) (by decide)
set_option maxRecDepth 1000000 in
theorem cp_7 : ai_base ah_G ar_tab 123 re_123_7 := fun d _ _ => cp_ok (fb := 0) (tb := 20) (m := 17) (by decide +kernel) (by decide) (by decide) (by decide) (by decide)
set_option maxRecDepth 1000000 in
theorem cp_8 : ai_base ah_G ar_tab 123 re_123_8 := fun d _ _ => cp_ok (fb := 9) (tb := 8) (m := 17) (by decide +kernel) (by decide) (by decide) (by decide) (by decide)
set_option maxRecDepth 1000000 in
theorem cp_9 : ai_base ah_G ar_tab 123 re_123_9 := fun d _ _ => cp_ok (fb := 0) (tb := 18) (m := 17) (by decide +kernel) (by decide) (by decide) (by decide) (by decide)
set_option maxRecDepth 1000000 in
theorem cp_10 : ai_base ah_G ar_tab 123 re_123_10 := fun d _ _ => cp_ok (fb := 0) (tb := 11) (m := 17) (by decide +kernel) (by decide) (by decide) (by decide) (by decide)
set_option maxRecDepth 1000000 in
theorem cp_11 : ai_base ah_G ar_tab 123 re_123_11 := fun d _ _ => cp_ok (fb := 10) (tb := 9) (m := 17) (by decide +kernel) (by decide) (by decide) (by decide) (by decide)
set_option maxRecDepth 1000000 in
theorem cp_12 : ai_base ah_G ar_tab 123 re_123_12 := fun d _ _ => cp_ok (fb := 0) (tb := 14) (m := 17) (by decide +kernel) (by decide) (by decide) (by decide) (by decide)
set_option maxRecDepth 1000000 in
theorem cp_13 : ai_base ah_G ar_tab 123 re_123_13 := fun d _ _ => cp_ok (fb := 0) (tb := 12) (m := 17) (by decide +kernel) (by decide) (by decide) (by decide) (by decide)
set_option maxRecDepth 1000000 in
theorem cp_14 : ai_base ah_G ar_tab 123 re_123_14 := fun d _ _ => cp_ok (fb := 13) (tb := 12) (m := 17) (by decide +kernel) (by decide) (by decide) (by decide) (by decide)
set_option maxRecDepth 1000000 in
theorem cp_15 : ai_base ah_G ar_tab 123 re_123_15 := fun d _ _ => cp_ok (fb := 16) (tb := 15) (m := 17) (by decide +kernel) (by decide) (by decide) (by decide) (by decide)
set_option maxRecDepth 1000000 in
theorem cp_16 : ai_base ah_G ar_tab 123 re_123_16 := fun d _ _ => cp_ok (fb := 19) (tb := 18) (m := 17) (by decide +kernel) (by decide) (by decide) (by decide) (by decide)
set_option maxRecDepth 1000000 in
theorem cp_17 : ai_base ah_G ar_tab 123 re_123_17 := fun d _ _ => cp_ok (fb := 0) (tb := 7) (m := 17) (by decide +kernel) (by decide) (by decide) (by decide) (by decide)
set_option maxRecDepth 1000000 in
theorem cp_18 : ai_base ah_G ar_tab 123 re_123_18 := fun d _ _ => cp_ok (fb := 0) (tb := 17) (m := 17) (by decide +kernel) (by decide) (by decide) (by decide) (by decide)
set_option maxRecDepth 1000000 in
theorem cp_19 : ai_base ah_G ar_tab 123 re_123_19 := fun d _ _ => cp_ok (fb := 0) (tb := 10) (m := 17) (by decide +kernel) (by decide) (by decide) (by decide) (by decide)
set_option maxRecDepth 1000000 in
theorem cp_20 : ai_base ah_G ar_tab 123 re_123_20 := fun d _ _ => cp_ok (fb := 0) (tb := 13) (m := 17) (by decide +kernel) (by decide) (by decide) (by decide) (by decide)
set_option maxRecDepth 1000000 in
theorem cp_21 : ai_base ah_G ar_tab 123 re_123_21 := fun d _ _ => cp_ok (fb := 6) (tb := 5) (m := 17) (by decide +kernel) (by decide) (by decide) (by decide) (by decide)
set_option maxRecDepth 1000000 in
theorem cp_22 : ai_base ah_G ar_tab 123 re_123_22 := fun d _ _ => cp_ok (fb := 11) (tb := 10) (m := 17) (by decide +kernel) (by decide) (by decide) (by decide) (by decide)
set_option maxRecDepth 1000000 in
theorem cp_23 : ai_base ah_G ar_tab 123 re_123_23 := fun d _ _ => cp_ok (fb := 14) (tb := 13) (m := 17) (by decide +kernel) (by decide) (by decide) (by decide) (by decide)
set_option maxRecDepth 1000000 in
theorem cp_24 : ai_base ah_G ar_tab 123 re_123_24 := fun d _ _ => cp_ok (fb := 17) (tb := 16) (m := 17) (by decide +kernel) (by decide) (by decide) (by decide) (by decide)
set_option maxRecDepth 1000000 in
theorem cp_25 : ai_base ah_G ar_tab 123 re_123_25 := fun d _ _ => cp_ok (fb := 0) (tb := 16) (m := 17) (by decide +kernel) (by decide) (by decide) (by decide) (by decide)
set_option maxRecDepth 1000000 in
theorem cp_26 : ai_base ah_G ar_tab 123 re_123_26 := fun d _ _ => cp_ok (fb := 0) (tb := 9) (m := 17) (by decide +kernel) (by decide) (by decide) (by decide) (by decide)
set_option maxRecDepth 1000000 in
theorem cp_27 : ai_base ah_G ar_tab 123 re_123_27 := fun d _ _ => cp_ok (fb := 7) (tb := 6) (m := 17) (by decide +kernel) (by decide) (by decide) (by decide) (by decide)
set_option maxRecDepth 1000000 in
theorem cp_28 : ai_base ah_G ar_tab 123 re_123_28 := fun d _ _ => cp_ok (fb := 20) (tb := 19) (m := 17) (by decide +kernel) (by decide) (by decide) (by decide) (by decide)
set_option maxRecDepth 1000000 in
theorem cp_29 : ai_base ah_G ar_tab 123 re_123_29 := fun d _ _ => cp_ok (fb := 0) (tb := 6) (m := 17) (by decide +kernel) (by decide) (by decide) (by decide) (by decide)
set_option maxRecDepth 1000000 in
theorem cp_30 : ai_base ah_G ar_tab 123 re_123_30 := fun d _ _ => cp_ok (fb := 0) (tb := 19) (m := 17) (by decide +kernel) (by decide) (by decide) (by decide) (by decide)
set_option maxRecDepth 1000000 in
theorem cp_31 : ai_base ah_G ar_tab 123 re_123_31 := fun d _ _ => cp_ok (fb := 9) (tb := 0) (m := 17) (by decide +kernel) (by decide) (by decide) (by decide) (by decide)
set_option maxRecDepth 1000000 in
theorem cp_32 : ai_base ah_G ar_tab 123 re_123_32 := fun d _ _ => cp_ok (fb := 6) (tb := 0) (m := 17) (by decide +kernel) (by decide) (by decide) (by decide) (by decide)
set_option maxRecDepth 1000000 in
theorem cp_33 : ai_base ah_G ar_tab 123 re_123_33 := fun d _ _ => cp_ok (fb := 11) (tb := 0) (m := 17) (by decide +kernel) (by decide) (by decide) (by decide) (by decide)
set_option maxRecDepth 1000000 in
theorem cp_34 : ai_base ah_G ar_tab 123 re_123_34 := fun d _ _ => cp_ok (fb := 20) (tb := 0) (m := 17) (by decide +kernel) (by decide) (by decide) (by decide) (by decide)
set_option maxRecDepth 1000000 in
theorem cp_35 : ai_base ah_G ar_tab 123 re_123_35 := fun d _ _ => cp_ok (fb := 19) (tb := 0) (m := 17) (by decide +kernel) (by decide) (by decide) (by decide) (by decide)
set_option maxRecDepth 1000000 in
theorem cp_36 : ai_base ah_G ar_tab 123 re_123_36 := fun d _ _ => cp_ok (fb := 10) (tb := 0) (m := 17) (by decide +kernel) (by decide) (by decide) (by decide) (by decide)
set_option maxRecDepth 1000000 in
theorem cp_37 : ai_base ah_G ar_tab 123 re_123_37 := fun d _ _ => cp_ok (fb := 7) (tb := 0) (m := 17) (by decide +kernel) (by decide) (by decide) (by decide) (by decide)
set_option maxRecDepth 1000000 in
theorem cp_38 : ai_base ah_G ar_tab 123 re_123_38 := fun d _ _ => cp_ok (fb := 16) (tb := 0) (m := 17) (by decide +kernel) (by decide) (by decide) (by decide) (by decide)
set_option maxRecDepth 1000000 in
theorem cp_39 : ai_base ah_G ar_tab 123 re_123_39 := fun d _ _ => cp_ok (fb := 17) (tb := 0) (m := 17) (by decide +kernel) (by decide) (by decide) (by decide) (by decide)
set_option maxRecDepth 1000000 in
theorem cp_40 : ai_base ah_G ar_tab 123 re_123_40 := fun d _ _ => cp_ok (fb := 13) (tb := 0) (m := 17) (by decide +kernel) (by decide) (by decide) (by decide) (by decide)
set_option maxRecDepth 1000000 in
theorem cp_41 : ai_base ah_G ar_tab 123 re_123_41 := fun d _ _ => cp_ok (fb := 14) (tb := 0) (m := 17) (by decide +kernel) (by decide) (by decide) (by decide) (by decide)
set_option maxRecDepth 1000000 in
theorem cp_42 : ai_base ah_G ar_tab 123 re_123_42 := fun d _ _ => cp_ok (fb := 12) (tb := 0) (m := 17) (by decide +kernel) (by decide) (by decide) (by decide) (by decide)
set_option maxRecDepth 1000000 in
theorem cp_43 : ai_base ah_G ar_tab 123 re_123_43 := fun d _ _ => cp_ok (fb := 8) (tb := 0) (m := 17) (by decide +kernel) (by decide) (by decide) (by decide) (by decide)
set_option maxRecDepth 1000000 in
theorem cp_44 : ai_base ah_G ar_tab 123 re_123_44 := fun d _ _ => cp_ok (fb := 5) (tb := 0) (m := 17) (by decide +kernel) (by decide) (by decide) (by decide) (by decide)
set_option maxRecDepth 1000000 in
theorem cp_45 : ai_base ah_G ar_tab 123 re_123_45 := fun d _ _ => cp_ok (fb := 18) (tb := 0) (m := 17) (by decide +kernel) (by decide) (by decide) (by decide) (by decide)
set_option maxRecDepth 1000000 in
theorem cp_46 : ai_base ah_G ar_tab 123 re_123_46 := fun d _ _ => cp_ok (fb := 15) (tb := 0) (m := 17) (by decide +kernel) (by decide) (by decide) (by decide) (by decide)
noncomputable def cp_ct9 (f t m : Nat) : ai_C := (123, [.inr (.inr 483), .inl (f + 2147483648, f + 2147483648, none), .inl (t + 2147483648, t + 2147483648, none), .inl (m + 2147483648, m + 2147483648, none)], [], [(399, 945, 1034)], [(none, [])])
theorem cp_ok9 {d fb tb m : Nat} (hck : ha_all (cp_fit (45 * fb) (45 * tb)) m = true) (hf : fb < 23) (ht : tb < 23) (hd : fb ≠ tb) (hm : 9 ≤ m ∧ m ≤ 45) (ht9 : 945 ≤ 45 * tb) : ai_cok ah_G (en_u (d + 1)) 123 (cp_ct9 (45 * fb) (45 * tb) m) := by
  intro ρ as h0 n hs hG hO hE
  obtain ⟨w0, ws, rfl, g0, hs⟩ := ai_rvs_cons hs
  obtain ⟨w1, ws, rfl, g1, hs⟩ := ai_rvs_cons hs
  obtain ⟨w2, ws, rfl, g2, hs⟩ := ai_rvs_cons hs
  obtain ⟨w3, ws, rfl, g3, hs⟩ := ai_rvs_cons hs
  have hs := ai_rvs_nil hs
  subst hs
  have g0 := ha_rc (c := 383) g0
  have g1 := ha_int (m := 0) (by first | decide | omega) g1
  have g2 := ha_int (m := 0) (by first | decide | omega) g2
  have g3 := ha_int (m := 0) (by first | decide | omega) g3
  subst g0 g1 g2 g3
  obtain ⟨r, r1, r2⟩ := en_u_ex (d := d) (mi := 123) (as := [.inr (.inr (.inl (some 383))), .inl (45 * fb), .inl (45 * tb), .inl m]) (t := h0) (n := n) (P := fun r => r.1 = none ∧ r.2.2.1 = n ∧ r.2.2.2 = 0 ∧ ai_HG ah_G r.2.1 ∧ (∀ c i, c ≠ 399 → ai_hv r.2.1 c i = ai_hv h0 c i) ∧ (∀ i, ai_hv r.2.1 399 i = if 45 * tb ≤ i ∧ i < 45 * tb + m then ai_hv h0 399 (i - 45 * tb + 45 * fb) else ai_hv h0 399 i)) rfl (by
    show en_ex _ _ _ _ (0, [(0, .inr (.inr (.inl (some 383)))), (1, .inl (45 * fb)), (2, .inl (45 * tb)), (3, .inl m)], [], h0, n, 0) _
    refine ex_go (S := (1, [(0, .inr (.inr (.inl (some 383)))), (1, .inl (45 * fb)), (2, .inl (45 * tb)), (3, .inl m)], [.inl 0], h0, n, 0)) rfl (fun _ => rfl) rfl ?_
    refine ex_go (S := (3, cp_L (45 * fb) (45 * tb) m 0, [], h0, n, 0)) rfl (fun _ => rfl) rfl ?_
    exact cp_loop hck (by first | decide | omega) (by first | decide | omega) (by first | decide | omega) hm.2 (fun t' k1 k2 k3 => ⟨_, rfl, rfl, rfl, rfl, k1, k2, k3⟩) m 0 h0 (by first | decide | omega) hG (fun _ _ _ => rfl) (fun i => by rw [if_neg (by first | decide | omega)]))
  obtain ⟨s1, s2, s3, s4, s5, s6⟩ := r2
  refine ⟨r, r1, s2, s3, s4, fun c i hc => ?_, ⟨?_, ?_⟩, (none, []), List.mem_cons_self, ?_, fun q hq => by cases hq⟩
  · by_cases e : c = 399
    · subst e
      have hi : ¬ (945 ≤ i ∧ i ≤ 1034) := fun z => absurd ⟨(399, 945, 1034), List.mem_cons_self, rfl, z.1, z.2⟩ hc
      rw [s6, if_neg (by first | decide | omega)]
    · exact s5 c i e
  · exact ⟨ai_El_kept hE.1.1 (fun i => s5 _ i (by decide)) (fun i => s5 _ i (by decide)) (fun i => s5 _ i (by decide)), ai_El_kept hE.1.2 (fun i => s5 _ i (by decide)) (fun i => s5 _ i (by decide)) (fun i => s5 _ i (by decide))⟩
  · obtain ⟨e1, e2, e3, e4⟩ := hE.2
    have hz : ai_Em h0 := hE.2
    refine ⟨?_, ?_, fun b hb => ?_, ?_⟩
    · intro k hk
      have := e1 k hk
      simp only [ai_En, s5 389 _ (by decide)] at this ⊢
      exact this
    · intro k hk
      have := e2 k hk
      simp only [ai_En, s5 396 _ (by decide)] at this ⊢
      exact this
    · by_cases e : b = tb
      · obtain ⟨x, y, z1, z2, z3⟩ := e3 fb hf
        refine ⟨x, y, ?_, ?_, z3⟩
        · rw [s6, if_pos (by first | decide | omega), ← z1]
          congr 1
          omega
        · rw [s6, if_pos (by first | decide | omega), ← z2]
          congr 1
          omega
      · rw [s6, s6, if_neg (by first | decide | omega), if_neg (by first | decide | omega)]
        exact e3 b hb
    · intro l hl
      have := e4 l hl
      simp only [ai_rpn, s5 389 _ (by decide), s5 390 _ (by decide), s5 391 _ (by decide)] at this ⊢
      exact this
  · show ai_ro ρ none r.1
    rw [s1]
    exact trivial
set_option maxRecDepth 1000000 in
theorem cp_47 : ai_base ah_G ar_tab 123 re_123_47 := fun d _ _ => cp_ok9 (fb := 0) (tb := 22) (m := 17) (by decide +kernel) (by decide) (by decide) (by decide) (by decide) (by decide)
set_option maxRecDepth 1000000 in
theorem cp_48 : ai_base ah_G ar_tab 123 re_123_48 := fun d _ _ => cp_ok (fb := 3) (tb := 0) (m := 45) (by decide +kernel) (by decide) (by decide) (by decide) (by decide)
set_option maxRecDepth 1000000 in
theorem cp_49 : ai_base ah_G ar_tab 123 re_123_49 := fun d _ _ => cp_ok (fb := 0) (tb := 3) (m := 45) (by decide +kernel) (by decide) (by decide) (by decide) (by decide)
set_option maxRecDepth 1000000 in
theorem cp_50 : ai_base ah_G ar_tab 123 re_123_50 := fun d _ _ => cp_ok (fb := 1) (tb := 0) (m := 45) (by decide +kernel) (by decide) (by decide) (by decide) (by decide)
set_option maxRecDepth 1000000 in
theorem cp_51 : ai_base ah_G ar_tab 123 re_123_51 := fun d _ _ => cp_ok (fb := 2) (tb := 0) (m := 45) (by decide +kernel) (by decide) (by decide) (by decide) (by decide)
set_option maxRecDepth 1000000 in
theorem cp_52 : ai_base ah_G ar_tab 123 re_123_52 := fun d _ _ => cp_ok (fb := 0) (tb := 4) (m := 45) (by decide +kernel) (by decide) (by decide) (by decide) (by decide)
set_option maxRecDepth 1000000 in
theorem cp_53 : ai_base ah_G ar_tab 123 re_123_53 := fun d _ _ => cp_ok (fb := 0) (tb := 1) (m := 45) (by decide +kernel) (by decide) (by decide) (by decide) (by decide)
set_option maxRecDepth 1000000 in
theorem cp_54 : ai_base ah_G ar_tab 123 re_123_54 := fun d _ _ => cp_ok (fb := 0) (tb := 2) (m := 45) (by decide +kernel) (by decide) (by decide) (by decide) (by decide)
set_option maxRecDepth 1000000 in
theorem cp_55 : ai_base ah_G ar_tab 123 re_123_55 := fun d _ _ => cp_ok (fb := 4) (tb := 0) (m := 45) (by decide +kernel) (by decide) (by decide) (by decide) (by decide)
theorem hand_123 : ∀ q ∈ rm_123, ai_base ah_G ar_tab 123 q := ha_cons cp_0 (ha_cons cp_1 (ha_cons cp_2 (ha_cons cp_3 (ha_cons cp_4 (ha_cons cp_5 (ha_cons cp_6 (ha_cons cp_7 (ha_cons cp_8 (ha_cons cp_9 (ha_cons cp_10 (ha_cons cp_11 (ha_cons cp_12 (ha_cons cp_13 (ha_cons cp_14 (ha_cons cp_15 (ha_cons cp_16 (ha_cons cp_17 (ha_cons cp_18 (ha_cons cp_19 (ha_cons cp_20 (ha_cons cp_21 (ha_cons cp_22 (ha_cons cp_23 (ha_cons cp_24 (ha_cons cp_25 (ha_cons cp_26 (ha_cons cp_27 (ha_cons cp_28 (ha_cons cp_29 (ha_cons cp_30 (ha_cons cp_31 (ha_cons cp_32 (ha_cons cp_33 (ha_cons cp_34 (ha_cons cp_35 (ha_cons cp_36 (ha_cons cp_37 (ha_cons cp_38 (ha_cons cp_39 (ha_cons cp_40 (ha_cons cp_41 (ha_cons cp_42 (ha_cons cp_43 (ha_cons cp_44 (ha_cons cp_45 (ha_cons cp_46 (ha_cons cp_47 (ha_cons cp_48 (ha_cons cp_49 (ha_cons cp_50 (ha_cons cp_51 (ha_cons cp_52 (ha_cons cp_53 (ha_cons cp_54 (ha_cons cp_55 (ha_nil))))))))))))))))))))))))))))))))))))))))))))))))))))))))
end HA3
