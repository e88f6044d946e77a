section AT4
noncomputable def tx_c_thing0 : ai_C := (87, [.inr (.inr 100), .inl (0, 4294967295, none), .inl (0, 4294967295, none)], [(0, 10, .inr (.inr [291]))], [], [(some (.inl (2147483648, 2147483655, none)), [(0, 10, .inr (.inr [291]))]), (some (.inl (2147483647, 2147483647, none)), [(0, 10, .inr (.inr [291]))])])
noncomputable def tx_k_thing0 : List ai_K := [(23, [], [], [(0, 10, .inr (.inr [291]))], [(0, 999977), (0, 0)])]
noncomputable def tx_d_thing0 : List (Nat × List ai_sp) := [(0, [(0, 1, 0, 2147483648), (0, 1, 0, 2147483654), (0, 2, 0, 2147483648), (0, 2, 0, 2147483652)]), (33, [(0, 2, 0, 2147483649)]), (50, [(0, 2, 0, 2147483651)]), (74, [(0, 2, 0, 2147483650)])]
set_option maxRecDepth 1000000 in
theorem tx_q_thing0 : ai_chs ag_G (ai_csl at_tab 1) (en_code 87) (en_ml 87) (ai_drl tx_d_thing0) tx_k_thing0 [(0, 1000001), (0, 0)] 3000 23 tx_c_thing0 = true := by decide +kernel
theorem tx_r_thing0 (d : Nat) (hd : 1 ≤ d) (ρ : Nat → Nat) (as : List en_V) (t : en_H) (n : Nat) (hs : ai_rvs ρ tx_c_thing0.2.1 as) (hG : ai_HG ag_G t) (hO : ai_HO tx_c_thing0.2.2.1 t) (hE : ai_E t) : Nat.ble (en_sum as) (en_ml 87) = true ∧ en_ex none (en_u d) (en_code 87) (fun pc => Nat.beq pc 23) (0, en_args as 0, [], t, n, 0) (ai_Ps ag_G tx_c_thing0.2.2.2.1 t n tx_c_thing0.2.2.2.2 tx_k_thing0 23) :=
  ai_chs_ok (c := tx_c_thing0) tx_q_thing0 (fun mi c hc => by
    obtain ⟨q, q1, q2, q3⟩ := ai_csl_ok hc
    rw [← q3]
    exact at_all d mi q q1 (by first | decide | omega)) ρ as t n hs hG hO hE
noncomputable def tx_c_thing1 : ai_C := (87, [.inr (.inr 100), .inl (0, 4294967295, none), .inl (0, 4294967295, none)], [(0, 10, .inr (.inr [357]))], [], [(some (.inl (2147483648, 2147483655, none)), [(0, 10, .inr (.inr [357]))]), (some (.inl (2147483647, 2147483647, none)), [(0, 10, .inr (.inr [357]))])])
noncomputable def tx_k_thing1 : List ai_K := [(23, [], [], [(0, 10, .inr (.inr [357]))], [(0, 999977), (0, 0)])]
noncomputable def tx_d_thing1 : List (Nat × List ai_sp) := [(0, [(0, 1, 0, 2147483648), (0, 1, 0, 2147483654), (0, 2, 0, 2147483648), (0, 2, 0, 2147483652)]), (33, [(0, 2, 0, 2147483649)]), (50, [(0, 2, 0, 2147483651)]), (74, [(0, 2, 0, 2147483650)])]
set_option maxRecDepth 1000000 in
theorem tx_q_thing1 : ai_chs ag_G (ai_csl at_tab 1) (en_code 87) (en_ml 87) (ai_drl tx_d_thing1) tx_k_thing1 [(0, 1000001), (0, 0)] 3000 23 tx_c_thing1 = true := by decide +kernel
theorem tx_r_thing1 (d : Nat) (hd : 1 ≤ d) (ρ : Nat → Nat) (as : List en_V) (t : en_H) (n : Nat) (hs : ai_rvs ρ tx_c_thing1.2.1 as) (hG : ai_HG ag_G t) (hO : ai_HO tx_c_thing1.2.2.1 t) (hE : ai_E t) : Nat.ble (en_sum as) (en_ml 87) = true ∧ en_ex none (en_u d) (en_code 87) (fun pc => Nat.beq pc 23) (0, en_args as 0, [], t, n, 0) (ai_Ps ag_G tx_c_thing1.2.2.2.1 t n tx_c_thing1.2.2.2.2 tx_k_thing1 23) :=
  ai_chs_ok (c := tx_c_thing1) tx_q_thing1 (fun mi c hc => by
    obtain ⟨q, q1, q2, q3⟩ := ai_csl_ok hc
    rw [← q3]
    exact at_all d mi q q1 (by first | decide | omega)) ρ as t n hs hG hO hE
noncomputable def tx_c_crew0 : ai_C := (88, [.inr (.inr 100), .inl (0, 4294967295, none), .inl (0, 4294967295, none)], [(0, 10, .inr (.inr [291]))], [], [(some (.inl (2147483648, 2147483678, none)), [(0, 10, .inr (.inr [291])), (206, 5, .inl (2147483649, 2147483650))]), (some (.inl (2147483649, 2147483649, none)), [(0, 10, .inr (.inr [291])), (206, 5, .inl (2147483650, 2147483650))]), (some (.inl (2147483648, 2147483648, none)), [(0, 10, .inr (.inr [291])), (206, 5, .inl (2147483650, 2147483650))]), (some (.inl (0, 4294967295, none)), [(0, 10, .inr (.inr [291])), (206, 5, .inl (2147483649, 2147483650))]), (some (.inl (2147483649, 2147483649, none)), [(0, 10, .inr (.inr [291])), (206, 5, .inl (2147483649, 2147483650))]), (some (.inl (2147483648, 2147483648, none)), [(0, 10, .inr (.inr [291])), (206, 5, .inl (2147483649, 2147483650))])])
noncomputable def tx_k_crew0 : List ai_K := [(24, [], [], [(0, 10, .inr (.inr [291]))], [(0, 999976), (0, 0)])]
noncomputable def tx_d_crew0 : List (Nat × List ai_sp) := [(0, [(0, 1, 0, 2147483648), (0, 1, 0, 2147483649), (0, 1, 0, 2147483650), (0, 2, 0, 2147483648), (0, 2, 0, 2147483656)])]
set_option maxRecDepth 1000000 in
theorem tx_q_crew0 : ai_chs ag_G (ai_csl at_tab 1) (en_code 88) (en_ml 88) (ai_drl tx_d_crew0) tx_k_crew0 [(0, 1000001), (0, 0)] 3000 24 tx_c_crew0 = true := by decide +kernel
theorem tx_r_crew0 (d : Nat) (hd : 1 ≤ d) (ρ : Nat → Nat) (as : List en_V) (t : en_H) (n : Nat) (hs : ai_rvs ρ tx_c_crew0.2.1 as) (hG : ai_HG ag_G t) (hO : ai_HO tx_c_crew0.2.2.1 t) (hE : ai_E t) : Nat.ble (en_sum as) (en_ml 88) = true ∧ en_ex none (en_u d) (en_code 88) (fun pc => Nat.beq pc 24) (0, en_args as 0, [], t, n, 0) (ai_Ps ag_G tx_c_crew0.2.2.2.1 t n tx_c_crew0.2.2.2.2 tx_k_crew0 24) :=
  ai_chs_ok (c := tx_c_crew0) tx_q_crew0 (fun mi c hc => by
    obtain ⟨q, q1, q2, q3⟩ := ai_csl_ok hc
    rw [← q3]
    exact at_all d mi q q1 (by first | decide | omega)) ρ as t n hs hG hO hE
noncomputable def tx_c_crew1 : ai_C := (88, [.inr (.inr 100), .inl (0, 4294967295, none), .inl (0, 4294967295, none)], [(0, 10, .inr (.inr [357]))], [], [(some (.inl (2147483648, 2147483678, none)), [(0, 10, .inr (.inr [357])), (272, 5, .inl (2147483649, 2147483650))]), (some (.inl (2147483649, 2147483649, none)), [(0, 10, .inr (.inr [357])), (272, 5, .inl (2147483650, 2147483650))]), (some (.inl (2147483648, 2147483648, none)), [(0, 10, .inr (.inr [357])), (272, 5, .inl (2147483650, 2147483650))]), (some (.inl (0, 4294967295, none)), [(0, 10, .inr (.inr [357])), (272, 5, .inl (2147483649, 2147483650))]), (some (.inl (2147483649, 2147483649, none)), [(0, 10, .inr (.inr [357])), (272, 5, .inl (2147483649, 2147483650))]), (some (.inl (2147483648, 2147483648, none)), [(0, 10, .inr (.inr [357])), (272, 5, .inl (2147483649, 2147483650))])])
noncomputable def tx_k_crew1 : List ai_K := [(24, [], [], [(0, 10, .inr (.inr [357]))], [(0, 999976), (0, 0)])]
noncomputable def tx_d_crew1 : List (Nat × List ai_sp) := [(0, [(0, 1, 0, 2147483648), (0, 1, 0, 2147483649), (0, 1, 0, 2147483650), (0, 2, 0, 2147483648), (0, 2, 0, 2147483656)])]
set_option maxRecDepth 1000000 in
theorem tx_q_crew1 : ai_chs ag_G (ai_csl at_tab 1) (en_code 88) (en_ml 88) (ai_drl tx_d_crew1) tx_k_crew1 [(0, 1000001), (0, 0)] 3000 24 tx_c_crew1 = true := by decide +kernel
theorem tx_r_crew1 (d : Nat) (hd : 1 ≤ d) (ρ : Nat → Nat) (as : List en_V) (t : en_H) (n : Nat) (hs : ai_rvs ρ tx_c_crew1.2.1 as) (hG : ai_HG ag_G t) (hO : ai_HO tx_c_crew1.2.2.1 t) (hE : ai_E t) : Nat.ble (en_sum as) (en_ml 88) = true ∧ en_ex none (en_u d) (en_code 88) (fun pc => Nat.beq pc 24) (0, en_args as 0, [], t, n, 0) (ai_Ps ag_G tx_c_crew1.2.2.2.1 t n tx_c_crew1.2.2.2.2 tx_k_crew1 24) :=
  ai_chs_ok (c := tx_c_crew1) tx_q_crew1 (fun mi c hc => by
    obtain ⟨q, q1, q2, q3⟩ := ai_csl_ok hc
    rw [← q3]
    exact at_all d mi q q1 (by first | decide | omega)) ρ as t n hs hG hO hE
noncomputable def tx_c_share0 : ai_C := (89, [.inr (.inr 100)], [(0, 10, .inr (.inr [291]))], [(231, 0, 24)], [(some (.inl (2147483649, 4294967295, none)), [(0, 10, .inr (.inr [291]))]), (some (.inl (2147483648, 2147483648, none)), [(0, 10, .inr (.inr [291]))]), (some (.inl (0, 2147483647, none)), [(0, 10, .inr (.inr [291]))])])
noncomputable def tx_k_share0 : List ai_K := [(14, [], [], [(0, 10, .inr (.inr [291]))], [(0, 999986), (0, 0)]), (43, [(0, .inr (.inr 100)), (1, .inl (0, 4294967295, none)), (2, .inl (0, 4294967295, none)), (3, .inl (0, 4294967295, none)), (4, .inl (2147483648, 2147483848, none))], [], [(0, 10, .inr (.inr [291]))], [(0, 999957), (1, 4)])]
noncomputable def tx_d_share0 : List (Nat × List ai_sp) := [(7, [(1, 206, 5, 2147483650)]), (43, [(0, 4, 0, 2147483848)]), (108, [(0, 1, 0, 2147483846), (0, 1, 0, 2147483747), (0, 1, 0, 2147483648), (0, 1, 0, 2147484044), (0, 1, 0, 2147483945)]), (153, [(0, 4, 0, 2147483649)]), (161, [(0, 5, 0, 2147483648)])]
set_option maxRecDepth 1000000 in
theorem tx_q_share0 : ai_chs ag_G (ai_csl at_tab 3) (en_code 89) (en_ml 89) (ai_drl tx_d_share0) tx_k_share0 [(0, 1000001), (0, 0)] 3000 14 tx_c_share0 = true := by decide +kernel
theorem tx_r_share0 (d : Nat) (hd : 3 ≤ d) (ρ : Nat → Nat) (as : List en_V) (t : en_H) (n : Nat) (hs : ai_rvs ρ tx_c_share0.2.1 as) (hG : ai_HG ag_G t) (hO : ai_HO tx_c_share0.2.2.1 t) (hE : ai_E t) : Nat.ble (en_sum as) (en_ml 89) = true ∧ en_ex none (en_u d) (en_code 89) (fun pc => Nat.beq pc 14) (0, en_args as 0, [], t, n, 0) (ai_Ps ag_G tx_c_share0.2.2.2.1 t n tx_c_share0.2.2.2.2 tx_k_share0 14) :=
  ai_chs_ok (c := tx_c_share0) tx_q_share0 (fun mi c hc => by
    obtain ⟨q, q1, q2, q3⟩ := ai_csl_ok hc
    rw [← q3]
    exact at_all d mi q q1 (by first | decide | omega)) ρ as t n hs hG hO hE
noncomputable def tx_c_share1 : ai_C := (89, [.inr (.inr 100)], [(0, 10, .inr (.inr [357]))], [(297, 0, 24)], [(some (.inl (2147483649, 4294967295, none)), [(0, 10, .inr (.inr [357]))]), (some (.inl (2147483648, 2147483648, none)), [(0, 10, .inr (.inr [357]))]), (some (.inl (0, 2147483647, none)), [(0, 10, .inr (.inr [357]))])])
noncomputable def tx_k_share1 : List ai_K := [(14, [], [], [(0, 10, .inr (.inr [357]))], [(0, 999986), (0, 0)]), (43, [(0, .inr (.inr 100)), (1, .inl (0, 4294967295, none)), (2, .inl (0, 4294967295, none)), (3, .inl (0, 4294967295, none)), (4, .inl (2147483648, 2147483848, none))], [], [(0, 10, .inr (.inr [357]))], [(0, 999957), (1, 4)])]
noncomputable def tx_d_share1 : List (Nat × List ai_sp) := [(7, [(1, 272, 5, 2147483650)]), (43, [(0, 4, 0, 2147483848)]), (108, [(0, 1, 0, 2147483846), (0, 1, 0, 2147483747), (0, 1, 0, 2147483648), (0, 1, 0, 2147484044), (0, 1, 0, 2147483945)]), (153, [(0, 4, 0, 2147483649)]), (161, [(0, 5, 0, 2147483648)])]
set_option maxRecDepth 1000000 in
theorem tx_q_share1 : ai_chs ag_G (ai_csl at_tab 3) (en_code 89) (en_ml 89) (ai_drl tx_d_share1) tx_k_share1 [(0, 1000001), (0, 0)] 3000 14 tx_c_share1 = true := by decide +kernel
theorem tx_r_share1 (d : Nat) (hd : 3 ≤ d) (ρ : Nat → Nat) (as : List en_V) (t : en_H) (n : Nat) (hs : ai_rvs ρ tx_c_share1.2.1 as) (hG : ai_HG ag_G t) (hO : ai_HO tx_c_share1.2.2.1 t) (hE : ai_E t) : Nat.ble (en_sum as) (en_ml 89) = true ∧ en_ex none (en_u d) (en_code 89) (fun pc => Nat.beq pc 14) (0, en_args as 0, [], t, n, 0) (ai_Ps ag_G tx_c_share1.2.2.2.1 t n tx_c_share1.2.2.2.2 tx_k_share1 14) :=
  ai_chs_ok (c := tx_c_share1) tx_q_share1 (fun mi c hc => by
    obtain ⟨q, q1, q2, q3⟩ := ai_csl_ok hc
    rw [← q3]
    exact at_all d mi q q1 (by first | decide | omega)) ρ as t n hs hG hO hE
end AT4
