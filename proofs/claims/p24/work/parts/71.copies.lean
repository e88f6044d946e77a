section HA3
theorem ha_nil {P : ai_cert → Prop} : ∀ q ∈ ([] : List ai_cert), P q := fun q hq => by cases hq
theorem ha_cons {P : ai_cert → Prop} {a : ai_cert} {l : List ai_cert} (h1 : P a) (h2 : ∀ q ∈ l, P q) : ∀ q ∈ a :: l, P q := fun q hq => by
  rcases List.mem_cons.mp hq with rfl | hq
  · exact h1
  · exact h2 q hq
set_option maxRecDepth 1000000 in
theorem cp_0 : ai_base ah_G ar_tab 123 re_123_0 := fun d _ _ => cp_ok (fb := 8) (tb := 7) (m := 17) (by decide +kernel) (by decide) (by decide) (by decide) (by decide)
set_option maxRecDepth 1000000 in
theorem cp_1 : ai_base ah_G ar_tab 123 re_123_1 := fun d _ _ => cp_ok (fb := 12) (tb := 11) (m := 17) (by decide +kernel) (by decide) (by decide) (by decide) (by decide)
set_option maxRecDepth 1000000 in
theorem cp_2 : ai_base ah_G ar_tab 123 re_123_2 := fun d _ _ => cp_ok (fb := 15) (tb := 14) (m := 17) (by decide +kernel) (by decide) (by decide) (by decide) (by decide)
set_option maxRecDepth 1000000 in
theorem cp_3 : ai_base ah_G ar_tab 123 re_123_3 := fun d _ _ => cp_ok (fb := 0) (tb := 15) (m := 17) (by decide +kernel) (by decide) (by decide) (by decide) (by decide)
set_option maxRecDepth 1000000 in
theorem cp_4 : ai_base ah_G ar_tab 123 re_123_4 := fun d _ _ => cp_ok (fb := 18) (tb := 17) (m := 17) (by decide +kernel) (by decide) (by decide) (by decide) (by decide)
set_option maxRecDepth 1000000 in
theorem cp_5 : ai_base ah_G ar_tab 123 re_123_5 := fun d _ _ => cp_ok (fb := 0) (tb := 8) (m := 17) (by decide +kernel) (by decide) (by decide) (by decide) (by decide)
set_option maxRecDepth 1000000 in
theorem cp_6 : ai_base ah_G ar_tab 123 re_123_6 := fun d _ _ => cp_ok (fb := 0) (tb := 5) (m := 17) (by decide +kernel) (by decide) (by decide) (by decide) (by decide)
set_option maxRecDepth 1000000 in
theorem cp_7 : ai_base ah_G ar_tab 123 re_123_7 := fun d _ _ => cp_ok (fb := 0) (tb := 20) (m := 17) (by decide +kernel) (by decide) (by decide) (by decide) (by decide)
set_option maxRecDepth 1000000 in
theorem cp_8 : ai_base ah_G ar_tab 123 re_123_8 := fun d _ _ => cp_ok (fb := 9) (tb := 8) (m := 17) (by decide +kernel) (by decide) (by decide) (by decide) (by decide)
set_option maxRecDepth 1000000 in
theorem cp_9 : ai_base ah_G ar_tab 123 re_123_9 := fun d _ _ => cp_ok (fb := 0) (tb := 18) (m := 17) (by decide +kernel) (by decide) (by decide) (by decide) (by decide)
set_option maxRecDepth 1000000 in
theorem cp_10 : ai_base ah_G ar_tab 123 re_123_10 := fun d _ _ => cp_ok (fb := 0) (tb := 11) (m := 17) (by decide +kernel) (by decide) (by decide) (by decide) (by decide)
set_option maxRecDepth 1000000 in
theorem cp_11 : ai_base ah_G ar_tab 123 re_123_11 := fun d _ _ => cp_ok (fb := 10) (tb := 9) (m := 17) (by decide +kernel) (by decide) (by decide) (by decide) (by decide)
set_option maxRecDepth 1000000 in
theorem cp_12 : ai_base ah_G ar_tab 123 re_123_12 := fun d _ _ => cp_ok (fb := 0) (tb := 14) (m := 17) (by decide +kernel) (by decide) (by decide) (by decide) (by decide)
set_option maxRecDepth 1000000 in
theorem cp_13 : ai_base ah_G ar_tab 123 re_123_13 := fun d _ _ => cp_ok (fb := 0) (tb := 12) (m := 17) (by decide +kernel) (by decide) (by decide) (by decide) (by decide)
set_option maxRecDepth 1000000 in
theorem cp_14 : ai_base ah_G ar_tab 123 re_123_14 := fun d _ _ => cp_ok (fb := 13) (tb := 12) (m := 17) (by decide +kernel) (by decide) (by decide) (by decide) (by decide)
set_option maxRecDepth 1000000 in
theorem cp_15 : ai_base ah_G ar_tab 123 re_123_15 := fun d _ _ => cp_ok (fb := 16) (tb := 15) (m := 17) (by decide +kernel) (by decide) (by decide) (by decide) (by decide)
set_option maxRecDepth 1000000 in
theorem cp_16 : ai_base ah_G ar_tab 123 re_123_16 := fun d _ _ => cp_ok (fb := 19) (tb := 18) (m := 17) (by decide +kernel) (by decide) (by decide) (by decide) (by decide)
set_option maxRecDepth 1000000 in
theorem cp_17 : ai_base ah_G ar_tab 123 re_123_17 := fun d _ _ => cp_ok (fb := 0) (tb := 7) (m := 17) (by decide +kernel) (by decide) (by decide) (by decide) (by decide)
set_option maxRecDepth 1000000 in
theorem cp_18 : ai_base ah_G ar_tab 123 re_123_18 := fun d _ _ => cp_ok (fb := 0) (tb := 17) (m := 17) (by decide +kernel) (by decide) (by decide) (by decide) (by decide)
set_option maxRecDepth 1000000 in
theorem cp_19 : ai_base ah_G ar_tab 123 re_123_19 := fun d _ _ => cp_ok (fb := 0) (tb := 10) (m := 17) (by decide +kernel) (by decide) (by decide) (by decide) (by decide)
set_option maxRecDepth 1000000 in
theorem cp_20 : ai_base ah_G ar_tab 123 re_123_20 := fun d _ _ => cp_ok (fb := 0) (tb := 13) (m := 17) (by decide +kernel) (by decide) (by decide) (by decide) (by decide)
set_option maxRecDepth 1000000 in
theorem cp_21 : ai_base ah_G ar_tab 123 re_123_21 := fun d _ _ => cp_ok (fb := 6) (tb := 5) (m := 17) (by decide +kernel) (by decide) (by decide) (by decide) (by decide)
set_option maxRecDepth 1000000 in
theorem cp_22 : ai_base ah_G ar_tab 123 re_123_22 := fun d _ _ => cp_ok (fb := 11) (tb := 10) (m := 17) (by decide +kernel) (by decide) (by decide) (by decide) (by decide)
set_option maxRecDepth 1000000 in
theorem cp_23 : ai_base ah_G ar_tab 123 re_123_23 := fun d _ _ => cp_ok (fb := 14) (tb := 13) (m := 17) (by decide +kernel) (by decide) (by decide) (by decide) (by decide)
set_option maxRecDepth 1000000 in
theorem cp_24 : ai_base ah_G ar_tab 123 re_123_24 := fun d _ _ => cp_ok (fb := 17) (tb := 16) (m := 17) (by decide +kernel) (by decide) (by decide) (by decide) (by decide)
set_option maxRecDepth 1000000 in
theorem cp_25 : ai_base ah_G ar_tab 123 re_123_25 := fun d _ _ => cp_ok (fb := 0) (tb := 16) (m := 17) (by decide +kernel) (by decide) (by decide) (by decide) (by decide)
set_option maxRecDepth 1000000 in
theorem cp_26 : ai_base ah_G ar_tab 123 re_123_26 := fun d _ _ => cp_ok (fb := 0) (tb := 9) (m := 17) (by decide +kernel) (by decide) (by decide) (by decide) (by decide)
set_option maxRecDepth 1000000 in
theorem cp_27 : ai_base ah_G ar_tab 123 re_123_27 := fun d _ _ => cp_ok (fb := 7) (tb := 6) (m := 17) (by decide +kernel) (by decide) (by decide) (by decide) (by decide)
set_option maxRecDepth 1000000 in
theorem cp_28 : ai_base ah_G ar_tab 123 re_123_28 := fun d _ _ => cp_ok (fb := 20) (tb := 19) (m := 17) (by decide +kernel) (by decide) (by decide) (by decide) (by decide)
set_option maxRecDepth 1000000 in
theorem cp_29 : ai_base ah_G ar_tab 123 re_123_29 := fun d _ _ => cp_ok (fb := 0) (tb := 6) (m := 17) (by decide +kernel) (by decide) (by decide) (by decide) (by decide)
set_option maxRecDepth 1000000 in
theorem cp_30 : ai_base ah_G ar_tab 123 re_123_30 := fun d _ _ => cp_ok (fb := 0) (tb := 19) (m := 17) (by decide +kernel) (by decide) (by decide) (by decide) (by decide)
set_option maxRecDepth 1000000 in
theorem cp_31 : ai_base ah_G ar_tab 123 re_123_31 := fun d _ _ => cp_ok (fb := 9) (tb := 0) (m := 17) (by decide +kernel) (by decide) (by decide) (by decide) (by decide)
set_option maxRecDepth 1000000 in
theorem cp_32 : ai_base ah_G ar_tab 123 re_123_32 := fun d _ _ => cp_ok (fb := 6) (tb := 0) (m := 17) (by decide +kernel) (by decide) (by decide) (by decide) (by decide)
set_option maxRecDepth 1000000 in
theorem cp_33 : ai_base ah_G ar_tab 123 re_123_33 := fun d _ _ => cp_ok (fb := 11) (tb := 0) (m := 17) (by decide +kernel) (by decide) (by decide) (by decide) (by decide)
set_option maxRecDepth 1000000 in
theorem cp_34 : ai_base ah_G ar_tab 123 re_123_34 := fun d _ _ => cp_ok (fb := 20) (tb := 0) (m := 17) (by decide +kernel) (by decide) (by decide) (by decide) (by decide)
set_option maxRecDepth 1000000 in
theorem cp_35 : ai_base ah_G ar_tab 123 re_123_35 := fun d _ _ => cp_ok (fb := 19) (tb := 0) (m := 17) (by decide +kernel) (by decide) (by decide) (by decide) (by decide)
set_option maxRecDepth 1000000 in
theorem cp_36 : ai_base ah_G ar_tab 123 re_123_36 := fun d _ _ => cp_ok (fb := 10) (tb := 0) (m := 17) (by decide +kernel) (by decide) (by decide) (by decide) (by decide)
set_option maxRecDepth 1000000 in
theorem cp_37 : ai_base ah_G ar_tab 123 re_123_37 := fun d _ _ => cp_ok (fb := 7) (tb := 0) (m := 17) (by decide +kernel) (by decide) (by decide) (by decide) (by decide)
set_option maxRecDepth 1000000 in
theorem cp_38 : ai_base ah_G ar_tab 123 re_123_38 := fun d _ _ => cp_ok (fb := 16) (tb := 0) (m := 17) (by decide +kernel) (by decide) (by decide) (by decide) (by decide)
set_option maxRecDepth 1000000 in
theorem cp_39 : ai_base ah_G ar_tab 123 re_123_39 := fun d _ _ => cp_ok (fb := 17) (tb := 0) (m := 17) (by decide +kernel) (by decide) (by decide) (by decide) (by decide)
set_option maxRecDepth 1000000 in
theorem cp_40 : ai_base ah_G ar_tab 123 re_123_40 := fun d _ _ => cp_ok (fb := 13) (tb := 0) (m := 17) (by decide +kernel) (by decide) (by decide) (by decide) (by decide)
set_option maxRecDepth 1000000 in
theorem cp_41 : ai_base ah_G ar_tab 123 re_123_41 := fun d _ _ => cp_ok (fb := 14) (tb := 0) (m := 17) (by decide +kernel) (by decide) (by decide) (by decide) (by decide)
set_option maxRecDepth 1000000 in
theorem cp_42 : ai_base ah_G ar_tab 123 re_123_42 := fun d _ _ => cp_ok (fb := 12) (tb := 0) (m := 17) (by decide +kernel) (by decide) (by decide) (by decide) (by decide)
set_option maxRecDepth 1000000 in
theorem cp_43 : ai_base ah_G ar_tab 123 re_123_43 := fun d _ _ => cp_ok (fb := 8) (tb := 0) (m := 17) (by decide +kernel) (by decide) (by decide) (by decide) (by decide)
set_option maxRecDepth 1000000 in
theorem cp_44 : ai_base ah_G ar_tab 123 re_123_44 := fun d _ _ => cp_ok (fb := 5) (tb := 0) (m := 17) (by decide +kernel) (by decide) (by decide) (by decide) (by decide)
set_option maxRecDepth 1000000 in
theorem cp_45 : ai_base ah_G ar_tab 123 re_123_45 := fun d _ _ => cp_ok (fb := 18) (tb := 0) (m := 17) (by decide +kernel) (by decide) (by decide) (by decide) (by decide)
set_option maxRecDepth 1000000 in
theorem cp_46 : ai_base ah_G ar_tab 123 re_123_46 := fun d _ _ => cp_ok (fb := 15) (tb := 0) (m := 17) (by decide +kernel) (by decide) (by decide) (by decide) (by decide)
set_option maxRecDepth 1000000 in
theorem cp_47 : ai_base ah_G ar_tab 123 re_123_47 := fun d _ _ => cp_ok (fb := 0) (tb := 22) (m := 17) (by decide +kernel) (by decide) (by decide) (by decide) (by decide)
set_option maxRecDepth 1000000 in
theorem cp_48 : ai_base ah_G ar_tab 123 re_123_48 := fun d _ _ => cp_ok (fb := 3) (tb := 0) (m := 45) (by decide +kernel) (by decide) (by decide) (by decide) (by decide)
set_option maxRecDepth 1000000 in
theorem cp_49 : ai_base ah_G ar_tab 123 re_123_49 := fun d _ _ => cp_ok (fb := 0) (tb := 3) (m := 45) (by decide +kernel) (by decide) (by decide) (by decide) (by decide)
set_option maxRecDepth 1000000 in
theorem cp_50 : ai_base ah_G ar_tab 123 re_123_50 := fun d _ _ => cp_ok (fb := 1) (tb := 0) (m := 45) (by decide +kernel) (by decide) (by decide) (by decide) (by decide)
set_option maxRecDepth 1000000 in
theorem cp_51 : ai_base ah_G ar_tab 123 re_123_51 := fun d _ _ => cp_ok (fb := 2) (tb := 0) (m := 45) (by decide +kernel) (by decide) (by decide) (by decide) (by decide)
set_option maxRecDepth 1000000 in
theorem cp_52 : ai_base ah_G ar_tab 123 re_123_52 := fun d _ _ => cp_ok (fb := 0) (tb := 4) (m := 45) (by decide +kernel) (by decide) (by decide) (by decide) (by decide)
set_option maxRecDepth 1000000 in
theorem cp_53 : ai_base ah_G ar_tab 123 re_123_53 := fun d _ _ => cp_ok (fb := 0) (tb := 1) (m := 45) (by decide +kernel) (by decide) (by decide) (by decide) (by decide)
set_option maxRecDepth 1000000 in
theorem cp_54 : ai_base ah_G ar_tab 123 re_123_54 := fun d _ _ => cp_ok (fb := 0) (tb := 2) (m := 45) (by decide +kernel) (by decide) (by decide) (by decide) (by decide)
set_option maxRecDepth 1000000 in
theorem cp_55 : ai_base ah_G ar_tab 123 re_123_55 := fun d _ _ => cp_ok (fb := 4) (tb := 0) (m := 45) (by decide +kernel) (by decide) (by decide) (by decide) (by decide)
theorem hand_123 : ∀ q ∈ rm_123, ai_base ah_G ar_tab 123 q := ha_cons cp_0 (ha_cons cp_1 (ha_cons cp_2 (ha_cons cp_3 (ha_cons cp_4 (ha_cons cp_5 (ha_cons cp_6 (ha_cons cp_7 (ha_cons cp_8 (ha_cons cp_9 (ha_cons cp_10 (ha_cons cp_11 (ha_cons cp_12 (ha_cons cp_13 (ha_cons cp_14 (ha_cons cp_15 (ha_cons cp_16 (ha_cons cp_17 (ha_cons cp_18 (ha_cons cp_19 (ha_cons cp_20 (ha_cons cp_21 (ha_cons cp_22 (ha_cons cp_23 (ha_cons cp_24 (ha_cons cp_25 (ha_cons cp_26 (ha_cons cp_27 (ha_cons cp_28 (ha_cons cp_29 (ha_cons cp_30 (ha_cons cp_31 (ha_cons cp_32 (ha_cons cp_33 (ha_cons cp_34 (ha_cons cp_35 (ha_cons cp_36 (ha_cons cp_37 (ha_cons cp_38 (ha_cons cp_39 (ha_cons cp_40 (ha_cons cp_41 (ha_cons cp_42 (ha_cons cp_43 (ha_cons cp_44 (ha_cons cp_45 (ha_cons cp_46 (ha_cons cp_47 (ha_cons cp_48 (ha_cons cp_49 (ha_cons cp_50 (ha_cons cp_51 (ha_cons cp_52 (ha_cons cp_53 (ha_cons cp_54 (ha_cons cp_55 (ha_nil))))))))))))))))))))))))))))))))))))))))))))))))))))))))
end HA3
