section AC2
set_option maxRecDepth 1000000 in
theorem ck_210_2 : ai_all (ai_ck ag_G ac_tab 210) [ce_210_26, ce_210_27, ce_210_28, ce_210_29, ce_210_30, ce_210_31, ce_210_32, ce_210_33, ce_210_34, ce_210_35, ce_210_36, ce_210_37, ce_210_38] = true := by decide +kernel
set_option maxRecDepth 1000000 in
theorem ck_210_3 : ai_all (ai_ck ag_G ac_tab 210) [ce_210_39, ce_210_40, ce_210_41, ce_210_42, ce_210_43, ce_210_44, ce_210_45, ce_210_46, ce_210_47, ce_210_48, ce_210_49, ce_210_50, ce_210_51] = true := by decide +kernel
set_option maxRecDepth 1000000 in
theorem ck_210_4 : ai_all (ai_ck ag_G ac_tab 210) [ce_210_52, ce_210_53, ce_210_54, ce_210_55, ce_210_56, ce_210_57, ce_210_58, ce_210_59, ce_210_60, ce_210_61, ce_210_62, ce_210_63, ce_210_64] = true := by decide +kernel
end AC2
