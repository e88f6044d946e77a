section AR2
set_option maxRecDepth 1000000 in
theorem rk_29_0 : ai_all (ai_ck ah_G ar_tab 29) rm_29 = true := by decide +kernel
set_option maxRecDepth 1000000 in
theorem rk_31_0 : ai_all (ai_ck ah_G ar_tab 31) rm_31 = true := by decide +kernel
set_option maxRecDepth 1000000 in
theorem rk_37_0 : ai_all (ai_ck ah_G ar_tab 37) rm_37 = true := by decide +kernel
set_option maxRecDepth 1000000 in
theorem rk_39_0 : ai_all (ai_ck ah_G ar_tab 39) rm_39 = true := by decide +kernel
set_option maxRecDepth 1000000 in
theorem rk_40_0 : ai_all (ai_ck ah_G ar_tab 40) rm_40 = true := by decide +kernel
set_option maxRecDepth 1000000 in
theorem rk_41_0 : ai_all (ai_ck ah_G ar_tab 41) rm_41 = true := by decide +kernel
set_option maxRecDepth 1000000 in
theorem rk_43_0 : ai_all (ai_ck ah_G ar_tab 43) rm_43 = true := by decide +kernel
set_option maxRecDepth 1000000 in
theorem rk_45_0 : ai_all (ai_ck ah_G ar_tab 45) rm_45 = true := by decide +kernel
set_option maxRecDepth 1000000 in
theorem rk_47_0 : ai_all (ai_ck ah_G ar_tab 47) rm_47 = true := by decide +kernel
set_option maxRecDepth 1000000 in
theorem rk_49_0 : ai_all (ai_ck ah_G ar_tab 49) rm_49 = true := by decide +kernel
set_option maxRecDepth 1000000 in
theorem rk_51_0 : ai_all (ai_ck ah_G ar_tab 51) rm_51 = true := by decide +kernel
set_option maxRecDepth 1000000 in
theorem rk_53_0 : ai_all (ai_ck ah_G ar_tab 53) rm_53 = true := by decide +kernel
set_option maxRecDepth 1000000 in
theorem rk_55_0 : ai_all (ai_ck ah_G ar_tab 55) rm_55 = true := by decide +kernel
set_option maxRecDepth 1000000 in
theorem rk_57_0 : ai_all (ai_ck ah_G ar_tab 57) rm_57 = true := by decide +kernel
set_option maxRecDepth 1000000 in
theorem rk_59_0 : ai_all (ai_ck ah_G ar_tab 59) rm_59 = true := by decide +kernel
set_option maxRecDepth 1000000 in
theorem rk_61_0 : ai_all (ai_ck ah_G ar_tab 61) rm_61 = true := by decide +kernel
set_option maxRecDepth 1000000 in
theorem rk_63_0 : ai_all (ai_ck ah_G ar_tab 63) rm_63 = true := by decide +kernel
set_option maxRecDepth 1000000 in
theorem rk_65_0 : ai_all (ai_ck ah_G ar_tab 65) rm_65 = true := by decide +kernel
end AR2
