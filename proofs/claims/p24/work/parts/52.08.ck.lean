section AC2
set_option maxRecDepth 1000000 in
theorem ce_e_150_1 : ai_ce ag_G ac_tab 150 ce_150_1 = true := by decide +kernel
set_option maxRecDepth 1000000 in
theorem ce_k_150_1_0 : ai_all (ai_cc ag_G ac_tab ce_150_1) kl_150_1_0 = true := by decide +kernel
set_option maxRecDepth 1000000 in
theorem ce_k_150_1_1 : ai_all (ai_cc ag_G ac_tab ce_150_1) kl_150_1_1 = true := by decide +kernel
set_option maxRecDepth 1000000 in
theorem ce_k_150_1_2 : ai_all (ai_cc ag_G ac_tab ce_150_1) kl_150_1_2 = true := by decide +kernel
set_option maxRecDepth 1000000 in
theorem ce_k_150_1_3 : ai_all (ai_cc ag_G ac_tab ce_150_1) kl_150_1_3 = true := by decide +kernel
set_option maxRecDepth 1000000 in
theorem ce_k_150_1_4 : ai_all (ai_cc ag_G ac_tab ce_150_1) kl_150_1_4 = true := by decide +kernel
set_option maxRecDepth 1000000 in
theorem ce_k_150_1_5 : ai_all (ai_cc ag_G ac_tab ce_150_1) kl_150_1_5 = true := by decide +kernel
set_option maxRecDepth 1000000 in
theorem ce_k_150_1_6 : ai_all (ai_cc ag_G ac_tab ce_150_1) kl_150_1_6 = true := by decide +kernel
set_option maxRecDepth 1000000 in
theorem ce_k_150_1_7 : ai_all (ai_cc ag_G ac_tab ce_150_1) kl_150_1_7 = true := by decide +kernel
set_option maxRecDepth 1000000 in
theorem ce_k_150_1_8 : ai_all (ai_cc ag_G ac_tab ce_150_1) kl_150_1_8 = true := by decide +kernel
set_option maxRecDepth 1000000 in
theorem ce_k_150_1_9 : ai_all (ai_cc ag_G ac_tab ce_150_1) kl_150_1_9 = true := by decide +kernel
set_option maxRecDepth 1000000 in
theorem ce_k_150_1_10 : ai_all (ai_cc ag_G ac_tab ce_150_1) kl_150_1_10 = true := by decide +kernel
theorem ck_150_1 : ai_all (ai_ck ag_G ac_tab 150) [ce_150_1] = true := ai_one (ai_ck_of ce_e_150_1 (ai_all_app ce_k_150_1_0 (ai_all_app ce_k_150_1_1 (ai_all_app ce_k_150_1_2 (ai_all_app ce_k_150_1_3 (ai_all_app ce_k_150_1_4 (ai_all_app ce_k_150_1_5 (ai_all_app ce_k_150_1_6 (ai_all_app ce_k_150_1_7 (ai_all_app ce_k_150_1_8 (ai_all_app ce_k_150_1_9 ce_k_150_1_10)))))))))))
set_option maxRecDepth 1000000 in
theorem ck_151_0 : ai_all (ai_ck ag_G ac_tab 151) cm_151 = true := by decide +kernel
set_option maxRecDepth 1000000 in
theorem ck_154_0 : ai_all (ai_ck ag_G ac_tab 154) cm_154 = true := by decide +kernel
end AC2
