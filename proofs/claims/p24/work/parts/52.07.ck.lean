section AC2
set_option maxRecDepth 1000000 in
theorem ce_e_150_0 : ai_ce ag_G ac_tab 150 ce_150_0 = true := by decide +kernel
set_option maxRecDepth 1000000 in
theorem ce_k_150_0_0 : ai_all (ai_cc ag_G ac_tab ce_150_0) kl_150_0_0 = true := by decide +kernel
set_option maxRecDepth 1000000 in
theorem ce_k_150_0_1 : ai_all (ai_cc ag_G ac_tab ce_150_0) kl_150_0_1 = true := by decide +kernel
set_option maxRecDepth 1000000 in
theorem ce_k_150_0_2 : ai_all (ai_cc ag_G ac_tab ce_150_0) kl_150_0_2 = true := by decide +kernel
set_option maxRecDepth 1000000 in
theorem ce_k_150_0_3 : ai_all (ai_cc ag_G ac_tab ce_150_0) kl_150_0_3 = true := by decide +kernel
set_option maxRecDepth 1000000 in
theorem ce_k_150_0_4 : ai_all (ai_cc ag_G ac_tab ce_150_0) kl_150_0_4 = true := by decide +kernel
set_option maxRecDepth 1000000 in
theorem ce_k_150_0_5 : ai_all (ai_cc ag_G ac_tab ce_150_0) kl_150_0_5 = true := by decide +kernel
set_option maxRecDepth 1000000 in
theorem ce_k_150_0_6 : ai_all (ai_cc ag_G ac_tab ce_150_0) kl_150_0_6 = true := by decide +kernel
set_option maxRecDepth 1000000 in
theorem ce_k_150_0_7 : ai_all (ai_cc ag_G ac_tab ce_150_0) kl_150_0_7 = true := by decide +kernel
set_option maxRecDepth 1000000 in
theorem ce_k_150_0_8 : ai_all (ai_cc ag_G ac_tab ce_150_0) kl_150_0_8 = true := by decide +kernel
set_option maxRecDepth 1000000 in
theorem ce_k_150_0_9 : ai_all (ai_cc ag_G ac_tab ce_150_0) kl_150_0_9 = true := by decide +kernel
set_option maxRecDepth 1000000 in
theorem ce_k_150_0_10 : ai_all (ai_cc ag_G ac_tab ce_150_0) kl_150_0_10 = true := by decide +kernel
theorem ck_150_0 : ai_all (ai_ck ag_G ac_tab 150) [ce_150_0] = true := ai_one (ai_ck_of ce_e_150_0 (ai_all_app ce_k_150_0_0 (ai_all_app ce_k_150_0_1 (ai_all_app ce_k_150_0_2 (ai_all_app ce_k_150_0_3 (ai_all_app ce_k_150_0_4 (ai_all_app ce_k_150_0_5 (ai_all_app ce_k_150_0_6 (ai_all_app ce_k_150_0_7 (ai_all_app ce_k_150_0_8 (ai_all_app ce_k_150_0_9 ce_k_150_0_10)))))))))))
end AC2
