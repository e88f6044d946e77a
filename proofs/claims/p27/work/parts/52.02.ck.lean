section AC2
set_option maxRecDepth 1000000 in
theorem ck_52_1 : ai_all (ai_ck ag_G ac_tab 52) [ce_52_1] = true := by decide +kernel
end AC2
