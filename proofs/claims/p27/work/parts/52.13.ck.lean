section AC2
set_option maxRecDepth 1000000 in
theorem ck_220_0 : ai_all (ai_ck ag_G ac_tab 220) [ce_220_0] = true := by decide +kernel
end AC2
