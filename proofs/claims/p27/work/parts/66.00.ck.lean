section AT2
set_option maxRecDepth 1000000 in
theorem tk_16_0 : ai_all (ai_ck ag_G at_tab 16) tm_16 = true := by decide +kernel
set_option maxRecDepth 1000000 in
theorem tk_17_0 : ai_all (ai_ck ag_G at_tab 17) tm_17 = true := by decide +kernel
set_option maxRecDepth 1000000 in
theorem tk_23_0 : ai_all (ai_ck ag_G at_tab 23) tm_23 = true := by decide +kernel
set_option maxRecDepth 1000000 in
theorem tk_104_0 : ai_all (ai_ck ag_G at_tab 104) tm_104 = true := by decide +kernel
set_option maxRecDepth 1000000 in
theorem tk_125_0 : ai_all (ai_ck ag_G at_tab 125) tm_125 = true := by decide +kernel
set_option maxRecDepth 1000000 in
theorem tk_140_0 : ai_all (ai_ck ag_G at_tab 140) tm_140 = true := by decide +kernel
set_option maxRecDepth 1000000 in
theorem tk_171_0 : ai_all (ai_ck ag_G at_tab 171) tm_171 = true := by decide +kernel
set_option maxRecDepth 1000000 in
theorem tk_172_0 : ai_all (ai_ck ag_G at_tab 172) tm_172 = true := by decide +kernel
set_option maxRecDepth 1000000 in
theorem tk_210_0 : ai_all (ai_ck ag_G at_tab 210) tm_210 = true := by decide +kernel
set_option maxRecDepth 1000000 in
theorem tk_253_0 : ai_all (ai_ck ag_G at_tab 253) tm_253 = true := by decide +kernel
set_option maxRecDepth 1000000 in
theorem tk_254_0 : ai_all (ai_ck ag_G at_tab 254) tm_254 = true := by decide +kernel
end AT2
