section AR2
set_option maxRecDepth 1000000 in
theorem rk_78_0 : ai_all (ai_ck ah_G ar_tab 78) rm_78 = true := by decide +kernel
set_option maxRecDepth 1000000 in
theorem rk_80_0 : ai_all (ai_ck ah_G ar_tab 80) rm_80 = true := by decide +kernel
set_option maxRecDepth 1000000 in
theorem rk_82_0 : ai_all (ai_ck ah_G ar_tab 82) rm_82 = true := by decide +kernel
set_option maxRecDepth 1000000 in
theorem rk_84_0 : ai_all (ai_ck ah_G ar_tab 84) rm_84 = true := by decide +kernel
set_option maxRecDepth 1000000 in
theorem rk_86_0 : ai_all (ai_ck ah_G ar_tab 86) rm_86 = true := by decide +kernel
set_option maxRecDepth 1000000 in
theorem rk_91_0 : ai_all (ai_ck ah_G ar_tab 91) rm_91 = true := by decide +kernel
set_option maxRecDepth 1000000 in
theorem rk_103_0 : ai_all (ai_ck ah_G ar_tab 103) rm_103 = true := by decide +kernel
set_option maxRecDepth 1000000 in
theorem rk_107_0 : ai_all (ai_ck ah_G ar_tab 107) rm_107 = true := by decide +kernel
set_option maxRecDepth 1000000 in
theorem rk_108_0 : ai_all (ai_ck ah_G ar_tab 108) rm_108 = true := by decide +kernel
set_option maxRecDepth 1000000 in
theorem rk_109_0 : ai_all (ai_ck ah_G ar_tab 109) rm_109 = true := by decide +kernel
set_option maxRecDepth 1000000 in
theorem rk_110_0 : ai_all (ai_ck ah_G ar_tab 110) rm_110 = true := by decide +kernel
set_option maxRecDepth 1000000 in
theorem rk_111_0 : ai_all (ai_ck ah_G ar_tab 111) rm_111 = true := by decide +kernel
set_option maxRecDepth 1000000 in
theorem rk_112_0 : ai_all (ai_ck ah_G ar_tab 112) rm_112 = true := by decide +kernel
set_option maxRecDepth 1000000 in
theorem rk_113_0 : ai_all (ai_ck ah_G ar_tab 113) rm_113 = true := by decide +kernel
set_option maxRecDepth 1000000 in
theorem rk_115_0 : ai_all (ai_ck ah_G ar_tab 115) rm_115 = true := by decide +kernel
set_option maxRecDepth 1000000 in
theorem rk_117_0 : ai_all (ai_ck ah_G ar_tab 117) rm_117 = true := by decide +kernel
set_option maxRecDepth 1000000 in
theorem rk_118_0 : ai_all (ai_ck ah_G ar_tab 118) rm_118 = true := by decide +kernel
set_option maxRecDepth 1000000 in
theorem rk_119_0 : ai_all (ai_ck ah_G ar_tab 119) rm_119 = true := by decide +kernel
set_option maxRecDepth 1000000 in
theorem rk_121_0 : ai_all (ai_ck ah_G ar_tab 121) rm_121 = true := by decide +kernel
end AR2
