section AR2
set_option maxRecDepth 1000000 in
theorem rk_126_6 : ai_all (ai_ck ah_G ar_tab 126) [re_126_18, re_126_19, re_126_20] = true := by decide +kernel
set_option maxRecDepth 1000000 in
theorem rk_126_7 : ai_all (ai_ck ah_G ar_tab 126) [re_126_21, re_126_22, re_126_23] = true := by decide +kernel
set_option maxRecDepth 1000000 in
theorem rk_127_0 : ai_all (ai_ck ah_G ar_tab 127) rm_127 = true := by decide +kernel
set_option maxRecDepth 1000000 in
theorem rk_129_0 : ai_all (ai_ck ah_G ar_tab 129) rm_129 = true := by decide +kernel
set_option maxRecDepth 1000000 in
theorem rk_131_0 : ai_all (ai_ck ah_G ar_tab 131) rm_131 = true := by decide +kernel
set_option maxRecDepth 1000000 in
theorem rk_133_0 : ai_all (ai_ck ah_G ar_tab 133) rm_133 = true := by decide +kernel
set_option maxRecDepth 1000000 in
theorem rk_136_0 : ai_all (ai_ck ah_G ar_tab 136) rm_136 = true := by decide +kernel
set_option maxRecDepth 1000000 in
theorem rk_138_0 : ai_all (ai_ck ah_G ar_tab 138) rm_138 = true := by decide +kernel
set_option maxRecDepth 1000000 in
theorem rk_139_0 : ai_all (ai_ck ah_G ar_tab 139) rm_139 = true := by decide +kernel
set_option maxRecDepth 1000000 in
theorem rk_141_0 : ai_all (ai_ck ah_G ar_tab 141) rm_141 = true := by decide +kernel
set_option maxRecDepth 1000000 in
theorem rk_142_0 : ai_all (ai_ck ah_G ar_tab 142) rm_142 = true := by decide +kernel
set_option maxRecDepth 1000000 in
theorem rk_143_0 : ai_all (ai_ck ah_G ar_tab 143) rm_143 = true := by decide +kernel
set_option maxRecDepth 1000000 in
theorem rk_146_0 : ai_all (ai_ck ah_G ar_tab 146) rm_146 = true := by decide +kernel
set_option maxRecDepth 1000000 in
theorem rk_147_0 : ai_all (ai_ck ah_G ar_tab 147) rm_147 = true := by decide +kernel
set_option maxRecDepth 1000000 in
theorem rk_149_0 : ai_all (ai_ck ah_G ar_tab 149) rm_149 = true := by decide +kernel
set_option maxRecDepth 1000000 in
theorem rk_152_0 : ai_all (ai_ck ah_G ar_tab 152) rm_152 = true := by decide +kernel
set_option maxRecDepth 1000000 in
theorem rk_153_0 : ai_all (ai_ck ah_G ar_tab 153) rm_153 = true := by decide +kernel
set_option maxRecDepth 1000000 in
theorem rk_156_0 : ai_all (ai_ck ah_G ar_tab 156) rm_156 = true := by decide +kernel
end AR2
