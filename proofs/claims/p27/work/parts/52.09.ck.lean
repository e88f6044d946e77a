section AC2
set_option maxRecDepth 1000000 in
theorem ck_155_0 : ai_all (ai_ck ag_G ac_tab 155) cm_155 = true := by decide +kernel
set_option maxRecDepth 1000000 in
theorem ck_158_0 : ai_all (ai_ck ag_G ac_tab 158) cm_158 = true := by decide +kernel
set_option maxRecDepth 1000000 in
theorem ck_159_0 : ai_all (ai_ck ag_G ac_tab 159) cm_159 = true := by decide +kernel
set_option maxRecDepth 1000000 in
theorem ck_162_0 : ai_all (ai_ck ag_G ac_tab 162) cm_162 = true := by decide +kernel
set_option maxRecDepth 1000000 in
theorem ck_163_0 : ai_all (ai_ck ag_G ac_tab 163) cm_163 = true := by decide +kernel
set_option maxRecDepth 1000000 in
theorem ck_164_0 : ai_all (ai_ck ag_G ac_tab 164) cm_164 = true := by decide +kernel
set_option maxRecDepth 1000000 in
theorem ck_165_0 : ai_all (ai_ck ag_G ac_tab 165) cm_165 = true := by decide +kernel
set_option maxRecDepth 1000000 in
theorem ck_166_0 : ai_all (ai_ck ag_G ac_tab 166) cm_166 = true := by decide +kernel
set_option maxRecDepth 1000000 in
theorem ck_170_0 : ai_all (ai_ck ag_G ac_tab 170) cm_170 = true := by decide +kernel
set_option maxRecDepth 1000000 in
theorem ck_171_0 : ai_all (ai_ck ag_G ac_tab 171) cm_171 = true := by decide +kernel
set_option maxRecDepth 1000000 in
theorem ck_172_0 : ai_all (ai_ck ag_G ac_tab 172) cm_172 = true := by decide +kernel
set_option maxRecDepth 1000000 in
theorem ck_173_0 : ai_all (ai_ck ag_G ac_tab 173) cm_173 = true := by decide +kernel
set_option maxRecDepth 1000000 in
theorem ck_174_0 : ai_all (ai_ck ag_G ac_tab 174) cm_174 = true := by decide +kernel
set_option maxRecDepth 1000000 in
theorem ck_175_0 : ai_all (ai_ck ag_G ac_tab 175) cm_175 = true := by decide +kernel
set_option maxRecDepth 1000000 in
theorem ck_176_0 : ai_all (ai_ck ag_G ac_tab 176) cm_176 = true := by decide +kernel
set_option maxRecDepth 1000000 in
theorem ck_177_0 : ai_all (ai_ck ag_G ac_tab 177) cm_177 = true := by decide +kernel
set_option maxRecDepth 1000000 in
theorem ck_178_0 : ai_all (ai_ck ag_G ac_tab 178) cm_178 = true := by decide +kernel
set_option maxRecDepth 1000000 in
theorem ck_179_0 : ai_all (ai_ck ag_G ac_tab 179) cm_179 = true := by decide +kernel
end AC2
