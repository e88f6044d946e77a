section AR2
set_option maxRecDepth 1000000 in
theorem rk_198_0 : ai_all (ai_ck ah_G ar_tab 198) rm_198 = true := by decide +kernel
set_option maxRecDepth 1000000 in
theorem rk_199_0 : ai_all (ai_ck ah_G ar_tab 199) rm_199 = true := by decide +kernel
set_option maxRecDepth 1000000 in
theorem rk_214_0 : ai_all (ai_ck ah_G ar_tab 214) rm_214 = true := by decide +kernel
set_option maxRecDepth 1000000 in
theorem rk_216_0 : ai_all (ai_ck ah_G ar_tab 216) rm_216 = true := by decide +kernel
set_option maxRecDepth 1000000 in
theorem rk_219_0 : ai_all (ai_ck ah_G ar_tab 219) rm_219 = true := by decide +kernel
end AR2
