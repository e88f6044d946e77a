section AC2
set_option maxRecDepth 1000000 in
theorem ck_270_2 : ai_all (ai_ck ag_G ac_tab 270) [ce_270_107, ce_270_108, ce_270_109, ce_270_110, ce_270_111, ce_270_112, ce_270_113, ce_270_114, ce_270_115, ce_270_116, ce_270_117, ce_270_118, ce_270_119, ce_270_120, ce_270_121, ce_270_122, ce_270_123, ce_270_124, ce_270_125, ce_270_126, ce_270_127, ce_270_128, ce_270_129, ce_270_130, ce_270_131, ce_270_132, ce_270_133, ce_270_134, ce_270_135, ce_270_136, ce_270_137, ce_270_138, ce_270_139, ce_270_140, ce_270_141, ce_270_142, ce_270_143, ce_270_144, ce_270_145, ce_270_146, ce_270_147, ce_270_148, ce_270_149, ce_270_150, ce_270_151, ce_270_152, ce_270_153, ce_270_154, ce_270_155, ce_270_156, ce_270_157] = true := by decide +kernel
set_option maxRecDepth 1000000 in
theorem ck_270_3 : ai_all (ai_ck ag_G ac_tab 270) [ce_270_158, ce_270_159, ce_270_160, ce_270_161, ce_270_162, ce_270_163, ce_270_164, ce_270_165, ce_270_166, ce_270_167, ce_270_168, ce_270_169, ce_270_170, ce_270_171, ce_270_172, ce_270_173, ce_270_174, ce_270_175, ce_270_176, ce_270_177, ce_270_178, ce_270_179, ce_270_180, ce_270_181, ce_270_182, ce_270_183, ce_270_184, ce_270_185, ce_270_186, ce_270_187, ce_270_188, ce_270_189, ce_270_190, ce_270_191, ce_270_192, ce_270_193, ce_270_194, ce_270_195, ce_270_196, ce_270_197, ce_270_198, ce_270_199, ce_270_200, ce_270_201, ce_270_202, ce_270_203, ce_270_204, ce_270_205, ce_270_206, ce_270_207, ce_270_208, ce_270_209] = true := by decide +kernel
set_option maxRecDepth 1000000 in
theorem ck_272_0 : ai_all (ai_ck ag_G ac_tab 272) cm_272 = true := by decide +kernel
set_option maxRecDepth 1000000 in
theorem ck_273_0 : ai_all (ai_ck ag_G ac_tab 273) [ce_273_0, ce_273_1, ce_273_2] = true := by decide +kernel
end AC2
