section AC2
set_option maxRecDepth 1000000 in
theorem ck_268_0 : ai_all (ai_ck ag_G ac_tab 268) cm_268 = true := by decide +kernel
set_option maxRecDepth 1000000 in
theorem ck_269_0 : ai_all (ai_ck ag_G ac_tab 269) cm_269 = true := by decide +kernel
set_option maxRecDepth 1000000 in
theorem ck_270_0 : ai_all (ai_ck ag_G ac_tab 270) [ce_270_0, ce_270_1, ce_270_2, ce_270_3, ce_270_4, ce_270_5, ce_270_6, ce_270_7, ce_270_8, ce_270_9, ce_270_10, ce_270_11, ce_270_12, ce_270_13, ce_270_14, ce_270_15, ce_270_16, ce_270_17, ce_270_18, ce_270_19, ce_270_20, ce_270_21, ce_270_22, ce_270_23, ce_270_24, ce_270_25, ce_270_26, ce_270_27, ce_270_28, ce_270_29, ce_270_30, ce_270_31, ce_270_32, ce_270_33, ce_270_34, ce_270_35, ce_270_36, ce_270_37, ce_270_38, ce_270_39, ce_270_40, ce_270_41, ce_270_42, ce_270_43, ce_270_44, ce_270_45, ce_270_46, ce_270_47, ce_270_48, ce_270_49, ce_270_50, ce_270_51, ce_270_52] = true := by decide +kernel
set_option maxRecDepth 1000000 in
theorem ck_270_1 : ai_all (ai_ck ag_G ac_tab 270) [ce_270_53, ce_270_54, ce_270_55, ce_270_56, ce_270_57, ce_270_58, ce_270_59, ce_270_60, ce_270_61, ce_270_62, ce_270_63, ce_270_64, ce_270_65, ce_270_66, ce_270_67, ce_270_68, ce_270_69, ce_270_70, ce_270_71, ce_270_72, ce_270_73, ce_270_74, ce_270_75, ce_270_76, ce_270_77, ce_270_78, ce_270_79, ce_270_80, ce_270_81, ce_270_82, ce_270_83, ce_270_84, ce_270_85, ce_270_86, ce_270_87, ce_270_88, ce_270_89, ce_270_90, ce_270_91, ce_270_92, ce_270_93, ce_270_94, ce_270_95, ce_270_96, ce_270_97, ce_270_98, ce_270_99, ce_270_100, ce_270_101, ce_270_102, ce_270_103, ce_270_104, ce_270_105, ce_270_106] = true := by decide +kernel
end AC2
