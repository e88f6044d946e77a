section ENU
theorem tx_x0 : en_get en_t0 0 = some (.inr (9, [.inr (.inr (.inl (some 1))), .inr (.inr (.inl (some 7))), .inr (.inr (.inl (some 8))), .inr (.inr (.inl (some 15))), .inr (.inr (.inl (some 22))), .inr (.inr (.inl (some 136))), .inr (.inr (.inl (some 137))), .inr (.inr (.inl (some 138))), .inr (.inr (.inl (some 139))), .inr (.inr (.inl (some 144))), .inr (.inr (.inl (some 191))), .inr (.inr (.inl (some 257))), .inr (.inr (.inl (some 323))), .inr (.inr (.inl (some 329)))])) := rfl
theorem tx_all {q : en_M} {g : Nat → Option en_I} {N : Nat} (h : (List.range N).all (en_chk1 q g) = true) (hN : ∀ pc e, g pc = some e → pc < N) : ∀ pc e, g pc = some e → en_ok q pc e = true := by
  intro pc e he
  have h1 := List.all_eq_true.mp h pc (List.mem_range.mpr (hN pc e he))
  unfold en_chk1 at h1
  rw [he] at h1
  exact h1
set_option maxRecDepth 100000 in
theorem tx_wcl : Cond.classLink (en_cn 14) 13 tx_N ∈ en_gt := en_tb_mem (i := 1290) (by decide +kernel)
set_option maxRecDepth 100000 in
theorem tx_win : Cond.initialized "PackWeeksLaw" ∈ en_gt := en_tb_mem (i := 128) (by decide +kernel)
def tx_qT : en_M := (⟨"PackWeeks", "thing", "(II)I"⟩, prog_1_method_7_code, 4, some .int, 2, 1, 9)
def tx_oT : en_M := (⟨"PackWeeksLaw", "thing", "(LPackWeeks;II[J)I"⟩, method_3_code, 5, some .int, 4, 0, 14)
set_option maxRecDepth 100000 in
theorem tx_iT : en_nth en_inf 158 = some tx_qT := rfl
def tx_cT : Nat → Option en_I
  | 0 => some (.aload_n 3, 1, 0, 0)
  | 1 => some (.iconst 0, 2, 0, 0)
  | 2 => some (.aload_n 0, 3, 0, 0)
  | 3 => some (.iload_n 1, 4, 0, 0)
  | 4 => some (.iload_n 2, 5, 0, 0)
  | 15 => some (.iconst 1, 16, 1, 0)
  | 16 => some (.ireturn, 17, 0, 0)
  | _ => none
theorem tx_cT_lt : ∀ pc e, tx_cT pc = some e → pc < 20 := by
  intro pc e h
  unfold tx_cT at h
  split at h <;> first | omega | cases h
set_option maxRecDepth 100000 in
theorem tx_cT_chk : (List.range 20).all (en_chk1 tx_oT tx_cT) = true := by decide +kernel
set_option maxRecDepth 100000 in
theorem tx_wcT : Cond.codeWith tx_oT.1 tx_oT.2.1 tx_oT.2.2.1 tx_oT.2.2.2.1 [(0, 10, 13, 13)] ∈ en_gt := en_tb_mem (i := 1289) (by decide +kernel)
set_option maxRecDepth 100000 in
theorem tx_wiT : Cond.methodLink (en_cn 14) 7 tx_qT.1 ∈ en_gt := en_tb_mem (i := 1291) (by decide +kernel)
set_option maxRecDepth 100000 in
theorem tx_wlT : Cond.methodLink "PackWeeksLaw" 50 tx_oT.1 ∈ en_gt := en_tb_mem (i := 1287) (by decide +kernel)
set_option maxRecDepth 100000 in
theorem tx_wtT : Cond.static tx_oT.1 ∈ en_gt := en_tb_mem (i := 1288) (by decide +kernel)
set_option maxRecDepth 100000 in
theorem tx_dT0 : decode tx_qT.2.1 23 = .ok (.new 143, 3) := by decide +kernel
set_option maxRecDepth 100000 in
theorem tx_dT1 : decode tx_qT.2.1 26 = .ok (.dup, 1) := by decide +kernel
set_option maxRecDepth 100000 in
theorem tx_dT2 : decode tx_qT.2.1 27 = .ok (.ldc 145, 2) := by decide +kernel
set_option maxRecDepth 100000 in
theorem tx_dT3 : decode tx_qT.2.1 29 = .ok (.invokespecial 147, 3) := by decide +kernel
set_option maxRecDepth 100000 in
theorem tx_dT4 : decode tx_qT.2.1 32 = .ok (.athrow, 1) := by decide +kernel
set_option maxRecDepth 100000 in
theorem tx_dTI : decode tx_oT.2.1 5 = .ok (.invokevirtual 7, 3) := by decide +kernel
set_option maxRecDepth 100000 in
theorem tx_dTH : decode tx_oT.2.1 13 = .ok (.astore 4, 2) := by decide +kernel
set_option maxRecDepth 100000 in
theorem tx_dTL : decode code 449 = .ok (.invokestatic 50, 3) := by decide +kernel
theorem tx_eT (t : en_H) (n sl : Nat) : en_run en_df none (en_call en_df en_code en_ml 19) tx_cT (fun _ => false) 5 15 [] [] t n sl = some (.inl (some (.inl 1), t, n, sl)) := rfl
set_option maxRecDepth 1000000 in
theorem tx_r1T0 : en_isS (en_run en_df (some [.inr (.inr (.inr (.inr (0, 4294967295)))), .inr (.inr (.inr (.inr (0, 2147483647)))), .inr (.inr (.inr (.inr (0, 4294967295)))), .inr (.inr (.inr (.inr (0, 4294967295)))), .inr (.inr (.inr (.inr (0, 4294967295)))), .inr (.inr (.inr (.inr (0, 4294967295)))), .inr (.inr (.inr (.inr (0, 4294967295))))]) en_f0 en_lawc (fun pc => Nat.beq pc 449) 60 40 en_ls0 [.inl 5] en_t0 413 31071) (449, en_ls0, [.inr (.inr (.inl (some 412))), .inr (.inr (.inr (.inr (0, 4294967295)))), .inr (.inr (.inr (.inr (0, 2147483647)))), .inr (.inr (.inl (some 0)))], en_t0, 413, 31071) = true := by decide +kernel
set_option maxRecDepth 1000000 in
theorem tx_r2T0 : en_isS (en_run en_df none (en_call en_df en_code en_ml 19) tx_cT (fun pc => Nat.beq pc 5) 20 0 (en_args [.inr (.inr (.inl (some 0))), .inr (.inr (.inr (.inr (0, 2147483647)))), .inr (.inr (.inr (.inr (0, 4294967295)))), .inr (.inr (.inl (some 412)))] 0) [] en_t0 413 0) (5, en_args [.inr (.inr (.inl (some 0))), .inr (.inr (.inr (.inr (0, 2147483647)))), .inr (.inr (.inr (.inr (0, 4294967295)))), .inr (.inr (.inl (some 412)))] 0, [.inr (.inr (.inr (.inr (0, 4294967295)))), .inr (.inr (.inr (.inr (0, 2147483647)))), .inr (.inr (.inl (some 0))), .inl 0, .inr (.inr (.inl (some 412)))], en_t0, 413, 0) = true := by decide +kernel
set_option maxRecDepth 1000000 in
theorem tx_r3T0 : en_isS (en_run en_df none (en_call en_df en_code en_ml 18) (en_code 158) (fun pc => Nat.beq pc 23) 60 0 (en_args [.inr (.inr (.inl (some 0))), .inr (.inr (.inr (.inr (0, 2147483647)))), .inr (.inr (.inr (.inr (0, 4294967295))))] 0) [] en_t0 413 0) (23, en_args [.inr (.inr (.inl (some 0))), .inr (.inr (.inr (.inr (0, 2147483647)))), .inr (.inr (.inr (.inr (0, 4294967295))))] 0, [], en_t0, 413, 0) = true := by decide +kernel
set_option maxRecDepth 1000000 in
theorem tx_r4T0 : en_end (en_run en_df (some [.inr (.inr (.inr (.inr (0, 4294967295)))), .inr (.inr (.inr (.inr (0, 2147483647)))), .inr (.inr (.inr (.inr (0, 4294967295)))), .inr (.inr (.inr (.inr (0, 4294967295)))), .inr (.inr (.inr (.inr (0, 4294967295)))), .inr (.inr (.inr (.inr (0, 4294967295)))), .inr (.inr (.inr (.inr (0, 4294967295))))]) en_f0 en_lawc (fun pc => Nat.beq pc 1357) 400 452 en_ls0 [.inl 1] en_t0 414 31077) = true := by decide +kernel
theorem tx_mT0 {l : Launch} (hl : l.stackTraces = false) (ba : Nat) (ex : Nat → Nat) (cA : Nat → ClassId) (D : va_G) (sa : Nat) : Met l tx_oT.1 (tx_wsO tx_oT [(0, 10, 13, 13)]) (en_rm 20 1 6) (tx_Pc ba ex cA D 145 "no such thing, or nothing such of it" sa [.inr (.inr (.inl (some 0))), .inr (.inr (.inr (.inr (0, 2147483647)))), .inr (.inr (.inr (.inr (0, 4294967295)))), .inr (.inr (.inl (some 412)))] en_t0 413) (en_Qc ba ex cA D (some (.inl 1), en_t0, 414, 6)) 1 6 (fun x => ba ≤ x) :=
  tx_lmet (mi := 158) (q := tx_qT) (qO := tx_oT) (a := 0) (as := [.inr (.inr (.inr (.inr (0, 2147483647)))), .inr (.inr (.inr (.inr (0, 4294967295))))]) (rest := [.inl 0, .inr (.inr (.inl (some 412)))]) (pcI := 5) (pcH := 13) (pcE := 15) (nH := 4) (iI := 7) (cH := 13) (h1 := 0) (h2 := 10) (fuel := 20) (st := [.inr (.inr (.inr (.inr (0, 4294967295)))), .inr (.inr (.inr (.inr (0, 2147483647)))), .inr (.inr (.inl (some 0))), .inl 0, .inr (.inr (.inl (some 412)))]) tx_iT rfl (tx_all tx_cT_chk tx_cT_lt) (by decide +kernel) (by decide +kernel) tx_wcT tx_wcl (by decide) (by decide)
    (tx_met (mi := 158) (q := tx_qT) (pc0 := 23) (fuel := 60) (is := 145) hl tx_iT rfl (by decide) (en_isS_ok tx_r3T0) tx_dT0 tx_dT1 tx_dT2 tx_dT3 tx_dT4)
    (by decide) (en_isS_ok tx_r2T0) rfl (by decide) tx_x0 rfl tx_dTI tx_wiT (Or.inl ⟨tx_dTH, rfl⟩) (by decide) (tx_eT _ _ _)
set_option maxRecDepth 1000000 in
theorem tx_r1T1 : en_isS (en_run en_df (some [.inr (.inr (.inr (.inr (0, 4294967295)))), .inr (.inr (.inr (.inr (2147483648, 4294967295)))), .inr (.inr (.inr (.inr (0, 4294967295)))), .inr (.inr (.inr (.inr (0, 4294967295)))), .inr (.inr (.inr (.inr (0, 4294967295)))), .inr (.inr (.inr (.inr (0, 4294967295)))), .inr (.inr (.inr (.inr (0, 4294967295))))]) en_f0 en_lawc (fun pc => Nat.beq pc 449) 60 40 en_ls0 [.inl 5] en_t0 413 31071) (449, en_ls0, [.inr (.inr (.inl (some 412))), .inr (.inr (.inr (.inr (0, 4294967295)))), .inr (.inr (.inr (.inr (2147483648, 4294967295)))), .inr (.inr (.inl (some 0)))], en_t0, 413, 31071) = true := by decide +kernel
set_option maxRecDepth 1000000 in
theorem tx_r2T1 : en_isS (en_run en_df none (en_call en_df en_code en_ml 19) tx_cT (fun pc => Nat.beq pc 5) 20 0 (en_args [.inr (.inr (.inl (some 0))), .inr (.inr (.inr (.inr (2147483648, 4294967295)))), .inr (.inr (.inr (.inr (0, 4294967295)))), .inr (.inr (.inl (some 412)))] 0) [] en_t0 413 0) (5, en_args [.inr (.inr (.inl (some 0))), .inr (.inr (.inr (.inr (2147483648, 4294967295)))), .inr (.inr (.inr (.inr (0, 4294967295)))), .inr (.inr (.inl (some 412)))] 0, [.inr (.inr (.inr (.inr (0, 4294967295)))), .inr (.inr (.inr (.inr (2147483648, 4294967295)))), .inr (.inr (.inl (some 0))), .inl 0, .inr (.inr (.inl (some 412)))], en_t0, 413, 0) = true := by decide +kernel
set_option maxRecDepth 1000000 in
theorem tx_r3T1 : en_isS (en_run en_df none (en_call en_df en_code en_ml 18) (en_code 158) (fun pc => Nat.beq pc 23) 60 0 (en_args [.inr (.inr (.inl (some 0))), .inr (.inr (.inr (.inr (2147483648, 4294967295)))), .inr (.inr (.inr (.inr (0, 4294967295))))] 0) [] en_t0 413 0) (23, en_args [.inr (.inr (.inl (some 0))), .inr (.inr (.inr (.inr (2147483648, 4294967295)))), .inr (.inr (.inr (.inr (0, 4294967295))))] 0, [], en_t0, 413, 0) = true := by decide +kernel
set_option maxRecDepth 1000000 in
theorem tx_r4T1 : en_end (en_run en_df (some [.inr (.inr (.inr (.inr (0, 4294967295)))), .inr (.inr (.inr (.inr (2147483648, 4294967295)))), .inr (.inr (.inr (.inr (0, 4294967295)))), .inr (.inr (.inr (.inr (0, 4294967295)))), .inr (.inr (.inr (.inr (0, 4294967295)))), .inr (.inr (.inr (.inr (0, 4294967295)))), .inr (.inr (.inr (.inr (0, 4294967295))))]) en_f0 en_lawc (fun pc => Nat.beq pc 1357) 400 452 en_ls0 [.inl 1] en_t0 414 31077) = true := by decide +kernel
theorem tx_mT1 {l : Launch} (hl : l.stackTraces = false) (ba : Nat) (ex : Nat → Nat) (cA : Nat → ClassId) (D : va_G) (sa : Nat) : Met l tx_oT.1 (tx_wsO tx_oT [(0, 10, 13, 13)]) (en_rm 20 1 6) (tx_Pc ba ex cA D 145 "no such thing, or nothing such of it" sa [.inr (.inr (.inl (some 0))), .inr (.inr (.inr (.inr (2147483648, 4294967295)))), .inr (.inr (.inr (.inr (0, 4294967295)))), .inr (.inr (.inl (some 412)))] en_t0 413) (en_Qc ba ex cA D (some (.inl 1), en_t0, 414, 6)) 1 6 (fun x => ba ≤ x) :=
  tx_lmet (mi := 158) (q := tx_qT) (qO := tx_oT) (a := 0) (as := [.inr (.inr (.inr (.inr (2147483648, 4294967295)))), .inr (.inr (.inr (.inr (0, 4294967295))))]) (rest := [.inl 0, .inr (.inr (.inl (some 412)))]) (pcI := 5) (pcH := 13) (pcE := 15) (nH := 4) (iI := 7) (cH := 13) (h1 := 0) (h2 := 10) (fuel := 20) (st := [.inr (.inr (.inr (.inr (0, 4294967295)))), .inr (.inr (.inr (.inr (2147483648, 4294967295)))), .inr (.inr (.inl (some 0))), .inl 0, .inr (.inr (.inl (some 412)))]) tx_iT rfl (tx_all tx_cT_chk tx_cT_lt) (by decide +kernel) (by decide +kernel) tx_wcT tx_wcl (by decide) (by decide)
    (tx_met (mi := 158) (q := tx_qT) (pc0 := 23) (fuel := 60) (is := 145) hl tx_iT rfl (by decide) (en_isS_ok tx_r3T1) tx_dT0 tx_dT1 tx_dT2 tx_dT3 tx_dT4)
    (by decide) (en_isS_ok tx_r2T1) rfl (by decide) tx_x0 rfl tx_dTI tx_wiT (Or.inl ⟨tx_dTH, rfl⟩) (by decide) (tx_eT _ _ _)
def tx_qC : en_M := (⟨"PackWeeks", "crew", "(II)I"⟩, prog_1_method_8_code, 3, some .int, 2, 1, 9)
def tx_oC : en_M := (⟨"PackWeeksLaw", "crew", "(LPackWeeks;II[J)I"⟩, method_4_code, 5, some .int, 4, 0, 14)
set_option maxRecDepth 100000 in
theorem tx_iC : en_nth en_inf 160 = some tx_qC := rfl
def tx_cC : Nat → Option en_I
  | 0 => some (.aload_n 3, 1, 0, 0)
  | 1 => some (.iconst 0, 2, 0, 0)
  | 2 => some (.aload_n 0, 3, 0, 0)
  | 3 => some (.iload_n 1, 4, 0, 0)
  | 4 => some (.iload_n 2, 5, 0, 0)
  | 15 => some (.iconst 1, 16, 1, 0)
  | 16 => some (.ireturn, 17, 0, 0)
  | _ => none
theorem tx_cC_lt : ∀ pc e, tx_cC pc = some e → pc < 20 := by
  intro pc e h
  unfold tx_cC at h
  split at h <;> first | omega | cases h
set_option maxRecDepth 100000 in
theorem tx_cC_chk : (List.range 20).all (en_chk1 tx_oC tx_cC) = true := by decide +kernel
set_option maxRecDepth 100000 in
theorem tx_wcC : Cond.codeWith tx_oC.1 tx_oC.2.1 tx_oC.2.2.1 tx_oC.2.2.2.1 [(0, 10, 13, 13)] ∈ en_gt := en_tb_mem (i := 1365) (by decide +kernel)
set_option maxRecDepth 100000 in
theorem tx_wiC : Cond.methodLink (en_cn 14) 15 tx_qC.1 ∈ en_gt := en_tb_mem (i := 1366) (by decide +kernel)
set_option maxRecDepth 100000 in
theorem tx_wlC : Cond.methodLink "PackWeeksLaw" 59 tx_oC.1 ∈ en_gt := en_tb_mem (i := 1363) (by decide +kernel)
set_option maxRecDepth 100000 in
theorem tx_wtC : Cond.static tx_oC.1 ∈ en_gt := en_tb_mem (i := 1364) (by decide +kernel)
set_option maxRecDepth 100000 in
theorem tx_dC0 : decode tx_qC.2.1 24 = .ok (.new 143, 3) := by decide +kernel
set_option maxRecDepth 100000 in
theorem tx_dC1 : decode tx_qC.2.1 27 = .ok (.dup, 1) := by decide +kernel
set_option maxRecDepth 100000 in
theorem tx_dC2 : decode tx_qC.2.1 28 = .ok (.ldc 169, 2) := by decide +kernel
set_option maxRecDepth 100000 in
theorem tx_dC3 : decode tx_qC.2.1 30 = .ok (.invokespecial 147, 3) := by decide +kernel
set_option maxRecDepth 100000 in
theorem tx_dC4 : decode tx_qC.2.1 33 = .ok (.athrow, 1) := by decide +kernel
set_option maxRecDepth 100000 in
theorem tx_dCI : decode tx_oC.2.1 5 = .ok (.invokevirtual 15, 3) := by decide +kernel
set_option maxRecDepth 100000 in
theorem tx_dCH : decode tx_oC.2.1 13 = .ok (.astore 4, 2) := by decide +kernel
set_option maxRecDepth 100000 in
theorem tx_dCL : decode code 517 = .ok (.invokestatic 59, 3) := by decide +kernel
theorem tx_eC (t : en_H) (n sl : Nat) : en_run en_df none (en_call en_df en_code en_ml 19) tx_cC (fun _ => false) 5 15 [] [] t n sl = some (.inl (some (.inl 1), t, n, sl)) := rfl
set_option maxRecDepth 1000000 in
theorem tx_r1C0 : en_isS (en_run en_df (some [.inr (.inr (.inr (.inr (0, 4294967295)))), .inr (.inr (.inr (.inr (0, 2147483647)))), .inr (.inr (.inr (.inr (0, 4294967295)))), .inr (.inr (.inr (.inr (0, 4294967295)))), .inr (.inr (.inr (.inr (0, 4294967295)))), .inr (.inr (.inr (.inr (0, 4294967295)))), .inr (.inr (.inr (.inr (0, 4294967295))))]) en_f0 en_lawc (fun pc => Nat.beq pc 517) 60 40 en_ls0 [.inl 6] en_t0 413 31071) (517, en_ls0, [.inr (.inr (.inl (some 412))), .inr (.inr (.inr (.inr (0, 4294967295)))), .inr (.inr (.inr (.inr (0, 2147483647)))), .inr (.inr (.inl (some 0)))], en_t0, 413, 31071) = true := by decide +kernel
set_option maxRecDepth 1000000 in
theorem tx_r2C0 : en_isS (en_run en_df none (en_call en_df en_code en_ml 19) tx_cC (fun pc => Nat.beq pc 5) 20 0 (en_args [.inr (.inr (.inl (some 0))), .inr (.inr (.inr (.inr (0, 2147483647)))), .inr (.inr (.inr (.inr (0, 4294967295)))), .inr (.inr (.inl (some 412)))] 0) [] en_t0 413 0) (5, en_args [.inr (.inr (.inl (some 0))), .inr (.inr (.inr (.inr (0, 2147483647)))), .inr (.inr (.inr (.inr (0, 4294967295)))), .inr (.inr (.inl (some 412)))] 0, [.inr (.inr (.inr (.inr (0, 4294967295)))), .inr (.inr (.inr (.inr (0, 2147483647)))), .inr (.inr (.inl (some 0))), .inl 0, .inr (.inr (.inl (some 412)))], en_t0, 413, 0) = true := by decide +kernel
set_option maxRecDepth 1000000 in
theorem tx_r3C0 : en_isS (en_run en_df none (en_call en_df en_code en_ml 18) (en_code 160) (fun pc => Nat.beq pc 24) 60 0 (en_args [.inr (.inr (.inl (some 0))), .inr (.inr (.inr (.inr (0, 2147483647)))), .inr (.inr (.inr (.inr (0, 4294967295))))] 0) [] en_t0 413 0) (24, en_args [.inr (.inr (.inl (some 0))), .inr (.inr (.inr (.inr (0, 2147483647)))), .inr (.inr (.inr (.inr (0, 4294967295))))] 0, [], en_t0, 413, 0) = true := by decide +kernel
set_option maxRecDepth 1000000 in
theorem tx_r4C0 : en_end (en_run en_df (some [.inr (.inr (.inr (.inr (0, 4294967295)))), .inr (.inr (.inr (.inr (0, 2147483647)))), .inr (.inr (.inr (.inr (0, 4294967295)))), .inr (.inr (.inr (.inr (0, 4294967295)))), .inr (.inr (.inr (.inr (0, 4294967295)))), .inr (.inr (.inr (.inr (0, 4294967295)))), .inr (.inr (.inr (.inr (0, 4294967295))))]) en_f0 en_lawc (fun pc => Nat.beq pc 1357) 400 520 en_ls0 [.inl 1] en_t0 414 31077) = true := by decide +kernel
theorem tx_mC0 {l : Launch} (hl : l.stackTraces = false) (ba : Nat) (ex : Nat → Nat) (cA : Nat → ClassId) (D : va_G) (sa : Nat) : Met l tx_oC.1 (tx_wsO tx_oC [(0, 10, 13, 13)]) (en_rm 20 1 6) (tx_Pc ba ex cA D 169 "no such crew, or nothing such of it" sa [.inr (.inr (.inl (some 0))), .inr (.inr (.inr (.inr (0, 2147483647)))), .inr (.inr (.inr (.inr (0, 4294967295)))), .inr (.inr (.inl (some 412)))] en_t0 413) (en_Qc ba ex cA D (some (.inl 1), en_t0, 414, 6)) 1 6 (fun x => ba ≤ x) :=
  tx_lmet (mi := 160) (q := tx_qC) (qO := tx_oC) (a := 0) (as := [.inr (.inr (.inr (.inr (0, 2147483647)))), .inr (.inr (.inr (.inr (0, 4294967295))))]) (rest := [.inl 0, .inr (.inr (.inl (some 412)))]) (pcI := 5) (pcH := 13) (pcE := 15) (nH := 4) (iI := 15) (cH := 13) (h1 := 0) (h2 := 10) (fuel := 20) (st := [.inr (.inr (.inr (.inr (0, 4294967295)))), .inr (.inr (.inr (.inr (0, 2147483647)))), .inr (.inr (.inl (some 0))), .inl 0, .inr (.inr (.inl (some 412)))]) tx_iC rfl (tx_all tx_cC_chk tx_cC_lt) (by decide +kernel) (by decide +kernel) tx_wcC tx_wcl (by decide) (by decide)
    (tx_met (mi := 160) (q := tx_qC) (pc0 := 24) (fuel := 60) (is := 169) hl tx_iC rfl (by decide) (en_isS_ok tx_r3C0) tx_dC0 tx_dC1 tx_dC2 tx_dC3 tx_dC4)
    (by decide) (en_isS_ok tx_r2C0) rfl (by decide) tx_x0 rfl tx_dCI tx_wiC (Or.inl ⟨tx_dCH, rfl⟩) (by decide) (tx_eC _ _ _)
set_option maxRecDepth 1000000 in
theorem tx_r1C1 : en_isS (en_run en_df (some [.inr (.inr (.inr (.inr (0, 4294967295)))), .inr (.inr (.inr (.inr (2147483648, 4294967295)))), .inr (.inr (.inr (.inr (0, 4294967295)))), .inr (.inr (.inr (.inr (0, 4294967295)))), .inr (.inr (.inr (.inr (0, 4294967295)))), .inr (.inr (.inr (.inr (0, 4294967295)))), .inr (.inr (.inr (.inr (0, 4294967295))))]) en_f0 en_lawc (fun pc => Nat.beq pc 517) 60 40 en_ls0 [.inl 6] en_t0 413 31071) (517, en_ls0, [.inr (.inr (.inl (some 412))), .inr (.inr (.inr (.inr (0, 4294967295)))), .inr (.inr (.inr (.inr (2147483648, 4294967295)))), .inr (.inr (.inl (some 0)))], en_t0, 413, 31071) = true := by decide +kernel
set_option maxRecDepth 1000000 in
theorem tx_r2C1 : en_isS (en_run en_df none (en_call en_df en_code en_ml 19) tx_cC (fun pc => Nat.beq pc 5) 20 0 (en_args [.inr (.inr (.inl (some 0))), .inr (.inr (.inr (.inr (2147483648, 4294967295)))), .inr (.inr (.inr (.inr (0, 4294967295)))), .inr (.inr (.inl (some 412)))] 0) [] en_t0 413 0) (5, en_args [.inr (.inr (.inl (some 0))), .inr (.inr (.inr (.inr (2147483648, 4294967295)))), .inr (.inr (.inr (.inr (0, 4294967295)))), .inr (.inr (.inl (some 412)))] 0, [.inr (.inr (.inr (.inr (0, 4294967295)))), .inr (.inr (.inr (.inr (2147483648, 4294967295)))), .inr (.inr (.inl (some 0))), .inl 0, .inr (.inr (.inl (some 412)))], en_t0, 413, 0) = true := by decide +kernel
set_option maxRecDepth 1000000 in
theorem tx_r3C1 : en_isS (en_run en_df none (en_call en_df en_code en_ml 18) (en_code 160) (fun pc => Nat.beq pc 24) 60 0 (en_args [.inr (.inr (.inl (some 0))), .inr (.inr (.inr (.inr (2147483648, 4294967295)))), .inr (.inr (.inr (.inr (0, 4294967295))))] 0) [] en_t0 413 0) (24, en_args [.inr (.inr (.inl (some 0))), .inr (.inr (.inr (.inr (2147483648, 4294967295)))), .inr (.inr (.inr (.inr (0, 4294967295))))] 0, [], en_t0, 413, 0) = true := by decide +kernel
set_option maxRecDepth 1000000 in
theorem tx_r4C1 : en_end (en_run en_df (some [.inr (.inr (.inr (.inr (0, 4294967295)))), .inr (.inr (.inr (.inr (2147483648, 4294967295)))), .inr (.inr (.inr (.inr (0, 4294967295)))), .inr (.inr (.inr (.inr (0, 4294967295)))), .inr (.inr (.inr (.inr (0, 4294967295)))), .inr (.inr (.inr (.inr (0, 4294967295)))), .inr (.inr (.inr (.inr (0, 4294967295))))]) en_f0 en_lawc (fun pc => Nat.beq pc 1357) 400 520 en_ls0 [.inl 1] en_t0 414 31077) = true := by decide +kernel
theorem tx_mC1 {l : Launch} (hl : l.stackTraces = false) (ba : Nat) (ex : Nat → Nat) (cA : Nat → ClassId) (D : va_G) (sa : Nat) : Met l tx_oC.1 (tx_wsO tx_oC [(0, 10, 13, 13)]) (en_rm 20 1 6) (tx_Pc ba ex cA D 169 "no such crew, or nothing such of it" sa [.inr (.inr (.inl (some 0))), .inr (.inr (.inr (.inr (2147483648, 4294967295)))), .inr (.inr (.inr (.inr (0, 4294967295)))), .inr (.inr (.inl (some 412)))] en_t0 413) (en_Qc ba ex cA D (some (.inl 1), en_t0, 414, 6)) 1 6 (fun x => ba ≤ x) :=
  tx_lmet (mi := 160) (q := tx_qC) (qO := tx_oC) (a := 0) (as := [.inr (.inr (.inr (.inr (2147483648, 4294967295)))), .inr (.inr (.inr (.inr (0, 4294967295))))]) (rest := [.inl 0, .inr (.inr (.inl (some 412)))]) (pcI := 5) (pcH := 13) (pcE := 15) (nH := 4) (iI := 15) (cH := 13) (h1 := 0) (h2 := 10) (fuel := 20) (st := [.inr (.inr (.inr (.inr (0, 4294967295)))), .inr (.inr (.inr (.inr (2147483648, 4294967295)))), .inr (.inr (.inl (some 0))), .inl 0, .inr (.inr (.inl (some 412)))]) tx_iC rfl (tx_all tx_cC_chk tx_cC_lt) (by decide +kernel) (by decide +kernel) tx_wcC tx_wcl (by decide) (by decide)
    (tx_met (mi := 160) (q := tx_qC) (pc0 := 24) (fuel := 60) (is := 169) hl tx_iC rfl (by decide) (en_isS_ok tx_r3C1) tx_dC0 tx_dC1 tx_dC2 tx_dC3 tx_dC4)
    (by decide) (en_isS_ok tx_r2C1) rfl (by decide) tx_x0 rfl tx_dCI tx_wiC (Or.inl ⟨tx_dCH, rfl⟩) (by decide) (tx_eC _ _ _)
def tx_qS : en_M := (⟨"PackWeeks", "share", "()I"⟩, prog_1_method_23_code, 7, some .int, 0, 1, 9)
def tx_oS : en_M := (⟨"PackWeeksLaw", "share", "(LPackWeeks;[J)I"⟩, method_5_code, 3, some .int, 2, 0, 14)
set_option maxRecDepth 100000 in
theorem tx_iS : en_nth en_inf 162 = some tx_qS := rfl
def tx_cS : Nat → Option en_I
  | 0 => some (.aload_n 1, 1, 0, 0)
  | 1 => some (.iconst 0, 2, 0, 0)
  | 2 => some (.aload_n 0, 3, 0, 0)
  | 12 => some (.iconst 1, 13, 1, 0)
  | 13 => some (.ireturn, 14, 0, 0)
  | _ => none
theorem tx_cS_lt : ∀ pc e, tx_cS pc = some e → pc < 20 := by
  intro pc e h
  unfold tx_cS at h
  split at h <;> first | omega | cases h
set_option maxRecDepth 100000 in
theorem tx_cS_chk : (List.range 20).all (en_chk1 tx_oS tx_cS) = true := by decide +kernel
set_option maxRecDepth 100000 in
theorem tx_wcS : Cond.codeWith tx_oS.1 tx_oS.2.1 tx_oS.2.2.1 tx_oS.2.2.2.1 [(0, 8, 11, 13)] ∈ en_gt := en_tb_mem (i := 1374) (by decide +kernel)
set_option maxRecDepth 100000 in
theorem tx_wiS : Cond.methodLink (en_cn 14) 18 tx_qS.1 ∈ en_gt := en_tb_mem (i := 1375) (by decide +kernel)
set_option maxRecDepth 100000 in
theorem tx_wlS : Cond.methodLink "PackWeeksLaw" 123 tx_oS.1 ∈ en_gt := en_tb_mem (i := 1372) (by decide +kernel)
set_option maxRecDepth 100000 in
theorem tx_wtS : Cond.static tx_oS.1 ∈ en_gt := en_tb_mem (i := 1373) (by decide +kernel)
set_option maxRecDepth 100000 in
theorem tx_dS0 : decode tx_qS.2.1 14 = .ok (.new 143, 3) := by decide +kernel
set_option maxRecDepth 100000 in
theorem tx_dS1 : decode tx_qS.2.1 17 = .ok (.dup, 1) := by decide +kernel
set_option maxRecDepth 100000 in
theorem tx_dS2 : decode tx_qS.2.1 18 = .ok (.ldc 243, 2) := by decide +kernel
set_option maxRecDepth 100000 in
theorem tx_dS3 : decode tx_qS.2.1 20 = .ok (.invokespecial 147, 3) := by decide +kernel
set_option maxRecDepth 100000 in
theorem tx_dS4 : decode tx_qS.2.1 23 = .ok (.athrow, 1) := by decide +kernel
set_option maxRecDepth 100000 in
theorem tx_dSI : decode tx_oS.2.1 3 = .ok (.invokevirtual 18, 3) := by decide +kernel
set_option maxRecDepth 100000 in
theorem tx_dSH : decode tx_oS.2.1 11 = .ok (.astore_n 2, 1) := by decide +kernel
set_option maxRecDepth 100000 in
theorem tx_dSL : decode code 1008 = .ok (.invokestatic 123, 3) := by decide +kernel
theorem tx_eS (t : en_H) (n sl : Nat) : en_run en_df none (en_call en_df en_code en_ml 19) tx_cS (fun _ => false) 5 12 [] [] t n sl = some (.inl (some (.inl 1), t, n, sl)) := rfl
set_option maxRecDepth 1000000 in
theorem tx_r1S0 : en_isS (en_run en_df (some [.inr (.inr (.inr (.inr (0, 4294967295)))), .inr (.inr (.inr (.inr (0, 4294967295)))), .inr (.inr (.inr (.inr (0, 4294967295)))), .inr (.inr (.inr (.inr (0, 4294967295)))), .inr (.inr (.inr (.inr (0, 4294967295)))), .inr (.inr (.inr (.inr (0, 4294967295)))), .inr (.inr (.inr (.inr (0, 4294967295))))]) en_f0 en_lawc (fun pc => Nat.beq pc 1008) 60 40 en_ls0 [.inl 21] en_t0 413 31071) (1008, en_ls0, [.inr (.inr (.inl (some 412))), .inr (.inr (.inl (some 0)))], en_t0, 413, 31071) = true := by decide +kernel
set_option maxRecDepth 1000000 in
theorem tx_r2S0 : en_isS (en_run en_df none (en_call en_df en_code en_ml 19) tx_cS (fun pc => Nat.beq pc 3) 20 0 (en_args [.inr (.inr (.inl (some 0))), .inr (.inr (.inl (some 412)))] 0) [] en_t0 413 0) (3, en_args [.inr (.inr (.inl (some 0))), .inr (.inr (.inl (some 412)))] 0, [.inr (.inr (.inl (some 0))), .inl 0, .inr (.inr (.inl (some 412)))], en_t0, 413, 0) = true := by decide +kernel
set_option maxRecDepth 1000000 in
theorem tx_r3S0 : en_isS (en_run en_df none (en_call en_df en_code en_ml 18) (en_code 162) (fun pc => Nat.beq pc 14) 60 0 (en_args [.inr (.inr (.inl (some 0)))] 0) [] en_t0 413 0) (14, en_args [.inr (.inr (.inl (some 0)))] 0, [], en_t0, 413, 0) = true := by decide +kernel
set_option maxRecDepth 1000000 in
theorem tx_r4S0 : en_end (en_run en_df (some [.inr (.inr (.inr (.inr (0, 4294967295)))), .inr (.inr (.inr (.inr (0, 4294967295)))), .inr (.inr (.inr (.inr (0, 4294967295)))), .inr (.inr (.inr (.inr (0, 4294967295)))), .inr (.inr (.inr (.inr (0, 4294967295)))), .inr (.inr (.inr (.inr (0, 4294967295)))), .inr (.inr (.inr (.inr (0, 4294967295))))]) en_f0 en_lawc (fun pc => Nat.beq pc 1357) 400 1011 en_ls0 [.inl 1] en_t0 414 31077) = true := by decide +kernel
theorem tx_mS0 {l : Launch} (hl : l.stackTraces = false) (ba : Nat) (ex : Nat → Nat) (cA : Nat → ClassId) (D : va_G) (sa : Nat) : Met l tx_oS.1 (tx_wsO tx_oS [(0, 8, 11, 13)]) (en_rm 20 1 6) (tx_Pc ba ex cA D 243 "no two crews" sa [.inr (.inr (.inl (some 0))), .inr (.inr (.inl (some 412)))] en_t0 413) (en_Qc ba ex cA D (some (.inl 1), en_t0, 414, 6)) 1 6 (fun x => ba ≤ x) :=
  tx_lmet (mi := 162) (q := tx_qS) (qO := tx_oS) (a := 0) (as := []) (rest := [.inl 0, .inr (.inr (.inl (some 412)))]) (pcI := 3) (pcH := 11) (pcE := 12) (nH := 2) (iI := 18) (cH := 13) (h1 := 0) (h2 := 8) (fuel := 20) (st := [.inr (.inr (.inl (some 0))), .inl 0, .inr (.inr (.inl (some 412)))]) tx_iS rfl (tx_all tx_cS_chk tx_cS_lt) (by decide +kernel) (by decide +kernel) tx_wcS tx_wcl (by decide) (by decide)
    (tx_met (mi := 162) (q := tx_qS) (pc0 := 14) (fuel := 60) (is := 243) hl tx_iS rfl (by decide) (en_isS_ok tx_r3S0) tx_dS0 tx_dS1 tx_dS2 tx_dS3 tx_dS4)
    (by decide) (en_isS_ok tx_r2S0) rfl (by decide) tx_x0 rfl tx_dSI tx_wiS (Or.inr ⟨2, rfl, tx_dSH, rfl⟩) (by decide) (tx_eS _ _ _)
section
variable {p : Program} {l : Launch} {e : Env} {s : State} {m : MethodId} {below : List Frame} {meth : Method} {c : Code} {b : Nat} {xs : Nat → Int32} {ex : Nat → Nat} {cA : Nat → ClassId} {D : va_G}
theorem tx_law (C0 : en_LC p s m meth c b ex cA D 7 xs) {qO : en_M} {hh : List (Nat × Nat × Nat × Nat)} {pc iO is sa m9 : Nat} {tx : String} {ls : en_L} {st as : List en_V} (hX : tx_K s.heap.size is tx sa s) (hM : Met l qO.1 (tx_wsO qO hh) (en_rm 20 1 6) (tx_Pc s.heap.size ex cA D is tx sa as en_t0 413) (en_Qc s.heap.size ex cA D (some (.inl 1), en_t0, 414, 6)) 1 6 (fun x => s.heap.size ≤ x))
    (hwc : Cond.codeWith qO.1 qO.2.1 qO.2.2.1 qO.2.2.2.1 hh ∈ en_gt) (hwl : Cond.methodLink "PackWeeksLaw" iO qO.1 ∈ en_gt) (hwt : Cond.static qO.1 ∈ en_gt) (hcl : qO.1.cls = "PackWeeksLaw") (hpar : (parseMethodDescriptor qO.1.desc).map (fun d => d.parameters.length) = some m9) (hmx : qO.2.2.1 ≤ 5)
    (hd : decode code pc = .ok (.invokestatic iO, 3)) (htk : en_take m9 st [] = some (as, [])) (hT : en_LT p l e s m below meth c b ex cA D (pc + 3, ls, [.inl 1], en_t0, 414, 31077)) : en_LT p l e s m below meth c b ex cA D (pc, ls, st, en_t0, 413, 31071) := by
  obtain ⟨hx, hb, hml, hnl, hown, hts, hK, hlk, hret, hname, hRf, hRl, hRc, hRs⟩ := C0.1
  refine en_a_call (r := (some (.inl 1), en_t0, 414, 6)) (rest := []) (m9 := m9) (as := as) (Nat.zero_le _) (by decide) hT htk (Nat.zero_le _) (fun H locs la av rv hP hS hla hav hlen hroom hc hs => ⟨av.toArray, ?_⟩)
  have hp : PreS s H (tx_Pc s.heap.size ex cA D is tx sa as en_t0 413) av := ⟨tx_Pc_blind, fun U hU hW => ⟨⟨⟨av, rfl, hav⟩, by rw [hU]; exact hP, hK.at hW (by rw [hU]; exact hS)⟩, hX.at hW (by rw [hU]; exact hS)⟩⟩
  have hgood : GoodIn en_gt (va_wsS "PackWeeksLaw" iO qO.1 (tx_wsO qO hh)) := by
    intro w hw
    have hm : w ∈ en_gt := by
      unfold va_wsS tx_wsO at hw
      simp only [List.cons_append, List.nil_append, List.mem_cons] at hw
      rcases hw with rfl | rfl | rfl | rfl | hw
      · exact hwl
      · exact hwt
      · rw [hcl]; exact tx_win
      · exact hwc
      · exact hw
    exact ⟨hm, good_of_word (List.mem_filter.mp hm).2⟩
  exact vx_runSW (hh := hh) ⟨hx, hb, hml, hown, hts⟩ hM (vx_cwSW m9 hts hgood rfl rfl rfl ⟨by rw [hcl]; decide, by rw [hcl]; decide, hpar⟩ ⟨hRf, by show 8 + (qO.2.2.1 + 11) + 64 * 20 ≤ _; omega⟩) hp rfl hlen hla rfl hroom hd ⟨Nat.le_trans hc hRc, Nat.le_trans hs hRs⟩
theorem tx_lv (C0 : en_LC p s m meth c b ex cA D 7 xs) {lo hi : Nat} (h1 : (lo : Int) ≤ (xs 1).toInt + 2147483648) (h2 : (xs 1).toInt + 2147483648 ≤ (hi : Int)) : ∀ i v, ([.inr (.inr (.inr (.inr (0, 4294967295)))), .inr (.inr (.inr (.inr (lo, hi)))), .inr (.inr (.inr (.inr (0, 4294967295)))), .inr (.inr (.inr (.inr (0, 4294967295)))), .inr (.inr (.inr (.inr (0, 4294967295)))), .inr (.inr (.inr (.inr (0, 4294967295)))), .inr (.inr (.inr (.inr (0, 4294967295))))] : List en_V)[i]? = some v → en_rv s.heap.size ex v (.int (xs i)) := by
  intro i v hv
  match i, hv with
  | 0, hv => cases hv; exact en_full _
  | 1, hv => cases hv; exact ⟨_, rfl, h1, h2⟩
  | 2, hv => cases hv; exact en_full _
  | 3, hv => cases hv; exact en_full _
  | 4, hv => cases hv; exact en_full _
  | 5, hv => cases hv; exact en_full _
  | 6, hv => cases hv; exact en_full _
  | k + 7, hv => cases hv
theorem en_law_5 (C0 : en_LC p s m meth c b ex cA D 7 xs) (hl : l.stackTraces = false) (hX : ∃ sa, tx_K s.heap.size 145 "no such thing, or nothing such of it" sa s) : en_LT p l e s m below meth c b ex cA D (40, en_ls0, [.inl 5], en_t0, 413, 31071) := by
  obtain ⟨sa, hX⟩ := hX
  have b1 := en_i32b (xs 1)
  by_cases h1 : (xs 1).toInt + 2147483648 ≤ 2147483647
  · have hv := tx_lv C0 (lo := 0) (hi := 2147483647) (by omega) (by omega)
    refine en_sound C0.1 (oc := some [.inr (.inr (.inr (.inr (0, 4294967295)))), .inr (.inr (.inr (.inr (0, 2147483647)))), .inr (.inr (.inr (.inr (0, 4294967295)))), .inr (.inr (.inr (.inr (0, 4294967295)))), .inr (.inr (.inr (.inr (0, 4294967295)))), .inr (.inr (.inr (.inr (0, 4294967295)))), .inr (.inr (.inr (.inr (0, 4294967295))))]) (fun L' hL => by
      cases hL
      exact ⟨xs, by rw [C0.2.1]; exact C0.2.2.1, by rw [C0.2.1]; exact C0.2.2.2, by rw [C0.2.1]; exact Nat.not_le.mpr C0.2.2.2, hv⟩) (en_call_sound en_ml_ok en_code_ok l _ ex cA D 20) en_lawc_ok 60 40 _ _ _ _ _ _ (Nat.zero_le _) (en_isS_ok tx_r1T0) (fun r hr => by cases hr) (fun S' hS => by
      cases hS
      exact tx_law (qO := tx_oT) (m9 := 4) (as := [.inr (.inr (.inl (some 0))), .inr (.inr (.inr (.inr (0, 2147483647)))), .inr (.inr (.inr (.inr (0, 4294967295)))), .inr (.inr (.inl (some 412)))]) C0 hX (tx_mT0 hl _ ex cA D sa) tx_wcT tx_wlT tx_wtT rfl (by decide +kernel) (by decide) tx_dTL rfl (en_law_go C0 (Lv := [.inr (.inr (.inr (.inr (0, 4294967295)))), .inr (.inr (.inr (.inr (0, 2147483647)))), .inr (.inr (.inr (.inr (0, 4294967295)))), .inr (.inr (.inr (.inr (0, 4294967295)))), .inr (.inr (.inr (.inr (0, 4294967295)))), .inr (.inr (.inr (.inr (0, 4294967295)))), .inr (.inr (.inr (.inr (0, 4294967295))))]) rfl hv tx_r4T0))
  · have hv := tx_lv C0 (lo := 2147483648) (hi := 4294967295) (by omega) (by omega)
    refine en_sound C0.1 (oc := some [.inr (.inr (.inr (.inr (0, 4294967295)))), .inr (.inr (.inr (.inr (2147483648, 4294967295)))), .inr (.inr (.inr (.inr (0, 4294967295)))), .inr (.inr (.inr (.inr (0, 4294967295)))), .inr (.inr (.inr (.inr (0, 4294967295)))), .inr (.inr (.inr (.inr (0, 4294967295)))), .inr (.inr (.inr (.inr (0, 4294967295))))]) (fun L' hL => by
      cases hL
      exact ⟨xs, by rw [C0.2.1]; exact C0.2.2.1, by rw [C0.2.1]; exact C0.2.2.2, by rw [C0.2.1]; exact Nat.not_le.mpr C0.2.2.2, hv⟩) (en_call_sound en_ml_ok en_code_ok l _ ex cA D 20) en_lawc_ok 60 40 _ _ _ _ _ _ (Nat.zero_le _) (en_isS_ok tx_r1T1) (fun r hr => by cases hr) (fun S' hS => by
      cases hS
      exact tx_law (qO := tx_oT) (m9 := 4) (as := [.inr (.inr (.inl (some 0))), .inr (.inr (.inr (.inr (2147483648, 4294967295)))), .inr (.inr (.inr (.inr (0, 4294967295)))), .inr (.inr (.inl (some 412)))]) C0 hX (tx_mT1 hl _ ex cA D sa) tx_wcT tx_wlT tx_wtT rfl (by decide +kernel) (by decide) tx_dTL rfl (en_law_go C0 (Lv := [.inr (.inr (.inr (.inr (0, 4294967295)))), .inr (.inr (.inr (.inr (2147483648, 4294967295)))), .inr (.inr (.inr (.inr (0, 4294967295)))), .inr (.inr (.inr (.inr (0, 4294967295)))), .inr (.inr (.inr (.inr (0, 4294967295)))), .inr (.inr (.inr (.inr (0, 4294967295)))), .inr (.inr (.inr (.inr (0, 4294967295))))]) rfl hv tx_r4T1))
theorem en_law_6 (C0 : en_LC p s m meth c b ex cA D 7 xs) (hl : l.stackTraces = false) (hX : ∃ sa, tx_K s.heap.size 169 "no such crew, or nothing such of it" sa s) : en_LT p l e s m below meth c b ex cA D (40, en_ls0, [.inl 6], en_t0, 413, 31071) := by
  obtain ⟨sa, hX⟩ := hX
  have b1 := en_i32b (xs 1)
  by_cases h1 : (xs 1).toInt + 2147483648 ≤ 2147483647
  · have hv := tx_lv C0 (lo := 0) (hi := 2147483647) (by omega) (by omega)
    refine en_sound C0.1 (oc := some [.inr (.inr (.inr (.inr (0, 4294967295)))), .inr (.inr (.inr (.inr (0, 2147483647)))), .inr (.inr (.inr (.inr (0, 4294967295)))), .inr (.inr (.inr (.inr (0, 4294967295)))), .inr (.inr (.inr (.inr (0, 4294967295)))), .inr (.inr (.inr (.inr (0, 4294967295)))), .inr (.inr (.inr (.inr (0, 4294967295))))]) (fun L' hL => by
      cases hL
      exact ⟨xs, by rw [C0.2.1]; exact C0.2.2.1, by rw [C0.2.1]; exact C0.2.2.2, by rw [C0.2.1]; exact Nat.not_le.mpr C0.2.2.2, hv⟩) (en_call_sound en_ml_ok en_code_ok l _ ex cA D 20) en_lawc_ok 60 40 _ _ _ _ _ _ (Nat.zero_le _) (en_isS_ok tx_r1C0) (fun r hr => by cases hr) (fun S' hS => by
      cases hS
      exact tx_law (qO := tx_oC) (m9 := 4) (as := [.inr (.inr (.inl (some 0))), .inr (.inr (.inr (.inr (0, 2147483647)))), .inr (.inr (.inr (.inr (0, 4294967295)))), .inr (.inr (.inl (some 412)))]) C0 hX (tx_mC0 hl _ ex cA D sa) tx_wcC tx_wlC tx_wtC rfl (by decide +kernel) (by decide) tx_dCL rfl (en_law_go C0 (Lv := [.inr (.inr (.inr (.inr (0, 4294967295)))), .inr (.inr (.inr (.inr (0, 2147483647)))), .inr (.inr (.inr (.inr (0, 4294967295)))), .inr (.inr (.inr (.inr (0, 4294967295)))), .inr (.inr (.inr (.inr (0, 4294967295)))), .inr (.inr (.inr (.inr (0, 4294967295)))), .inr (.inr (.inr (.inr (0, 4294967295))))]) rfl hv tx_r4C0))
  · have hv := tx_lv C0 (lo := 2147483648) (hi := 4294967295) (by omega) (by omega)
    refine en_sound C0.1 (oc := some [.inr (.inr (.inr (.inr (0, 4294967295)))), .inr (.inr (.inr (.inr (2147483648, 4294967295)))), .inr (.inr (.inr (.inr (0, 4294967295)))), .inr (.inr (.inr (.inr (0, 4294967295)))), .inr (.inr (.inr (.inr (0, 4294967295)))), .inr (.inr (.inr (.inr (0, 4294967295)))), .inr (.inr (.inr (.inr (0, 4294967295))))]) (fun L' hL => by
      cases hL
      exact ⟨xs, by rw [C0.2.1]; exact C0.2.2.1, by rw [C0.2.1]; exact C0.2.2.2, by rw [C0.2.1]; exact Nat.not_le.mpr C0.2.2.2, hv⟩) (en_call_sound en_ml_ok en_code_ok l _ ex cA D 20) en_lawc_ok 60 40 _ _ _ _ _ _ (Nat.zero_le _) (en_isS_ok tx_r1C1) (fun r hr => by cases hr) (fun S' hS => by
      cases hS
      exact tx_law (qO := tx_oC) (m9 := 4) (as := [.inr (.inr (.inl (some 0))), .inr (.inr (.inr (.inr (2147483648, 4294967295)))), .inr (.inr (.inr (.inr (0, 4294967295)))), .inr (.inr (.inl (some 412)))]) C0 hX (tx_mC1 hl _ ex cA D sa) tx_wcC tx_wlC tx_wtC rfl (by decide +kernel) (by decide) tx_dCL rfl (en_law_go C0 (Lv := [.inr (.inr (.inr (.inr (0, 4294967295)))), .inr (.inr (.inr (.inr (2147483648, 4294967295)))), .inr (.inr (.inr (.inr (0, 4294967295)))), .inr (.inr (.inr (.inr (0, 4294967295)))), .inr (.inr (.inr (.inr (0, 4294967295)))), .inr (.inr (.inr (.inr (0, 4294967295)))), .inr (.inr (.inr (.inr (0, 4294967295))))]) rfl hv tx_r4C1))
theorem en_law_21 (C0 : en_LC p s m meth c b ex cA D 7 xs) (hl : l.stackTraces = false) (hX : ∃ sa, tx_K s.heap.size 243 "no two crews" sa s) : en_LT p l e s m below meth c b ex cA D (40, en_ls0, [.inl 21], en_t0, 413, 31071) := by
  obtain ⟨sa, hX⟩ := hX
  have b1 := en_i32b (xs 1)
  have hv := tx_lv C0 (lo := 0) (hi := 4294967295) (by omega) (by omega)
  refine en_sound C0.1 (oc := some [.inr (.inr (.inr (.inr (0, 4294967295)))), .inr (.inr (.inr (.inr (0, 4294967295)))), .inr (.inr (.inr (.inr (0, 4294967295)))), .inr (.inr (.inr (.inr (0, 4294967295)))), .inr (.inr (.inr (.inr (0, 4294967295)))), .inr (.inr (.inr (.inr (0, 4294967295)))), .inr (.inr (.inr (.inr (0, 4294967295))))]) (fun L' hL => by
    cases hL
    exact ⟨xs, by rw [C0.2.1]; exact C0.2.2.1, by rw [C0.2.1]; exact C0.2.2.2, by rw [C0.2.1]; exact Nat.not_le.mpr C0.2.2.2, hv⟩) (en_call_sound en_ml_ok en_code_ok l _ ex cA D 20) en_lawc_ok 60 40 _ _ _ _ _ _ (Nat.zero_le _) (en_isS_ok tx_r1S0) (fun r hr => by cases hr) (fun S' hS => by
    cases hS
    exact tx_law (qO := tx_oS) (m9 := 2) (as := [.inr (.inr (.inl (some 0))), .inr (.inr (.inl (some 412)))]) C0 hX (tx_mS0 hl _ ex cA D sa) tx_wcS tx_wlS tx_wtS rfl (by decide +kernel) (by decide) tx_dSL rfl (en_law_go C0 (Lv := [.inr (.inr (.inr (.inr (0, 4294967295)))), .inr (.inr (.inr (.inr (0, 4294967295)))), .inr (.inr (.inr (.inr (0, 4294967295)))), .inr (.inr (.inr (.inr (0, 4294967295)))), .inr (.inr (.inr (.inr (0, 4294967295)))), .inr (.inr (.inr (.inr (0, 4294967295)))), .inr (.inr (.inr (.inr (0, 4294967295))))]) rfl hv tx_r4S0))
end
end ENU
