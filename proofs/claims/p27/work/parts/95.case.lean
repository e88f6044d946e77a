section PKH
section
variable {l : Launch} {ba : Nat} {ex : Nat → Nat} {cA : Nat → ClassId} {D : va_G}
/-- a method of the law's class that calls a method that comes back -/
theorem tx_nmet {is sa mi pcI iI a fuel : Nat} {tx : String} {q qO : en_M} (hi : en_nth en_inf mi = some q) (hk1 : q.2.2.2.2.2.1 = 1) {as0 as rest : List en_V} {t t1 t2 : en_H} {n v : Nat} {ls : en_L} {qr : Nat × List en_V}
    {code : Nat → Option en_I} (hcode : ∀ pc e, code pc = some e → en_ok qO pc e = true) {hh : List (Nat × Nat × Nat × Nat)} (hy : plainName qO.1.cls = true) (hcn : qO.1.cls = en_cn qO.2.2.2.2.2.2)
    (hu : en_u 61 mi (.inr (.inr (.inl (some a))) :: as) t n = some (some (.inl v), t1, n, 0)) (hsum : en_sum as0 ≤ qO.2.2.1) {st : List en_V}
    (hrun : en_run en_df none (en_u 61) code (fun pc => Nat.beq pc pcI) fuel 0 (en_args as0 0) [] t n 0 = some (.inr (pcI, ls, st, t, n, 0)))
    (htk : en_take (q.2.2.2.2.1 + 1) st [] = some (.inr (.inr (.inl (some a))) :: as, rest)) (hsr : en_sum rest ≤ 8) (hg : en_get t a = some (.inr qr)) (hqr : qr.1 = q.2.2.2.2.2.2)
    (hd : decode qO.2.1 pcI = .ok (.invokevirtual iI, 3)) (hlk : Cond.methodLink (en_cn qO.2.2.2.2.2.2) iI q.1 ∈ en_gt)
    (hrunE : ∃ fuel, en_run en_df none (en_u 61) code (fun _ => false) fuel (pcI + 3) ls (.inl v :: rest) t1 n 0 = some (.inl (some (.inl 0), t2, n, 0))) :
    Met l qO.1 (tx_wsO qO hh) (en_rm 62 (n - n) 0) (tx_Pc ba ex cA D is tx sa as0 t n) (en_Qc ba ex cA D (some (.inl 0), t2, n, 0)) (n - n) 0 (fun x => ba ≤ x) := by
  have hq := en_mi hi
  have hf := en_u_hf l ba ex cA D 61
  obtain ⟨fuelE, hrunE⟩ := hrunE
  refine va_MetW (hh := hh) (cc := qO.2.1) (maxL := qO.2.2.1) (ret := qO.2.2.2.1) hy rfl ?_
  intro p e s m args below meth c s₁ B hml hv
  obtain ⟨⟨⟨vs, rfl, hvs⟩, hP, hK⟩, hX⟩ := hv
  have hts : ∀ w ∈ en_gt, w.before vs.toArray s = true := fun w hw => atoms_spec (ws := tx_wsO qO hh) B.pre w (List.mem_cons_of_mem _ hw)
  have hown : s.vm.findClass qO.1.cls = some m.cls := findClass_of_methodNamed B.named
  rw [hcn] at hown
  rw [lg_entry_eq]
  have hle : (lg_sl vs).length ≤ qO.2.2.1 := by rw [en_args_len hvs, ← en_sum_eq]; exact hsum
  have hl0 := lv_entry vs hle
  have Cx : en_Cx p (headSpec (tx_wsO qO hh) (en_rm 62 (n - n) 0)).room s m vs.toArray meth c ba ex cA D qO.2.2.1 n n 0 qO 61 := ⟨B.exec, B.bytes, hml, rfl, hown, hts, hK, B.notSynchronized, B.returns, (name_of_methodNamed B.named B.method).1, Nat.le_refl _, Nat.le_refl _, Nat.le_refl _, Nat.le_refl _⟩
  have TE := en_sound (l := l) (e := e) (below := below) (Q := MQ below (en_Qc ba ex cA D (some (.inl 0), t2, n, 0)) vs.toArray s (n - n) 0 (fun x => ba ≤ x)) (oc := none) (stop := fun _ => false) Cx (fun L h => by cases h) hf hcode fuelE (pcI + 3) ls (.inl v :: rest) t1 n 0 _ (Nat.le_refl n) hrunE (fun r' hr => by cases hr; exact ⟨rfl, rfl, rfl⟩) (fun S hS => by cases hS)
  have TX := en_a_virt (r := (some (.inl v), t1, n, 0)) (q := q) (d := 61) (i := iI) (a := a) (own := en_cn qO.2.2.2.2.2.2) (sl := 0) B.exec B.bytes hml hown hts hK (Nat.le_refl _) (Nat.le_refl _) (Nat.le_refl _) (Nat.le_refl _) (Nat.le_refl _) (Nat.le_refl _) TE hq hk1 htk hsr hg hqr (hf mi _ t n _ q hu hi) hlk hd
  have T0 := en_sound (l := l) (e := e) (below := below) (oc := none) (stop := fun pc => Nat.beq pc pcI) Cx (fun L h => by cases h) hf hcode fuel 0 _ _ _ _ _ _ (Nat.le_refl n) hrun (fun r' hr => by cases hr) (fun S hS => by cases hS; exact TX)
  have K := T0.2.2 s.heap [] _ [] ⟨_, hl0, en_args_ok 0 hvs⟩ trivial hP va_S.rf
  dsimp only at K
  rw [Nat.sub_self] at K ⊢
  exact K
end
/-! the law's walk -/
noncomputable def en_LT (p : Program) (l : Launch) (e : Env) (s : State) (m : MethodId) (below : List Frame) (meth : Method) (c : Code) (b : Nat) (ex : Nat → Nat) (cA : Nat → ClassId) (D : va_G) (S : en_S) : Prop := en_T p l e room_1 s m #[Value.ref b] below meth c (lw_Z below #[Value.ref b] s) s.heap.size ex cA D 7 0 601024 7293034 S
noncomputable def en_LC (d : Nat) (p : Program) (s : State) (m : MethodId) (meth : Method) (c : Code) (b : Nat) (ex : Nat → Nat) (cA : Nat → ClassId) (D : va_G) (L : Nat) (xs : Nat → Int32) : Prop := en_Cx p room_1 s m #[Value.ref b] meth c s.heap.size ex cA D 7 0 601024 7293034 en_qlaw d ∧ ex 1 = b ∧ va_X b L xs s s.heap ∧ b < s.heap.size
theorem tx_all {q : en_M} {g : Nat → Option en_I} {N : Nat} (h : (List.range N).all (en_chk1 q g) = true) (hN : ∀ pc e, g pc = some e → pc < N) : ∀ pc e, g pc = some e → en_ok q pc e = true := by
  intro pc e he
  have h1 := List.all_eq_true.mp h pc (List.mem_range.mpr (hN pc e he))
  unfold en_chk1 at h1
  rw [he] at h1
  exact h1
set_option maxRecDepth 100000 in
theorem tx_wcl : Cond.classLink (en_cn 14) 13 tx_N ∈ en_gt := en_tb_mem (i := 1290) (by decide +kernel)
set_option maxRecDepth 100000 in
theorem tx_win : Cond.initialized "PackWeeksLaw" ∈ en_gt := en_tb_mem (i := 128) (by decide +kernel)
noncomputable def tx_qT : en_M := (⟨"PackWeeks", "thing", "(II)I"⟩, prog_1_method_7_code, 4, some .int, 2, 1, 9)
noncomputable def tx_oT : en_M := (⟨"PackWeeksLaw", "thing", "(LPackWeeks;II[J)I"⟩, method_3_code, 5, some .int, 4, 0, 14)
set_option maxRecDepth 100000 in
theorem tx_iT : en_nth en_inf 87 = some tx_qT := rfl
noncomputable def tx_cT : Nat → Option en_I
  | 0 => some (.aload_n 3, 1, 0, 0)
  | 1 => some (.iconst 0, 2, 0, 0)
  | 2 => some (.aload_n 0, 3, 0, 0)
  | 3 => some (.iload_n 1, 4, 0, 0)
  | 4 => some (.iload_n 2, 5, 0, 0)
  | 8 => some (.i2l, 9, 0, 0)
  | 9 => some (.lastore, 10, 0, 0)
  | 10 => some (.goto 7, 13, 17, 0)
  | 15 => some (.iconst 1, 16, 1, 0)
  | 16 => some (.ireturn, 17, 0, 0)
  | 17 => some (.iconst 0, 18, 0, 0)
  | 18 => some (.ireturn, 19, 0, 0)
  | _ => none
theorem tx_cT_lt : ∀ pc e, tx_cT pc = some e → pc < 20 := by
  intro pc e h
  unfold tx_cT at h
  split at h <;> first | omega | cases h
set_option maxRecDepth 100000 in
theorem tx_cT_chk : (List.range 20).all (en_chk1 tx_oT tx_cT) = true := by decide +kernel
set_option maxRecDepth 100000 in
theorem tx_wcT : Cond.codeWith tx_oT.1 tx_oT.2.1 tx_oT.2.2.1 tx_oT.2.2.2.1 [(0, 10, 13, 13)] ∈ en_gt := en_tb_mem (i := 1289) (by decide +kernel)
set_option maxRecDepth 100000 in
theorem tx_wiT : Cond.methodLink (en_cn 14) 7 tx_qT.1 ∈ en_gt := en_tb_mem (i := 1291) (by decide +kernel)
set_option maxRecDepth 100000 in
theorem tx_wlT : Cond.methodLink "PackWeeksLaw" 50 tx_oT.1 ∈ en_gt := en_tb_mem (i := 1287) (by decide +kernel)
set_option maxRecDepth 100000 in
theorem tx_wtT : Cond.static tx_oT.1 ∈ en_gt := en_tb_mem (i := 1288) (by decide +kernel)
set_option maxRecDepth 100000 in
theorem tx_dT0 : decode tx_qT.2.1 23 = .ok (.new 143, 3) := by decide +kernel
set_option maxRecDepth 100000 in
theorem tx_dT1 : decode tx_qT.2.1 26 = .ok (.dup, 1) := by decide +kernel
set_option maxRecDepth 100000 in
theorem tx_dT2 : decode tx_qT.2.1 27 = .ok (.ldc 145, 2) := by decide +kernel
set_option maxRecDepth 100000 in
theorem tx_dT3 : decode tx_qT.2.1 29 = .ok (.invokespecial 147, 3) := by decide +kernel
set_option maxRecDepth 100000 in
theorem tx_dT4 : decode tx_qT.2.1 32 = .ok (.athrow, 1) := by decide +kernel
set_option maxRecDepth 100000 in
theorem tx_dTI : decode tx_oT.2.1 5 = .ok (.invokevirtual 7, 3) := by decide +kernel
set_option maxRecDepth 100000 in
theorem tx_dTH : decode tx_oT.2.1 13 = .ok (.astore 4, 2) := by decide +kernel
set_option maxRecDepth 100000 in
theorem tx_dTL : decode code 449 = .ok (.invokestatic 50, 3) := by decide +kernel
theorem tx_eT (t : en_H) (n sl : Nat) : en_run en_df none (en_u 61) tx_cT (fun _ => false) 5 15 [] [] t n sl = some (.inl (some (.inl 1), t, n, sl)) := rfl
noncomputable def tx_qC : en_M := (⟨"PackWeeks", "crew", "(II)I"⟩, prog_1_method_8_code, 3, some .int, 2, 1, 9)
noncomputable def tx_oC : en_M := (⟨"PackWeeksLaw", "crew", "(LPackWeeks;II[J)I"⟩, method_4_code, 5, some .int, 4, 0, 14)
set_option maxRecDepth 100000 in
theorem tx_iC : en_nth en_inf 88 = some tx_qC := rfl
noncomputable def tx_cC : Nat → Option en_I
  | 0 => some (.aload_n 3, 1, 0, 0)
  | 1 => some (.iconst 0, 2, 0, 0)
  | 2 => some (.aload_n 0, 3, 0, 0)
  | 3 => some (.iload_n 1, 4, 0, 0)
  | 4 => some (.iload_n 2, 5, 0, 0)
  | 8 => some (.i2l, 9, 0, 0)
  | 9 => some (.lastore, 10, 0, 0)
  | 10 => some (.goto 7, 13, 17, 0)
  | 15 => some (.iconst 1, 16, 1, 0)
  | 16 => some (.ireturn, 17, 0, 0)
  | 17 => some (.iconst 0, 18, 0, 0)
  | 18 => some (.ireturn, 19, 0, 0)
  | _ => none
theorem tx_cC_lt : ∀ pc e, tx_cC pc = some e → pc < 20 := by
  intro pc e h
  unfold tx_cC at h
  split at h <;> first | omega | cases h
set_option maxRecDepth 100000 in
theorem tx_cC_chk : (List.range 20).all (en_chk1 tx_oC tx_cC) = true := by decide +kernel
set_option maxRecDepth 100000 in
theorem tx_wcC : Cond.codeWith tx_oC.1 tx_oC.2.1 tx_oC.2.2.1 tx_oC.2.2.2.1 [(0, 10, 13, 13)] ∈ en_gt := en_tb_mem (i := 1365) (by decide +kernel)
set_option maxRecDepth 100000 in
theorem tx_wiC : Cond.methodLink (en_cn 14) 15 tx_qC.1 ∈ en_gt := en_tb_mem (i := 1366) (by decide +kernel)
set_option maxRecDepth 100000 in
theorem tx_wlC : Cond.methodLink "PackWeeksLaw" 56 tx_oC.1 ∈ en_gt := en_tb_mem (i := 1363) (by decide +kernel)
set_option maxRecDepth 100000 in
theorem tx_wtC : Cond.static tx_oC.1 ∈ en_gt := en_tb_mem (i := 1364) (by decide +kernel)
set_option maxRecDepth 100000 in
theorem tx_dC0 : decode tx_qC.2.1 24 = .ok (.new 143, 3) := by decide +kernel
set_option maxRecDepth 100000 in
theorem tx_dC1 : decode tx_qC.2.1 27 = .ok (.dup, 1) := by decide +kernel
set_option maxRecDepth 100000 in
theorem tx_dC2 : decode tx_qC.2.1 28 = .ok (.ldc 169, 2) := by decide +kernel
set_option maxRecDepth 100000 in
theorem tx_dC3 : decode tx_qC.2.1 30 = .ok (.invokespecial 147, 3) := by decide +kernel
set_option maxRecDepth 100000 in
theorem tx_dC4 : decode tx_qC.2.1 33 = .ok (.athrow, 1) := by decide +kernel
set_option maxRecDepth 100000 in
theorem tx_dCI : decode tx_oC.2.1 5 = .ok (.invokevirtual 15, 3) := by decide +kernel
set_option maxRecDepth 100000 in
theorem tx_dCH : decode tx_oC.2.1 13 = .ok (.astore 4, 2) := by decide +kernel
set_option maxRecDepth 100000 in
theorem tx_dCL : decode code 489 = .ok (.invokestatic 56, 3) := by decide +kernel
theorem tx_eC (t : en_H) (n sl : Nat) : en_run en_df none (en_u 61) tx_cC (fun _ => false) 5 15 [] [] t n sl = some (.inl (some (.inl 1), t, n, sl)) := rfl
noncomputable def tx_qS : en_M := (⟨"PackWeeks", "share", "()I"⟩, prog_1_method_23_code, 7, some .int, 0, 1, 9)
noncomputable def tx_oS : en_M := (⟨"PackWeeksLaw", "share", "(LPackWeeks;[J)I"⟩, method_5_code, 3, some .int, 2, 0, 14)
set_option maxRecDepth 100000 in
theorem tx_iS : en_nth en_inf 89 = some tx_qS := rfl
noncomputable def tx_cS : Nat → Option en_I
  | 0 => some (.aload_n 1, 1, 0, 0)
  | 1 => some (.iconst 0, 2, 0, 0)
  | 2 => some (.aload_n 0, 3, 0, 0)
  | 6 => some (.i2l, 7, 0, 0)
  | 7 => some (.lastore, 8, 0, 0)
  | 8 => some (.goto 6, 11, 14, 0)
  | 12 => some (.iconst 1, 13, 1, 0)
  | 13 => some (.ireturn, 14, 0, 0)
  | 14 => some (.iconst 0, 15, 0, 0)
  | 15 => some (.ireturn, 16, 0, 0)
  | _ => none
theorem tx_cS_lt : ∀ pc e, tx_cS pc = some e → pc < 20 := by
  intro pc e h
  unfold tx_cS at h
  split at h <;> first | omega | cases h
set_option maxRecDepth 100000 in
theorem tx_cS_chk : (List.range 20).all (en_chk1 tx_oS tx_cS) = true := by decide +kernel
set_option maxRecDepth 100000 in
theorem tx_wcS : Cond.codeWith tx_oS.1 tx_oS.2.1 tx_oS.2.2.1 tx_oS.2.2.2.1 [(0, 8, 11, 13)] ∈ en_gt := en_tb_mem (i := 1374) (by decide +kernel)
set_option maxRecDepth 100000 in
theorem tx_wiS : Cond.methodLink (en_cn 14) 18 tx_qS.1 ∈ en_gt := en_tb_mem (i := 1375) (by decide +kernel)
set_option maxRecDepth 100000 in
theorem tx_wlS : Cond.methodLink "PackWeeksLaw" 120 tx_oS.1 ∈ en_gt := en_tb_mem (i := 1372) (by decide +kernel)
set_option maxRecDepth 100000 in
theorem tx_wtS : Cond.static tx_oS.1 ∈ en_gt := en_tb_mem (i := 1373) (by decide +kernel)
set_option maxRecDepth 100000 in
theorem tx_dS0 : decode tx_qS.2.1 14 = .ok (.new 143, 3) := by decide +kernel
set_option maxRecDepth 100000 in
theorem tx_dS1 : decode tx_qS.2.1 17 = .ok (.dup, 1) := by decide +kernel
set_option maxRecDepth 100000 in
theorem tx_dS2 : decode tx_qS.2.1 18 = .ok (.ldc 243, 2) := by decide +kernel
set_option maxRecDepth 100000 in
theorem tx_dS3 : decode tx_qS.2.1 20 = .ok (.invokespecial 147, 3) := by decide +kernel
set_option maxRecDepth 100000 in
theorem tx_dS4 : decode tx_qS.2.1 23 = .ok (.athrow, 1) := by decide +kernel
set_option maxRecDepth 100000 in
theorem tx_dSI : decode tx_oS.2.1 3 = .ok (.invokevirtual 18, 3) := by decide +kernel
set_option maxRecDepth 100000 in
theorem tx_dSH : decode tx_oS.2.1 11 = .ok (.astore_n 2, 1) := by decide +kernel
set_option maxRecDepth 100000 in
theorem tx_dSL : decode code 951 = .ok (.invokestatic 120, 3) := by decide +kernel
theorem tx_eS (t : en_H) (n sl : Nat) : en_run en_df none (en_u 61) tx_cS (fun _ => false) 5 12 [] [] t n sl = some (.inl (some (.inl 1), t, n, sl)) := rfl
section
variable {p : Program} {l : Launch} {e : Env} {s : State} {m : MethodId} {below : List Frame} {meth : Method} {c : Code} {b L : Nat} {xs : Nat → Int32} {ex : Nat → Nat} {cA : Nat → ClassId} {D : va_G}
theorem tx_law (C0 : en_LC 62 p s m meth c b ex cA D L xs) {qO : en_M} {hh : List (Nat × Nat × Nat × Nat)} {pc iO is sa m9 k n n1 s1 sl : Nat} {tx : String} {ls : en_L} {st as : List en_V} {t t1 : en_H} (hX : tx_K s.heap.size is tx sa s) (hM : Met l qO.1 (tx_wsO qO hh) (en_rm 62 (n1 - n) s1) (tx_Pc s.heap.size ex cA D is tx sa as t n) (en_Qc s.heap.size ex cA D (some (.inl k), t1, n1, s1)) (n1 - n) s1 (fun x => s.heap.size ≤ x)) (hnn : n ≤ n1)
    (hwc : Cond.codeWith qO.1 qO.2.1 qO.2.2.1 qO.2.2.2.1 hh ∈ en_gt) (hwl : Cond.methodLink "PackWeeksLaw" iO qO.1 ∈ en_gt) (hwt : Cond.static qO.1 ∈ en_gt) (hcl : qO.1.cls = "PackWeeksLaw") (hpar : (parseMethodDescriptor qO.1.desc).map (fun d => d.parameters.length) = some m9) (hmx : qO.2.2.1 ≤ 5)
    (hd : decode code pc = .ok (.invokestatic iO, 3)) (htk : en_take m9 st [] = some (as, [])) (hT : en_LT p l e s m below meth c b ex cA D (pc + 3, ls, [.inl k], t1, n1, sl + s1)) : en_LT p l e s m below meth c b ex cA D (pc, ls, st, t, n, sl) := by
  obtain ⟨hx, hb, hml, hnl, hown, hts, hK, hlk, hret, hname, hRf, hRl, hRc, hRs⟩ := C0.1
  refine en_a_call (r := (some (.inl k), t1, n1, s1)) (rest := []) (m9 := m9) (as := as) (Nat.zero_le _) hnn hT htk (Nat.zero_le _) (fun H locs la av rv hP hS hla hav hlen hroom hc hs => ⟨av.toArray, ?_⟩)
  have hp : PreS s H (tx_Pc s.heap.size ex cA D is tx sa as t n) av := ⟨tx_Pc_blind, fun U hU hW => ⟨⟨⟨av, rfl, hav⟩, by rw [hU]; exact hP, hK.at hW (by rw [hU]; exact hS)⟩, hX.at hW (by rw [hU]; exact hS)⟩⟩
  have hgood : GoodIn en_gt (va_wsS "PackWeeksLaw" iO qO.1 (tx_wsO qO hh)) := by
    intro w hw
    have hm : w ∈ en_gt := by
      unfold va_wsS tx_wsO at hw
      simp only [List.cons_append, List.nil_append, List.mem_cons] at hw
      rcases hw with rfl | rfl | rfl | rfl | hw
      · exact hwl
      · exact hwt
      · rw [hcl]; exact tx_win
      · exact hwc
      · exact hw
    exact ⟨hm, good_of_word (List.mem_filter.mp hm).2⟩
  exact vx_runSW (hh := hh) ⟨hx, hb, hml, hown, hts⟩ hM (vx_cwSW m9 hts hgood rfl rfl rfl ⟨by rw [hcl]; decide, by rw [hcl]; decide, hpar⟩ ⟨hRf, by show 8 + (qO.2.2.1 + 11) + 64 * 62 ≤ 84000; omega⟩) hp rfl hlen hla rfl hroom hd ⟨Nat.le_trans hc hRc, Nat.le_trans hs hRs⟩
end
section
variable {Lv : List en_V} {t : en_H} {n sl : Nat}
theorem gx_ld40 {oc : Option (List en_V)} {f : en_F} {code : Nat → Option en_I} {stop : Nat → Bool} {P : en_O → Prop} {pc nx : Nat} {ls : en_L} {st : List en_V} {ins : Instr} {x1 x2 i d : Nat} {v : en_V} (hc : code pc = some (ins, nx, x1, x2)) (hi : ∀ k : en_K, en_step en_df oc f pc (ins, nx, x1, x2) ls st t n sl k = en_load d i nx ls st t n sl k) (hl : en_ld ls i = some v) (hk : Nat.beq (en_kd v) d = true) (hp : stop nx = true) (h : P (.inr (nx, ls, v :: st, t, n, sl))) : en_ex oc f code stop (pc, ls, st, t, n, sl) P := by
  refine ex_stop (S := (nx, ls, v :: st, t, n, sl)) hc (fun k => ?_) hp h
  rw [hi]
  unfold en_load
  rw [hl]
  dsimp only
  rw [hk]
  rfl
theorem lw_5a {L i : Nat} {cl : en_L} (hLv : lw_Lv Lv L) (hi : i + 7 ≤ L) (hcl : lw_cl cl i) : en_ex (some Lv) (en_u 60) en_lawc (fun pc => Nat.beq pc 449) (40, cl, [.inl 5], t, n, sl) (fun o => ∃ x, x < 4294967296 ∧ ∃ y, y < 4294967296 ∧ o = .inr (449, cl, [gx_r 412, .inl y, .inl x, gx_r 0], t, n, sl) ∧ Lv[i + 1]? = some (.inl x) ∧ Lv[i + 2]? = some (.inl y)) := by
  obtain ⟨h0, h1, h2, h3, h4⟩ := hcl
  have hL := hLv.2.1
  refine ex_go (S := (435, cl, [], t, n, sl)) rfl (fun _ => rfl) rfl ?_
  refine gx_ld (i := 1) (d := 2) (v := gx_r 0) rfl (fun _ => rfl) h1 rfl rfl ?_
  refine gx_ld (i := 0) (d := 2) (v := .inr (.inr (.inr (.inl 2)))) rfl (fun _ => rfl) h0 rfl rfl ?_
  refine gx_ld (i := 4) (d := 0) (v := .inl i) rfl (fun _ => rfl) h4 rfl rfl ?_
  refine ex_go (S := (440, cl, [.inl 1, .inl i, .inr (.inr (.inr (.inl 2))), gx_r 0], t, n, sl)) rfl (fun _ => rfl) rfl ?_
  refine ex_iadd rfl (by first | decide | omega) rfl ?_
  obtain ⟨m1, m1b, k2⟩ := hLv.2.2 (i + 1) (by first | decide | omega)
  refine gx_scr rfl k2 (by first | decide | omega) rfl ?_
  refine gx_ld (i := 0) (d := 2) (v := .inr (.inr (.inr (.inl 2)))) rfl (fun _ => rfl) h0 rfl rfl ?_
  refine gx_ld (i := 4) (d := 0) (v := .inl i) rfl (fun _ => rfl) h4 rfl rfl ?_
  refine ex_go (S := (446, cl, [.inl 2, .inl i, .inr (.inr (.inr (.inl 2))), .inl m1, gx_r 0], t, n, sl)) rfl (fun _ => rfl) rfl ?_
  refine ex_iadd rfl (by first | decide | omega) rfl ?_
  obtain ⟨m3, m3b, k4⟩ := hLv.2.2 (i + 2) (by first | decide | omega)
  refine gx_scr rfl k4 (by first | decide | omega) rfl ?_
  refine gx_ld40 (i := 3) (d := 2) (v := gx_r 412) rfl (fun _ => rfl) h3 rfl rfl ?_
  exact ⟨m1, m1b, m3, m3b, rfl, k2, k4⟩
theorem lw_5b {L i kk : Nat} {cl : en_L} (hLv : lw_Lv Lv L) (hi : i + 7 ≤ L) (hI : pi_I i t) (hcl : lw_cl cl i) : en_ex (some Lv) (en_u 60) en_lawc (fun pc => Nat.beq pc 23) (452, cl, [.inl kk], t, n, sl) (lw_nx i n sl) := by
  obtain ⟨h0, h1, h2, h3, h4⟩ := hcl
  have hL := hLv.2.1
  refine gx_sto (i := 5) (d := 0) rfl (fun _ => rfl) rfl rfl (fun l1 hl1 ml1 => ?_)
  have l1_0 : en_ld l1 0 = some (.inr (.inr (.inr (.inl 2)))) := ml1 0 _ h0 rfl
  have l1_1 : en_ld l1 1 = some (gx_r 0) := ml1 1 _ h1 rfl
  have l1_2 : en_ld l1 2 = some (gx_r 383) := ml1 2 _ h2 rfl
  have l1_3 : en_ld l1 3 = some (gx_r 412) := ml1 3 _ h3 rfl
  have l1_4 : en_ld l1 4 = some (.inl i) := ml1 4 _ h4 rfl
  refine gx_ld (i := 2) (d := 2) (v := gx_r 383) rfl (fun _ => rfl) l1_2 rfl rfl ?_
  refine gx_ld (i := 0) (d := 2) (v := .inr (.inr (.inr (.inl 2)))) rfl (fun _ => rfl) l1_0 rfl rfl ?_
  refine gx_ld (i := 4) (d := 0) (v := .inl i) rfl (fun _ => rfl) l1_4 rfl rfl ?_
  refine ex_go (S := (459, l1, [.inl 1, .inl i, .inr (.inr (.inr (.inl 2))), gx_r 383], t, n, sl)) rfl (fun _ => rfl) rfl ?_
  refine ex_iadd rfl (by first | decide | omega) rfl ?_
  obtain ⟨m2, m2b, k3⟩ := hLv.2.2 (i + 1) (by first | decide | omega)
  refine gx_scr rfl k3 (by first | decide | omega) rfl ?_
  refine gx_ld (i := 0) (d := 2) (v := .inr (.inr (.inr (.inl 2)))) rfl (fun _ => rfl) l1_0 rfl rfl ?_
  refine gx_ld (i := 4) (d := 0) (v := .inl i) rfl (fun _ => rfl) l1_4 rfl rfl ?_
  refine ex_go (S := (465, l1, [.inl 2, .inl i, .inr (.inr (.inr (.inl 2))), .inl m2, gx_r 383], t, n, sl)) rfl (fun _ => rfl) rfl ?_
  refine ex_iadd rfl (by first | decide | omega) rfl ?_
  obtain ⟨m4, m4b, k5⟩ := hLv.2.2 (i + 2) (by first | decide | omega)
  refine gx_scr rfl k5 (by first | decide | omega) rfl ?_
  obtain ⟨vr, tr, rr, gr, Ir⟩ := rr_5 (n := n) (x := m2) (y := m4) (by first | decide | omega) (by first | decide | omega) hI
  refine gx_callo (a := 383) rfl rfl hI.1 rfl rfl rfl rr rfl ?_
  show en_ex _ _ _ _ (470, l1, [.inl vr], tr, n, sl) _
  refine gx_sto (i := 6) (d := 0) rfl (fun _ => rfl) rfl rfl (fun l6 hl6 ml6 => ?_)
  have l6_0 : en_ld l6 0 = some (.inr (.inr (.inr (.inl 2)))) := ml6 0 _ l1_0 rfl
  have l6_1 : en_ld l6 1 = some (gx_r 0) := ml6 1 _ l1_1 rfl
  have l6_2 : en_ld l6 2 = some (gx_r 383) := ml6 2 _ l1_2 rfl
  have l6_3 : en_ld l6 3 = some (gx_r 412) := ml6 3 _ l1_3 rfl
  have l6_4 : en_ld l6 4 = some (.inl i) := ml6 4 _ l1_4 rfl
  have l6_5 : en_ld l6 5 = some (.inl kk) := ml6 5 _ hl1 rfl
  refine ex_go (S := (1265, l6, [], tr, n, sl)) rfl (fun _ => rfl) rfl ?_
  refine gx_incS (i := 4) (a := i) (x := 7) rfl (fun _ => rfl) l6_4 (by first | decide | omega) rfl (fun l7 hl7 ml7 => ?_)
  have l7_0 : en_ld l7 0 = some (.inr (.inr (.inr (.inl 2)))) := ml7 0 _ l6_0 rfl
  have l7_1 : en_ld l7 1 = some (gx_r 0) := ml7 1 _ l6_1 rfl
  have l7_2 : en_ld l7 2 = some (gx_r 383) := ml7 2 _ l6_2 rfl
  have l7_3 : en_ld l7 3 = some (gx_r 412) := ml7 3 _ l6_3 rfl
  have l7_5 : en_ld l7 5 = some (.inl kk) := ml7 5 _ l6_5 rfl
  have l7_6 : en_ld l7 6 = some (.inl vr) := ml7 6 _ hl6 rfl
  refine ex_stop (S := (23, l7, [], tr, n, sl)) rfl (fun _ => rfl) rfl ?_
  exact ⟨_, tr, rfl, Ir, l7_0, l7_1, l7_2, l7_3, hl7⟩
theorem lw_5c {ls : en_L} {v : Nat} (g0 : ai_HG ah_G t) : en_ex none (en_u 61) tx_cT (fun _ => false) (8, ls, [.inl v, .inl 0, gx_r 412], t, n, 0) (fun o => ∃ t', o = .inl (some (.inl 0), t', n, 0) ∧ ai_HG ah_G t' ∧ ∀ c i, c ≠ 412 → ai_hv t' c i = ai_hv t c i) := by
  refine ex_go (S := (9, ls, [.inr (.inl ((nI v).toInt64.toBitVec.toNat)), .inl 0, gx_r 412], t, n, 0)) rfl (fun _ => rfl) rfl ?_
  refine gx_apv (d := 1) rfl (fun _ => rfl) g0 rfl rfl rfl (show 0 < 1 from by omega) rfl ⟨_, rfl⟩ rfl (fun t101 g101 k101 e101 => ?_)
  refine ex_go (S := (17, ls, [], t101, n, 0)) rfl (fun _ => rfl) rfl ?_
  refine ex_go (S := (18, ls, [.inl 0], t101, n, 0)) rfl (fun _ => rfl) rfl ?_
  refine ex_ret (r := (some (.inl 0), t101, n, 0)) rfl (fun _ => rfl) ?_
  exact ⟨t101, rfl, g101, fun c i h => e101 c i (by first | decide | omega)⟩
theorem lw_6a {L i : Nat} {cl : en_L} (hLv : lw_Lv Lv L) (hi : i + 7 ≤ L) (hcl : lw_cl cl i) : en_ex (some Lv) (en_u 60) en_lawc (fun pc => Nat.beq pc 489) (40, cl, [.inl 6], t, n, sl) (fun o => ∃ x, x < 4294967296 ∧ ∃ y, y < 4294967296 ∧ o = .inr (489, cl, [gx_r 412, .inl y, .inl x, gx_r 0], t, n, sl) ∧ Lv[i + 1]? = some (.inl x) ∧ Lv[i + 2]? = some (.inl y)) := by
  obtain ⟨h0, h1, h2, h3, h4⟩ := hcl
  have hL := hLv.2.1
  refine ex_go (S := (475, cl, [], t, n, sl)) rfl (fun _ => rfl) rfl ?_
  refine gx_ld (i := 1) (d := 2) (v := gx_r 0) rfl (fun _ => rfl) h1 rfl rfl ?_
  refine gx_ld (i := 0) (d := 2) (v := .inr (.inr (.inr (.inl 2)))) rfl (fun _ => rfl) h0 rfl rfl ?_
  refine gx_ld (i := 4) (d := 0) (v := .inl i) rfl (fun _ => rfl) h4 rfl rfl ?_
  refine ex_go (S := (480, cl, [.inl 1, .inl i, .inr (.inr (.inr (.inl 2))), gx_r 0], t, n, sl)) rfl (fun _ => rfl) rfl ?_
  refine ex_iadd rfl (by first | decide | omega) rfl ?_
  obtain ⟨m1, m1b, k2⟩ := hLv.2.2 (i + 1) (by first | decide | omega)
  refine gx_scr rfl k2 (by first | decide | omega) rfl ?_
  refine gx_ld (i := 0) (d := 2) (v := .inr (.inr (.inr (.inl 2)))) rfl (fun _ => rfl) h0 rfl rfl ?_
  refine gx_ld (i := 4) (d := 0) (v := .inl i) rfl (fun _ => rfl) h4 rfl rfl ?_
  refine ex_go (S := (486, cl, [.inl 2, .inl i, .inr (.inr (.inr (.inl 2))), .inl m1, gx_r 0], t, n, sl)) rfl (fun _ => rfl) rfl ?_
  refine ex_iadd rfl (by first | decide | omega) rfl ?_
  obtain ⟨m3, m3b, k4⟩ := hLv.2.2 (i + 2) (by first | decide | omega)
  refine gx_scr rfl k4 (by first | decide | omega) rfl ?_
  refine gx_ld40 (i := 3) (d := 2) (v := gx_r 412) rfl (fun _ => rfl) h3 rfl rfl ?_
  exact ⟨m1, m1b, m3, m3b, rfl, k2, k4⟩
theorem lw_6b {L i kk : Nat} {cl : en_L} (hLv : lw_Lv Lv L) (hi : i + 7 ≤ L) (hI : pi_I i t) (hcl : lw_cl cl i) : en_ex (some Lv) (en_u 60) en_lawc (fun pc => Nat.beq pc 23) (492, cl, [.inl kk], t, n, sl) (lw_nx i n sl) := by
  obtain ⟨h0, h1, h2, h3, h4⟩ := hcl
  have hL := hLv.2.1
  refine gx_sto (i := 5) (d := 0) rfl (fun _ => rfl) rfl rfl (fun l1 hl1 ml1 => ?_)
  have l1_0 : en_ld l1 0 = some (.inr (.inr (.inr (.inl 2)))) := ml1 0 _ h0 rfl
  have l1_1 : en_ld l1 1 = some (gx_r 0) := ml1 1 _ h1 rfl
  have l1_2 : en_ld l1 2 = some (gx_r 383) := ml1 2 _ h2 rfl
  have l1_3 : en_ld l1 3 = some (gx_r 412) := ml1 3 _ h3 rfl
  have l1_4 : en_ld l1 4 = some (.inl i) := ml1 4 _ h4 rfl
  refine gx_ld (i := 2) (d := 2) (v := gx_r 383) rfl (fun _ => rfl) l1_2 rfl rfl ?_
  refine gx_ld (i := 0) (d := 2) (v := .inr (.inr (.inr (.inl 2)))) rfl (fun _ => rfl) l1_0 rfl rfl ?_
  refine gx_ld (i := 4) (d := 0) (v := .inl i) rfl (fun _ => rfl) l1_4 rfl rfl ?_
  refine ex_go (S := (499, l1, [.inl 1, .inl i, .inr (.inr (.inr (.inl 2))), gx_r 383], t, n, sl)) rfl (fun _ => rfl) rfl ?_
  refine ex_iadd rfl (by first | decide | omega) rfl ?_
  obtain ⟨m2, m2b, k3⟩ := hLv.2.2 (i + 1) (by first | decide | omega)
  refine gx_scr rfl k3 (by first | decide | omega) rfl ?_
  refine gx_ld (i := 0) (d := 2) (v := .inr (.inr (.inr (.inl 2)))) rfl (fun _ => rfl) l1_0 rfl rfl ?_
  refine gx_ld (i := 4) (d := 0) (v := .inl i) rfl (fun _ => rfl) l1_4 rfl rfl ?_
  refine ex_go (S := (505, l1, [.inl 2, .inl i, .inr (.inr (.inr (.inl 2))), .inl m2, gx_r 383], t, n, sl)) rfl (fun _ => rfl) rfl ?_
  refine ex_iadd rfl (by first | decide | omega) rfl ?_
  obtain ⟨m4, m4b, k5⟩ := hLv.2.2 (i + 2) (by first | decide | omega)
  refine gx_scr rfl k5 (by first | decide | omega) rfl ?_
  obtain ⟨vr, tr, rr, gr, Ir⟩ := rr_6 (n := n) (x := m2) (y := m4) (by first | decide | omega) (by first | decide | omega) hI
  refine gx_callo (a := 383) rfl rfl hI.1 rfl rfl rfl rr rfl ?_
  show en_ex _ _ _ _ (510, l1, [.inl vr], tr, n, sl) _
  refine gx_sto (i := 6) (d := 0) rfl (fun _ => rfl) rfl rfl (fun l6 hl6 ml6 => ?_)
  have l6_0 : en_ld l6 0 = some (.inr (.inr (.inr (.inl 2)))) := ml6 0 _ l1_0 rfl
  have l6_1 : en_ld l6 1 = some (gx_r 0) := ml6 1 _ l1_1 rfl
  have l6_2 : en_ld l6 2 = some (gx_r 383) := ml6 2 _ l1_2 rfl
  have l6_3 : en_ld l6 3 = some (gx_r 412) := ml6 3 _ l1_3 rfl
  have l6_4 : en_ld l6 4 = some (.inl i) := ml6 4 _ l1_4 rfl
  have l6_5 : en_ld l6 5 = some (.inl kk) := ml6 5 _ hl1 rfl
  refine ex_go (S := (1265, l6, [], tr, n, sl)) rfl (fun _ => rfl) rfl ?_
  refine gx_incS (i := 4) (a := i) (x := 7) rfl (fun _ => rfl) l6_4 (by first | decide | omega) rfl (fun l7 hl7 ml7 => ?_)
  have l7_0 : en_ld l7 0 = some (.inr (.inr (.inr (.inl 2)))) := ml7 0 _ l6_0 rfl
  have l7_1 : en_ld l7 1 = some (gx_r 0) := ml7 1 _ l6_1 rfl
  have l7_2 : en_ld l7 2 = some (gx_r 383) := ml7 2 _ l6_2 rfl
  have l7_3 : en_ld l7 3 = some (gx_r 412) := ml7 3 _ l6_3 rfl
  have l7_5 : en_ld l7 5 = some (.inl kk) := ml7 5 _ l6_5 rfl
  have l7_6 : en_ld l7 6 = some (.inl vr) := ml7 6 _ hl6 rfl
  refine ex_stop (S := (23, l7, [], tr, n, sl)) rfl (fun _ => rfl) rfl ?_
  exact ⟨_, tr, rfl, Ir, l7_0, l7_1, l7_2, l7_3, hl7⟩
theorem lw_6c {ls : en_L} {v : Nat} (g0 : ai_HG ah_G t) : en_ex none (en_u 61) tx_cC (fun _ => false) (8, ls, [.inl v, .inl 0, gx_r 412], t, n, 0) (fun o => ∃ t', o = .inl (some (.inl 0), t', n, 0) ∧ ai_HG ah_G t' ∧ ∀ c i, c ≠ 412 → ai_hv t' c i = ai_hv t c i) := by
  refine ex_go (S := (9, ls, [.inr (.inl ((nI v).toInt64.toBitVec.toNat)), .inl 0, gx_r 412], t, n, 0)) rfl (fun _ => rfl) rfl ?_
  refine gx_apv (d := 1) rfl (fun _ => rfl) g0 rfl rfl rfl (show 0 < 1 from by omega) rfl ⟨_, rfl⟩ rfl (fun t101 g101 k101 e101 => ?_)
  refine ex_go (S := (17, ls, [], t101, n, 0)) rfl (fun _ => rfl) rfl ?_
  refine ex_go (S := (18, ls, [.inl 0], t101, n, 0)) rfl (fun _ => rfl) rfl ?_
  refine ex_ret (r := (some (.inl 0), t101, n, 0)) rfl (fun _ => rfl) ?_
  exact ⟨t101, rfl, g101, fun c i h => e101 c i (by first | decide | omega)⟩
theorem lw_21a {L i : Nat} {cl : en_L} (hLv : lw_Lv Lv L) (hi : i + 7 ≤ L) (hcl : lw_cl cl i) : en_ex (some Lv) (en_u 60) en_lawc (fun pc => Nat.beq pc 951) (40, cl, [.inl 21], t, n, sl) (fun o => o = .inr (951, cl, [gx_r 412, gx_r 0], t, n, sl)) := by
  obtain ⟨h0, h1, h2, h3, h4⟩ := hcl
  have hL := hLv.2.1
  refine ex_go (S := (949, cl, [], t, n, sl)) rfl (fun _ => rfl) rfl ?_
  refine gx_ld (i := 1) (d := 2) (v := gx_r 0) rfl (fun _ => rfl) h1 rfl rfl ?_
  refine gx_ld40 (i := 3) (d := 2) (v := gx_r 412) rfl (fun _ => rfl) h3 rfl rfl ?_
  exact rfl
theorem lw_21b {L i kk : Nat} {cl : en_L} (hLv : lw_Lv Lv L) (hi : i + 7 ≤ L) (hI : pi_I i t) (hcl : lw_cl cl i) : en_ex (some Lv) (en_u 60) en_lawc (fun pc => Nat.beq pc 23) (954, cl, [.inl kk], t, n, sl) (lw_nx i n sl) := by
  obtain ⟨h0, h1, h2, h3, h4⟩ := hcl
  have hL := hLv.2.1
  refine gx_sto (i := 5) (d := 0) rfl (fun _ => rfl) rfl rfl (fun l1 hl1 ml1 => ?_)
  have l1_0 : en_ld l1 0 = some (.inr (.inr (.inr (.inl 2)))) := ml1 0 _ h0 rfl
  have l1_1 : en_ld l1 1 = some (gx_r 0) := ml1 1 _ h1 rfl
  have l1_2 : en_ld l1 2 = some (gx_r 383) := ml1 2 _ h2 rfl
  have l1_3 : en_ld l1 3 = some (gx_r 412) := ml1 3 _ h3 rfl
  have l1_4 : en_ld l1 4 = some (.inl i) := ml1 4 _ h4 rfl
  refine gx_ld (i := 2) (d := 2) (v := gx_r 383) rfl (fun _ => rfl) l1_2 rfl rfl ?_
  obtain ⟨vr, tr, rr, gr, Ir⟩ := rr_21 (n := n) hI
  refine gx_callo (a := 383) rfl rfl hI.1 rfl rfl rfl rr rfl ?_
  show en_ex _ _ _ _ (960, l1, [.inl vr], tr, n, sl) _
  refine gx_sto (i := 6) (d := 0) rfl (fun _ => rfl) rfl rfl (fun l2 hl2 ml2 => ?_)
  have l2_0 : en_ld l2 0 = some (.inr (.inr (.inr (.inl 2)))) := ml2 0 _ l1_0 rfl
  have l2_1 : en_ld l2 1 = some (gx_r 0) := ml2 1 _ l1_1 rfl
  have l2_2 : en_ld l2 2 = some (gx_r 383) := ml2 2 _ l1_2 rfl
  have l2_3 : en_ld l2 3 = some (gx_r 412) := ml2 3 _ l1_3 rfl
  have l2_4 : en_ld l2 4 = some (.inl i) := ml2 4 _ l1_4 rfl
  have l2_5 : en_ld l2 5 = some (.inl kk) := ml2 5 _ hl1 rfl
  refine ex_go (S := (1265, l2, [], tr, n, sl)) rfl (fun _ => rfl) rfl ?_
  refine gx_incS (i := 4) (a := i) (x := 7) rfl (fun _ => rfl) l2_4 (by first | decide | omega) rfl (fun l3 hl3 ml3 => ?_)
  have l3_0 : en_ld l3 0 = some (.inr (.inr (.inr (.inl 2)))) := ml3 0 _ l2_0 rfl
  have l3_1 : en_ld l3 1 = some (gx_r 0) := ml3 1 _ l2_1 rfl
  have l3_2 : en_ld l3 2 = some (gx_r 383) := ml3 2 _ l2_2 rfl
  have l3_3 : en_ld l3 3 = some (gx_r 412) := ml3 3 _ l2_3 rfl
  have l3_5 : en_ld l3 5 = some (.inl kk) := ml3 5 _ l2_5 rfl
  have l3_6 : en_ld l3 6 = some (.inl vr) := ml3 6 _ hl2 rfl
  refine ex_stop (S := (23, l3, [], tr, n, sl)) rfl (fun _ => rfl) rfl ?_
  exact ⟨_, tr, rfl, Ir, l3_0, l3_1, l3_2, l3_3, hl3⟩
theorem lw_21c {ls : en_L} {v : Nat} (g0 : ai_HG ah_G t) : en_ex none (en_u 61) tx_cS (fun _ => false) (6, ls, [.inl v, .inl 0, gx_r 412], t, n, 0) (fun o => ∃ t', o = .inl (some (.inl 0), t', n, 0) ∧ ai_HG ah_G t' ∧ ∀ c i, c ≠ 412 → ai_hv t' c i = ai_hv t c i) := by
  refine ex_go (S := (7, ls, [.inr (.inl ((nI v).toInt64.toBitVec.toNat)), .inl 0, gx_r 412], t, n, 0)) rfl (fun _ => rfl) rfl ?_
  refine gx_apv (d := 1) rfl (fun _ => rfl) g0 rfl rfl rfl (show 0 < 1 from by omega) rfl ⟨_, rfl⟩ rfl (fun t101 g101 k101 e101 => ?_)
  refine ex_go (S := (14, ls, [], t101, n, 0)) rfl (fun _ => rfl) rfl ?_
  refine ex_go (S := (15, ls, [.inl 0], t101, n, 0)) rfl (fun _ => rfl) rfl ?_
  refine ex_ret (r := (some (.inl 0), t101, n, 0)) rfl (fun _ => rfl) ?_
  exact ⟨t101, rfl, g101, fun c i h => e101 c i (by first | decide | omega)⟩
end
end PKH
