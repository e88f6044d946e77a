section ENV
noncomputable def tx_NW : List Cond := [.castable tx_N tx_N, .declares (Bundle.initS tx_R), .declares (Bundle.initS "java/lang/Exception"), .declares (Bundle.initS Bundle.tN)]
/-- what a throw needs of the world -/
noncomputable def tx_K (ba is : Nat) (tx : String) (sa : Nat) (U : State) : Prop := (vx_Zq Bundle.tN "UNASSIGNED_STACK" Bundle.steD (fun q => ba ≤ q) U U.heap ∧ vx_Zq Bundle.tN "SUPPRESSED_SENTINEL" Bundle.listD (fun q => ba ≤ q) U U.heap) ∧ vk_R "PackWeeks" is tx sa U ∧ ∀ w ∈ tx_NW, va_Nw w U
theorem tx_NW_on : ∀ w ∈ tx_NW, w.onTables = true := by
  intro w hw
  simp only [tx_NW, List.mem_cons, List.not_mem_nil, or_false] at hw
  rcases hw with rfl | rfl | rfl | rfl <;> rfl
theorem tx_K.at {ba is sa : Nat} {tx : String} {s U : State} {locs : List Loc} (h : tx_K ba is tx sa s) (hW : s.WarmedH U.vm) (hS : va_S (fun q => ba ≤ q) s.heap U.heap locs) : tx_K ba is tx sa U := by
  refine ⟨⟨vx_Zq.moved hW.alike (h.1.1.kept hS.2.1), vx_Zq.moved hW.alike (h.1.2.kept hS.2.1)⟩, vk_R.warm hW h.2.1, fun w hw => ?_⟩
  have h9 := h.2.2 w hw
  simp only [tx_NW, List.mem_cons, List.not_mem_nil, or_false] at hw
  rcases hw with rfl | rfl | rfl | rfl
  · exact va_Nw.warmC hW h9
  · exact va_Nw.warmD hW h9
  · exact va_Nw.warmD hW h9
  · exact va_Nw.warmD hW h9
theorem tx_K.blind {ba is sa : Nat} {tx : String} {U : State} (g : JFrame) (mk : MethodId) (a : Array Value) (h : tx_K ba is tx sa U) : tx_K ba is tx sa (U.calling g mk a) :=
  ⟨⟨vx_Zq.moved (u := U) (U := U.calling g mk a) (Vm.Alike.refl U.vm) h.1.1, vx_Zq.moved (u := U) (U := U.calling g mk a) (Vm.Alike.refl U.vm) h.1.2⟩, vk_R.same (u := U) (U := U.calling g mk a) rfl h.2.1, fun w hw => va_Nw.same (tx_NW_on w hw) (u := U) (U := U.calling g mk a) rfl (h.2.2 w hw)⟩
noncomputable def tx_Pc (ba : Nat) (ex : Nat → Nat) (cA : Nat → ClassId) (D : va_G) (is : Nat) (tx : String) (sa : Nat) (as : List en_V) (t : en_H) (n : Nat) : Array Value → State → Prop := fun a U => en_Pc ba ex cA D as t n a U ∧ tx_K ba is tx sa U
theorem tx_Pc_blind {ba : Nat} {ex : Nat → Nat} {cA : Nat → ClassId} {D : va_G} {is sa : Nat} {tx : String} {as : List en_V} {t : en_H} {n : Nat} : FrameBlind (tx_Pc ba ex cA D is tx sa as t n) := fun a U g mk h => ⟨en_Pc_blind a U g mk h.1, h.2.blind g mk a⟩
noncomputable def tx_XC (ba : Nat) (ex : Nat → Nat) (cA : Nat → ClassId) (D : va_G) (t : en_H) (n : Nat) : String → State → State → Prop := fun E st u => E = tx_N ∧ en_P ba ex cA D t (n + 1) u.heap ∧ va_F (fun q => ba ≤ q) st u
theorem tx_more {ba : Nat} {ex : Nat → Nat} {cA : Nat → ClassId} {D : va_G} {t : en_H} {n : Nat} {H H1 : Heap} (h : en_P ba ex cA D t n H) (hz : H1.size = H.size + 1) (ho : ∀ q : Nat, q < H.size → H1[q]? = H[q]?) : en_P ba ex cA D t (n + 1) H1 := by
  refine ⟨by rw [hz, h.1]; omega, fun k c hk => ?_⟩
  rcases h.2 k c hk with r | r
  · exact Or.inl r
  · exact Or.inr (r.kept (ho _ r.lt))
noncomputable def tx_ws : List Cond := Cond.classLink "PackWeeks" 143 tx_N :: Cond.initialized tx_N :: (tx_at "PackWeeks" 147).filter vx_no
set_option maxRecDepth 1000000 in
theorem tx_ws_ok : tx_ws.all (fun w => vx_ot w && ((goodWord w && (decide (w ∈ (lw_tbl.drop 1286).take 80) || decide (w ∈ (lw_tbl.drop 140).take 20))) || decide (w ∈ tx_NW))) = true := by decide +kernel
theorem tx_ws_ot : ∀ w ∈ tx_ws, vx_ot w = true := fun w hw => by
  have h := List.all_eq_true.mp tx_ws_ok w hw
  simp only [Bool.and_eq_true] at h
  exact h.1
theorem tx_ws_at {args : Array Value} {s : State} (hts : ∀ w ∈ en_gt, w.before args s = true) (hN : ∀ w ∈ tx_NW, va_Nw w s) : ∀ w ∈ tx_ws, w.before args s = true := fun w hw => by
  have h := List.all_eq_true.mp tx_ws_ok w hw
  simp only [Bool.and_eq_true, Bool.or_eq_true, decide_eq_true_eq] at h
  rcases h.2 with h | h
  · refine hts w (List.mem_filter.mpr ⟨?_, h.1⟩)
    rcases h.2 with h | h
    · exact List.mem_of_mem_drop (List.mem_of_mem_take h)
    · exact List.mem_of_mem_drop (List.mem_of_mem_take h)
  · exact va_Nw.use (tx_NW_on w h) (hN w h)
/-- a method of the object that throws: from its entry to the throw by the engine, then the throw -/
theorem tx_met {l : Launch} (hl : l.stackTraces = false) {ba : Nat} {ex : Nat → Nat} {cA : Nat → ClassId} {D : va_G} {is sa mi pc0 fuel : Nat} {tx : String} {q : en_M} (hi : en_nth en_inf mi = some q) (hpn : plainName q.1.cls = true) (hc9 : q.2.2.2.2.2.2 = 9) {as : List en_V} {t t1 : en_H} {n : Nat} {ls : en_L} (hsum : en_sum as ≤ q.2.2.1)
    (hrun : en_run en_df none (en_u 60) (en_code mi) (fun pc => Nat.beq pc pc0) fuel 0 (en_args as 0) [] t n 0 = some (.inr (pc0, ls, [], t1, n, 0)))
    (d0 : decode q.2.1 pc0 = .ok (.new 143, 3)) (d3 : decode q.2.1 (pc0 + 3) = .ok (.dup, 1)) (d4 : decode q.2.1 (pc0 + 4) = .ok (.ldc is, 2)) (d6 : decode q.2.1 (pc0 + 6) = .ok (.invokespecial 147, 3)) (d9 : decode q.2.1 (pc0 + 9) = .ok (.athrow, 1)) :
    vx_Met l q.1 (en_ws q) (en_rm 61 1 6) (tx_Pc ba ex cA D is tx sa as t n) (fun _ _ _ _ => False) (tx_XC ba ex cA D t1 n) 1 6 (fun x => ba ≤ x) := by
  have hq := en_mi hi
  have hcode := en_code_ok mi q hi
  have hf := en_u_hf l ba ex cA D 60
  refine vx_ofW (cc := q.2.1) (maxL := q.2.2.1) (ret := q.2.2.2.1) hpn rfl ?_
  intro p e s m args below meth c s₁ B hml hex9 hv
  obtain ⟨⟨⟨vs, rfl, hvs⟩, hP, hK⟩, hX⟩ := hv
  have hts : ∀ w ∈ en_gt, w.before vs.toArray s = true := fun w hw => atoms_spec (ws := en_ws q) B.pre w (List.mem_cons_of_mem _ hw)
  have hown : s.vm.findClass q.1.cls = some m.cls := findClass_of_methodNamed B.named
  rw [hq.2.1] at hown
  rw [lg_entry_eq]
  have hle : (lg_sl vs).length ≤ q.2.2.1 := by rw [en_args_len hvs, ← en_sum_eq]; exact hsum
  have hl0 := lv_entry vs hle
  have hn1 : n + 1 - n = 1 := by omega
  have Cx : en_Cx p (headSpec (en_ws q) (en_rm 61 1 6)).room s m vs.toArray meth c ba ex cA D q.2.2.1 n (n + 1) 6 q 60 := ⟨B.exec, B.bytes, hml, rfl, hown, hts, hK, B.notSynchronized, B.returns, (name_of_methodNamed B.named B.method).1, Nat.le_refl _, Nat.le_refl _, by rw [hn1]; exact Nat.le_refl _, Nat.le_refl _⟩
  have hws := tx_ws_at hts hX.2.2
  rw [hc9] at hown
  have TX : en_T p l e (headSpec (en_ws q) (en_rm 61 1 6)).room s m vs.toArray below meth c (vx_MQ below (fun _ _ _ _ => False) (tx_XC ba ex cA D t1 n) vs.toArray s 1 6 (fun x => ba ≤ x)) ba ex cA D q.2.2.1 n (n + 1) 6 (pc0, ls, [], t1, n, 0) := by
    refine ⟨Nat.le_succ n, Nat.zero_le 6, fun H locs la vs9 hl' hv' hP' hS => ?_⟩
    have hv' := en_rvs_nil hv'
    subst hv'
    obtain ⟨vl, hl1, hl2⟩ := hl'
    show W p l e _ s m vs.toArray below meth c H locs (n - n) 0 _ _
    rw [Nat.sub_self]
    exact tx_throw (ik := 143) (ic := 147) (own := "PackWeeks") (A := fun q => ba ≤ q) B.exec B.bytes hl hown (hws _ List.mem_cons_self) (hws _ (List.mem_cons_of_mem _ List.mem_cons_self)) hX.2.1 (fun w hw => hws w (List.mem_cons_of_mem _ (List.mem_cons_of_mem _ hw))) tx_ws_ot hX.1.1 hX.1.2 hS (hl1.1.trans hml.symm) d0 d3 d4 d6 d9 (fun z hz => absurd hz (fun z9 => hex9 z z9)) (show 5 < 61 by decide) (show 0 + 82 ≤ 64 * 61 by decide) (show 0 + 1 ≤ 1 by decide) (show 0 + 6 ≤ 6 by decide) B.notSynchronized
      (fun t9 _ hz ho => ⟨rfl, tx_more hP' hz ho, by rw [hz]; exact Nat.le_succ_of_le hS.1, fun z h1 h2 => by rw [ho z (Nat.lt_of_lt_of_le h1 hS.1)]; exact hS.2.1 z h1 h2⟩) hS.2.2 (by decide) (by decide)
  have T0 := en_sound (l := l) (e := e) (below := below) (oc := none) (stop := fun pc => Nat.beq pc pc0) Cx (fun L h => by cases h) hf hcode fuel 0 _ _ _ _ _ _ (Nat.le_refl n) hrun (fun r' hr => by cases hr) (fun S hS => by cases hS; exact TX)
  have K := T0.2.2 s.heap [] _ [] ⟨_, hl0, en_args_ok 0 hvs⟩ trivial hP va_S.rf
  dsimp only at K
  rw [Nat.sub_self] at K
  exact K
end ENV
