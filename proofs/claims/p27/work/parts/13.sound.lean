section END1
section
variable {p : Program} {l : Launch} {e : Env} {R : Room} {s : State} {m : MethodId} {args : Array Value} {below : List Frame} {meth : Method} {c : Code}
variable {ba : Nat} {ex : Nat → Nat} {cA : Nat → ClassId} {D : va_G} {nL n0 : Nat}
/-- what holds while a method of ours runs -/
noncomputable def en_Cx (p : Program) (R : Room) (s : State) (m : MethodId) (args : Array Value) (meth : Method) (c : Code) (ba : Nat) (ex : Nat → Nat) (cA : Nat → ClassId) (D : va_G) (nL n0 N SL : Nat) (q : en_M) (d : Nat) : Prop :=
  p.tables.exec = Jvm.exec ∧ c.code = q.2.1 ∧ c.maxLocals = nL ∧ nL = q.2.2.1 ∧ s.vm.findClass (en_cn q.2.2.2.2.2.2) = some m.cls ∧ (∀ w ∈ en_gt, w.before args s = true) ∧ en_Kw ba ex cA D s ∧ meth.locks = false ∧ meth.sig.returnType = q.2.2.2.1 ∧ meth.name = q.1.name ∧ d + 1 ≤ R.frames ∧ 64 * (d + 1) ≤ R.locals ∧ N - n0 ≤ R.cells ∧ SL ≤ R.slots
theorem en_fill_ok {m : Nat} {t : en_H} {n : Nat} : ∀ (i : Nat) {u : en_H}, en_fill m t n i = some u → ∀ k, en_get u k = if n ≤ k ∧ k < n + i then some (.inl (0, en_rep m (.inl 0))) else en_get t k
  | 0, u, h, k => by
    have h : some t = some u := h
    cases h
    rw [if_neg (by first | decide | omega)]
  | i + 1, u, h, k => by
    have h : (match en_fill m t n i with
      | some u => bif en_free u (n + i) then some (en_set u (n + i) (.inl (0, en_rep m (.inl 0)))) else none
      | none => none) = some u := h
    split at h
    · rename_i v hv
      obtain ⟨h1, h⟩ := en_bif h
      obtain ⟨c, hc⟩ := en_free_inv h1
      cases h
      rw [en_get_set hc, en_fill_ok i hv k]
      by_cases e1 : k = n + i
      · rw [if_pos e1, if_pos (by first | decide | omega)]
      · rw [if_neg e1]
        by_cases e2 : n ≤ k ∧ k < n + i
        · rw [if_pos e2, if_pos (by first | decide | omega)]
        · rw [if_neg e2, if_neg (by first | decide | omega)]
    · cases h
theorem en_refs_ok {ba : Nat} {ex : Nat → Nat} : ∀ (w a : Nat), en_rvs ba ex (en_refs a w) ((List.range' a w).map (fun j => Value.ref (ba + j)))
  | 0, a => trivial
  | w + 1, a => by
    rw [List.range'_succ, List.map_cons]
    exact ⟨rfl, en_refs_ok w (a + 1)⟩
theorem en_a_multi {Q : State → Prop} {N SL : Nat} {cc : ByteArray} {pc : Nat} {ls : en_L} {st : List en_V} {t u : en_H} {n sl i m9 w9 : Nat} {c0 : en_C} {own : String} (hx : p.tables.exec = Jvm.exec) (hb : c.code = cc) (hown : s.vm.findClass own = some m.cls) (hts : ∀ w ∈ en_gt, w.before args s = true) (hK : en_Kw ba ex cA D s) (hn0 : n0 ≤ n) (hRc : N - n0 ≤ R.cells) (hRs : SL ≤ R.slots) (hT : en_T p l e R s m args below meth c Q ba ex cA D nL n0 N SL (pc + 4, ls, .inr (.inr (.inl (some n))) :: st, u, n + 1 + w9, sl + w9 + w9 * m9)) (hg : en_get t n = some c0) (hm : m9 ≤ 60000) (hw : w9 ≤ 60000)
    (hf : en_fill m9 (en_set t n (.inl (7, en_refs (n + 1) w9))) (n + 1) w9 = some u) (h1 : Cond.classLink own i ("[" ++ (FieldType.array .int).toString) ∈ en_gt) (hd : decode cc pc = .ok (.multianewarray i 2, 4)) : en_T p l e R s m args below meth c Q ba ex cA D nL n0 N SL (pc, ls, .inl m9 :: .inl w9 :: st, t, n, sl) := by
  have hN : n + 1 + w9 ≤ N := hT.1
  have hSL : sl + w9 + w9 * m9 ≤ SL := hT.2.1
  refine ⟨by show n ≤ N; omega, by show sl ≤ SL; omega, fun H locs la vs hl' hv' hP hS => ?_⟩
  obtain ⟨v1, ws, rfl, f1, hw1⟩ := en_rvs_cons hv'
  obtain ⟨v2, ws, rfl, f2, hw2⟩ := en_rvs_cons hw1
  have f1 : v1 = .int (nI m9) := f1
  have f2 : v2 = .int (nI w9) := f2
  subst f1
  subst f2
  have hm31 : m9 < 2147483648 := by omega
  have hw31 : w9 < 2147483648 := by omega
  have cm : (nI m9).toNatClampNeg = m9 := nI_clamp hm31
  have cw : (nI w9).toNatClampNeg = w9 := nI_clamp hw31
  obtain ⟨⟨k7, g1, g2⟩, k0, c9, g3, g4⟩ := hK.2.2.2.2
  have hf7 : s.vm.findClass ("[" ++ (FieldType.array .int).toString) = some (cA 7) := (en_ty hK.1 7 rfl).2
  refine en_W_multi hx hb hown (hts _ h1) hf7 g1 g2 g3 g4 hd (nI_pos hw31) (nI_pos hm31) (by rw [cw]; exact hw) (by rw [cm]; exact hm) (by rw [cw]; show n - n0 + _ ≤ _; omega) (by rw [cw, cm]; show sl + _ ≤ _; omega) (fun H1 locs1 z1 z2 z3 z4 z5 => ?_)
  rw [cw] at z1 z3 z4
  rw [cm] at z4
  rw [cw, cm]
  have hz := hP.1
  dsimp only at hz
  have hP1 : en_P ba ex cA D u (n + 1 + w9) H1 := by
    refine ⟨by rw [z1, hz]; omega, fun k cl hk => ?_⟩
    rw [en_fill_ok w9 hf k] at hk
    by_cases e1 : n + 1 ≤ k ∧ k < n + 1 + w9
    · rw [if_pos e1] at hk
      cases hk
      refine Or.inr ⟨List.replicate m9 (.int 0), ?_, ?_⟩
      · show en_rvs ba ex (en_rep m9 (.inl 0)) _
        rw [en_rep_eq]
        exact en_rvs_rep m9 rfl
      · have := z4 (k - (n + 1)) (by first | decide | omega)
        rw [show H.size + 1 + (k - (n + 1)) = ba + k by rw [hz]; omega] at this
        rw [this, List.length_replicate]
        exact congrArg some (en_arrV_congr (fun j hj => by unfold vp_V; rw [List.getD_eq_getElem?_getD, List.getElem?_replicate, if_pos hj]; rfl))
    · rw [if_neg e1, en_get_set hg] at hk
      by_cases e2 : k = n
      · rw [if_pos e2] at hk
        cases hk
        subst e2
        refine Or.inr ⟨(List.range' (k + 1) w9).map (fun j => Value.ref (ba + j)), en_refs_ok w9 (k + 1), ?_⟩
        rw [← hz, z3, List.length_map, List.length_range']
        refine congrArg some (en_arrV_congr (fun j hj => ?_))
        unfold vp_V
        rw [List.getD_eq_getElem?_getD, List.getElem?_map, List.getElem?_range' hj]
        show Value.ref (H.size + 1 + j) = Value.ref (ba + (k + 1 + 1 * j))
        rw [hz, show ba + k + 1 + j = ba + (k + 1 + 1 * j) by omega]
      · rw [if_neg e2] at hk
        rcases hP.2 k cl hk with r | r
        · exact Or.inl r
        · exact Or.inr (r.kept (z5 _ r.lt))
  have hS1 : va_S (fun q => ba ≤ q) s.heap H1 locs1 := ⟨Nat.le_trans hS.1 (by rw [z1]; omega), fun q h1 h2 => (z5 q (Nat.lt_of_lt_of_le h1 hS.1)).trans (hS.2.1 q h1 h2), fun q hq => by
    rcases z2 q hq with h | h
    · exact hS.2.2 q h
    · show ba ≤ q.base
      rw [h, hz]
      omega⟩
  have K := hT.2.2 H1 locs1 la (.ref (ba + n) :: ws) hl' ⟨rfl, hw2⟩ hP1 hS1
  dsimp only at K ⊢
  rw [show n + 1 + w9 - n0 = n - n0 + 1 + w9 by omega] at K
  rw [hz]
  exact K
set_option maxHeartbeats 4000000 in
set_option maxRecDepth 100000 in
theorem en_stepok {Q : State → Prop} {N SL : Nat} {oc : Option (List en_V)} {q : en_M} {d : Nat} {f : en_F} (C0 : en_Cx p R s m args meth c ba ex cA D nL n0 N SL q d) (ho : ∀ L, oc = some L → ∃ xs : Nat → Int32, va_X (ex 1) L.length xs s s.heap ∧ ex 1 < s.heap.size ∧ ¬ ba ≤ ex 1 ∧ ∀ i v, L[i]? = some v → en_rv ba ex v (.int (xs i))) (hf : ∀ (mi : Nat) (as : List en_V) (t : en_H) (n : Nat) (r : en_R) (q9 : en_M), f mi as t n = some r → en_nth en_inf mi = some q9 → en_Met l ba ex cA D d q9 as t n r)
    {pc nx x1 x2 : Nat} {ins : Instr} {ls : en_L} {st : List en_V} {t : en_H} {n sl : Nat} {k : en_K} {o : en_O} (hn0 : n0 ≤ n) (hok : en_ok q pc (ins, nx, x1, x2) = true) (h : en_step en_df oc f pc (ins, nx, x1, x2) ls st t n sl k = some o)
    (hk : ∀ (pc' : Nat) (ls' : en_L) (st' : List en_V) (t' : en_H) (n' sl' : Nat), n0 ≤ n' → k pc' ls' st' t' n' sl' = some o → en_T p l e R s m args below meth c Q ba ex cA D nL n0 N SL (pc', ls', st', t', n', sl')) (hG : ∀ r : en_R, o = .inl r → Q = MQ below (en_Qc ba ex cA D r) args s (r.2.2.1 - n0) r.2.2.2 (fun x => ba ≤ x) ∧ N = r.2.2.1 ∧ SL = r.2.2.2) : en_T p l e R s m args below meth c Q ba ex cA D nL n0 N SL (pc, ls, st, t, n, sl) := by
  obtain ⟨hx, hb, hml, hnl, hown, hts, hK, hlk, hret, hname, hRf, hRl, hRc, hRs⟩ := C0
  unfold en_ok en_okm at hok
  rw [Bool.and_eq_true] at hok
  obtain ⟨hdec, hok⟩ := hok
  have hd := en_dec_ok hdec
  unfold en_step en_disp at h
  cases ins <;> dsimp only at h hok hd
  case iconst i =>
    simp only [Bool.and_eq_true, decide_eq_true_eq] at hok
    obtain ⟨h1, h2⟩ := hok
    replace hd := en_dec_k hd h1
    subst h1
    exact en_push (hk _ _ _ _ _ _ hn0 h) (fun H locs la vs K => lv_iconst hx hb hd h2 (K _ rfl))
  case bipush i =>
    simp only [Bool.and_eq_true, decide_eq_true_eq] at hok
    obtain ⟨h1, h2⟩ := hok
    replace hd := en_dec_k hd h1
    subst h1
    exact en_push (hk _ _ _ _ _ _ hn0 h) (fun H locs la vs K => lv_bipush hx hb hd h2 (K _ rfl))
  case sipush i =>
    simp only [Bool.and_eq_true, decide_eq_true_eq] at hok
    obtain ⟨h1, h2⟩ := hok
    replace hd := en_dec_k hd h1
    subst h1
    exact en_push (hk _ _ _ _ _ _ hn0 h) (fun H locs la vs K => lv_sipush hx hb hd h2 (K _ rfl))
  case ldc i =>
    simp only [Bool.and_eq_true, decide_eq_true_eq] at hok
    obtain ⟨h1, h2⟩ := hok
    replace hd := en_dec_k hd h1
    subst h1
    obtain ⟨w, hw, h3⟩ := List.any_eq_true.mp h2
    simp only [Bool.and_eq_true, decide_eq_true_eq] at h3
    obtain ⟨e1, e2, e3⟩ := h3
    have h4 := en_tb_mem (List.all_eq_true.mp en_KL_ok w hw)
    rw [e1, e2, e3] at h4
    exact en_push (hk _ _ _ _ _ _ hn0 h) (fun H locs la vs K => lv_ldc hx hb hown (hts _ h4) hd (K _ rfl))
  case ldc_w i =>
    simp only [Bool.and_eq_true, decide_eq_true_eq] at hok
    obtain ⟨h1, h2⟩ := hok
    replace hd := en_dec_k hd h1
    subst h1
    obtain ⟨w, hw, h3⟩ := List.any_eq_true.mp h2
    simp only [Bool.and_eq_true, decide_eq_true_eq] at h3
    obtain ⟨e1, e2, e3⟩ := h3
    have h4 := en_tb_mem (List.all_eq_true.mp en_KL_ok w hw)
    rw [e1, e2, e3] at h4
    exact en_push (hk _ _ _ _ _ _ hn0 h) (fun H locs la vs K => lv_ldcw hx hb hown (hts _ h4) hd (K _ rfl))
  case lconst i =>
    simp only [Bool.and_eq_true, decide_eq_true_eq] at hok
    obtain ⟨h1, h2⟩ := hok
    replace hd := en_dec_k hd h1
    subst h1
    exact en_push (hk _ _ _ _ _ _ hn0 h) (fun H locs la vs K => lv_lconst hx hb hd h2 (K _ rfl))
  case ldc2_w i =>
    simp only [Bool.and_eq_true, decide_eq_true_eq] at hok
    obtain ⟨h1, h2⟩ := hok
    replace hd := en_dec_k hd h1
    subst h1
    obtain ⟨w, hw, h3⟩ := List.any_eq_true.mp h2
    simp only [Bool.and_eq_true, decide_eq_true_eq] at h3
    obtain ⟨e1, e2, e3⟩ := h3
    have h4 := en_tb_mem (List.all_eq_true.mp en_LL_ok w hw)
    rw [e1, e2, e3] at h4
    exact en_push (hk _ _ _ _ _ _ hn0 h) (fun H locs la vs K => lv_ldc2 hx hb hown (hts _ h4) hd (K _ rfl))
  case aconst_null =>
    simp only [decide_eq_true_eq] at hok
    replace hd := en_dec_k hd hok
    subst hok
    exact en_push (hk _ _ _ _ _ _ hn0 h) (fun H locs la vs K => lv_null hx hb hd (K _ rfl))
  case iload i =>
    simp only [decide_eq_true_eq] at hok
    replace hd := en_dec_k hd hok
    subst hok
    obtain ⟨a, g1, g2, g3⟩ := en_load_inv h
    exact en_loadi (hk _ _ _ _ _ _ hn0 g3) g1 g2 (fun H locs la vs x hl K => lv_iload hx hb hd hl K)
  case iload_n i =>
    simp only [decide_eq_true_eq] at hok
    replace hd := en_dec_k hd hok
    subst hok
    obtain ⟨a, g1, g2, g3⟩ := en_load_inv h
    exact en_loadi (hk _ _ _ _ _ _ hn0 g3) g1 g2 (fun H locs la vs x hl K => lv_iload_n hx hb hd rfl hl K)
  case lload i =>
    simp only [decide_eq_true_eq] at hok
    replace hd := en_dec_k hd hok
    subst hok
    obtain ⟨a, g1, g2, g3⟩ := en_load_inv h
    exact en_loadl (hk _ _ _ _ _ _ hn0 g3) g1 g2 (fun H locs la vs x hl K => lv_lload hx hb hd hl K)
  case lload_n i =>
    simp only [decide_eq_true_eq] at hok
    replace hd := en_dec_k hd hok
    subst hok
    obtain ⟨a, g1, g2, g3⟩ := en_load_inv h
    exact en_loadl (hk _ _ _ _ _ _ hn0 g3) g1 g2 (fun H locs la vs x hl K => lv_lload_n hx hb hd rfl hl K)
  case aload i =>
    simp only [decide_eq_true_eq] at hok
    replace hd := en_dec_k hd hok
    subst hok
    obtain ⟨a, g1, g2, g3⟩ := en_load_inv h
    exact en_loada (hk _ _ _ _ _ _ hn0 g3) g1 g2 (fun H locs la vs hl K => lv_aloadN hx hb hd hl K) (fun H locs la vs x hl K => lv_aload hx hb hd hl K)
  case aload_n i =>
    simp only [decide_eq_true_eq] at hok
    replace hd := en_dec_k hd hok
    subst hok
    obtain ⟨a, g1, g2, g3⟩ := en_load_inv h
    exact en_loada (hk _ _ _ _ _ _ hn0 g3) g1 g2 (fun H locs la vs hl K => lv_aload_nN hx hb hd rfl hl K) (fun H locs la vs x hl K => lv_aload_n hx hb hd rfl hl K)
  case istore i =>
    simp only [Bool.and_eq_true, decide_eq_true_eq] at hok
    obtain ⟨h1, h2⟩ := hok
    replace hd := en_dec_k hd h1
    subst h1
    obtain ⟨a, r, rfl, g2, g3⟩ := en_store_inv h
    exact en_sto1 (hk _ _ _ _ _ _ hn0 g3) (fun H locs la vs vl v hl hv K => by
      obtain ⟨x, rfl⟩ := en_kd0 hv g2
      exact lv_istore hx hb hd hl (by rw [hnl]; exact h2) rfl K)
  case istore_n i =>
    simp only [Bool.and_eq_true, decide_eq_true_eq] at hok
    obtain ⟨h1, h2⟩ := hok
    replace hd := en_dec_k hd h1
    subst h1
    obtain ⟨a, r, rfl, g2, g3⟩ := en_store_inv h
    exact en_sto1 (hk _ _ _ _ _ _ hn0 g3) (fun H locs la vs vl v hl hv K => by
      obtain ⟨x, rfl⟩ := en_kd0 hv g2
      exact lv_istore_n hx hb hd rfl hl (by rw [hnl]; exact h2) rfl K)
  case lstore i =>
    simp only [Bool.and_eq_true, decide_eq_true_eq] at hok
    obtain ⟨h1, h2⟩ := hok
    replace hd := en_dec_k hd h1
    subst h1
    obtain ⟨a, r, rfl, g2, g3⟩ := en_store_inv h
    exact en_sto2 (hk _ _ _ _ _ _ hn0 g3) (fun H locs la vs vl v hl hv K => by
      obtain ⟨x, rfl⟩ := en_kd1 hv g2
      exact lv_lstore hx hb hd hl (by rw [hnl]; exact h2) rfl K)
  case lstore_n i =>
    simp only [Bool.and_eq_true, decide_eq_true_eq] at hok
    obtain ⟨h1, h2⟩ := hok
    replace hd := en_dec_k hd h1
    subst h1
    obtain ⟨a, r, rfl, g2, g3⟩ := en_store_inv h
    exact en_sto2 (hk _ _ _ _ _ _ hn0 g3) (fun H locs la vs vl v hl hv K => by
      obtain ⟨x, rfl⟩ := en_kd1 hv g2
      exact lv_lstore_n hx hb hd rfl hl (by rw [hnl]; exact h2) rfl K)
  case astore i =>
    simp only [Bool.and_eq_true, decide_eq_true_eq] at hok
    obtain ⟨h1, h2⟩ := hok
    replace hd := en_dec_k hd h1
    subst h1
    obtain ⟨a, r, rfl, g2, g3⟩ := en_store_inv h
    exact en_sto1 (hk _ _ _ _ _ _ hn0 g3) (fun H locs la vs vl v hl hv K => by
      rcases en_kd2 hv g2 with rfl | ⟨x, rfl⟩
      · exact lv_astoreN hx hb hd hl (by rw [hnl]; exact h2) rfl K
      · exact lv_astore hx hb hd hl (by rw [hnl]; exact h2) rfl K)
  case astore_n i =>
    simp only [Bool.and_eq_true, decide_eq_true_eq] at hok
    obtain ⟨h1, h2⟩ := hok
    replace hd := en_dec_k hd h1
    subst h1
    obtain ⟨a, r, rfl, g2, g3⟩ := en_store_inv h
    exact en_sto1 (hk _ _ _ _ _ _ hn0 g3) (fun H locs la vs vl v hl hv K => by
      rcases en_kd2 hv g2 with rfl | ⟨x, rfl⟩
      · exact lv_astore_nN hx hb hd rfl hl (by rw [hnl]; exact h2) rfl K
      · exact lv_astore_n hx hb hd rfl hl (by rw [hnl]; exact h2) rfl K)
  case iinc i j =>
    simp only [Bool.and_eq_true, decide_eq_true_eq] at hok
    obtain ⟨h1, h2, h3⟩ := hok
    replace hd := en_dec_k hd h1
    subst h1
    obtain ⟨a, g1, g2⟩ := en_iinc_inv h
    exact en_sinc (hk _ _ _ _ _ _ hn0 g2) g1 (fun H locs la vs vl k9 y hl hv hy K => lv_iinc hx hb hd hl hv (by rw [h2]) (by rw [hnl]; exact h3) rfl K)
  case iadd =>
    simp only [decide_eq_true_eq] at hok
    replace hd := en_dec_k hd hok
    subst hok
    obtain ⟨a, b, r, v, rfl, g1, g2⟩ := en_bin_inv h
    exact en_two (hk _ _ _ _ _ _ hn0 g2) (fun H locs la vs va vb ha hvb K => by
      obtain ⟨x, y, rfl, rfl, hr⟩ := en_iadd_ok ha hvb g1
      exact lv_iadd hx hb hd (K _ hr))
  case isub =>
    simp only [decide_eq_true_eq] at hok
    replace hd := en_dec_k hd hok
    subst hok
    obtain ⟨a, b, r, v, rfl, g1, g2⟩ := en_bin_inv h
    exact en_two (hk _ _ _ _ _ _ hn0 g2) (fun H locs la vs va vb ha hvb K => by
      obtain ⟨x, y, rfl, rfl, hr, hp⟩ := en_ii_ok (F := fun x y => x - y) (P := fun _ _ => True) (fun x y z hz => by
        unfold en_isub at hz
        cases hz
        exact ⟨en_nI_tn _, trivial⟩) ha hvb g1
      exact lv_isub hx hb hd (K _ hr))
  case imul =>
    simp only [decide_eq_true_eq] at hok
    replace hd := en_dec_k hd hok
    subst hok
    obtain ⟨a, b, r, v, rfl, g1, g2⟩ := en_bin_inv h
    exact en_two (hk _ _ _ _ _ _ hn0 g2) (fun H locs la vs va vb ha hvb K => by
      obtain ⟨x, y, rfl, rfl, hr, hp⟩ := en_ii_ok (F := fun x y => x * y) (P := fun _ _ => True) (fun x y z hz => by
        unfold en_imul at hz
        cases hz
        exact ⟨by unfold en_wrap; rw [en_nI_mod, pk_mul], trivial⟩) ha hvb g1
      exact lv_imul hx hb hd (K _ hr))
  case iand =>
    simp only [decide_eq_true_eq] at hok
    replace hd := en_dec_k hd hok
    subst hok
    obtain ⟨a, b, r, v, rfl, g1, g2⟩ := en_bin_inv h
    exact en_two (hk _ _ _ _ _ _ hn0 g2) (fun H locs la vs va vb ha hvb K => by
      obtain ⟨x, y, rfl, rfl, hr, hp⟩ := en_ii_ok (F := fun x y => x &&& y) (P := fun _ _ => True) (fun x y z hz => by
        unfold en_iand at hz
        cases hz
        exact ⟨en_nI_tn _, trivial⟩) ha hvb g1
      exact lv_iand hx hb hd (K _ hr))
  case ior =>
    simp only [decide_eq_true_eq] at hok
    replace hd := en_dec_k hd hok
    subst hok
    obtain ⟨a, b, r, v, rfl, g1, g2⟩ := en_bin_inv h
    exact en_two (hk _ _ _ _ _ _ hn0 g2) (fun H locs la vs va vb ha hvb K => by
      obtain ⟨x, y, rfl, rfl, hr, hp⟩ := en_ii_ok (F := fun x y => x ||| y) (P := fun _ _ => True) (fun x y z hz => by
        unfold en_ior at hz
        cases hz
        exact ⟨en_nI_tn _, trivial⟩) ha hvb g1
      exact lv_ior hx hb hd (K _ hr))
  case ixor =>
    simp only [decide_eq_true_eq] at hok
    replace hd := en_dec_k hd hok
    subst hok
    obtain ⟨a, b, r, v, rfl, g1, g2⟩ := en_bin_inv h
    exact en_two (hk _ _ _ _ _ _ hn0 g2) (fun H locs la vs va vb ha hvb K => by
      obtain ⟨x, y, rfl, rfl, hr, hp⟩ := en_ii_ok (F := fun x y => x ^^^ y) (P := fun _ _ => True) (fun x y z hz => by
        unfold en_ixor at hz
        cases hz
        exact ⟨en_nI_tn _, trivial⟩) ha hvb g1
      exact lv_ixor hx hb hd (K _ hr))
  case ishl =>
    simp only [decide_eq_true_eq] at hok
    replace hd := en_dec_k hd hok
    subst hok
    obtain ⟨a, b, r, v, rfl, g1, g2⟩ := en_bin_inv h
    exact en_two (hk _ _ _ _ _ _ hn0 g2) (fun H locs la vs va vb ha hvb K => by
      obtain ⟨x, y, rfl, rfl, hr, hp⟩ := en_ii_ok (F := fun x y => x <<< (y &&& 31)) (P := fun _ _ => True) (fun x y z hz => by
        unfold en_ishl at hz
        cases hz
        exact ⟨en_nI_tn _, trivial⟩) ha hvb g1
      exact lv_ishl hx hb hd (K _ hr))
  case ishr =>
    simp only [decide_eq_true_eq] at hok
    replace hd := en_dec_k hd hok
    subst hok
    obtain ⟨a, b, r, v, rfl, g1, g2⟩ := en_bin_inv h
    exact en_two (hk _ _ _ _ _ _ hn0 g2) (fun H locs la vs va vb ha hvb K => by
      obtain ⟨x, y, rfl, rfl, hr, hp⟩ := en_ii_ok (F := fun x y => x >>> (y &&& 31)) (P := fun _ _ => True) (fun x y z hz => by
        unfold en_ishr at hz
        cases hz
        exact ⟨en_nI_tn _, trivial⟩) ha hvb g1
      exact lv_ishr hx hb hd (K _ hr))
  case idiv =>
    simp only [decide_eq_true_eq] at hok
    replace hd := en_dec_k hd hok
    subst hok
    obtain ⟨a, b, r, v, rfl, g1, g2⟩ := en_bin_inv h
    exact en_two (hk _ _ _ _ _ _ hn0 g2) (fun H locs la vs va vb ha hvb K => by
      obtain ⟨x, y, rfl, rfl, hr, hp⟩ := en_ii_ok (F := fun x y => x / y) (P := fun _ y => ¬ y = 0) (fun x y z hz => by
        unfold en_idiv at hz
        split at hz
        · cases hz
        · rename_i h0
          cases hz
          exact ⟨en_nI_tn _, h0⟩) ha hvb g1
      exact lv_idiv hx hb hd hp (K _ hr))
  case irem =>
    simp only [decide_eq_true_eq] at hok
    replace hd := en_dec_k hd hok
    subst hok
    obtain ⟨a, b, r, v, rfl, g1, g2⟩ := en_bin_inv h
    exact en_two (hk _ _ _ _ _ _ hn0 g2) (fun H locs la vs va vb ha hvb K => by
      obtain ⟨x, y, rfl, rfl, hr, hp⟩ := en_ii_ok (F := fun x y => x - x / y * y) (P := fun _ y => ¬ y = 0) (fun x y z hz => by
        unfold en_irem at hz
        split at hz
        · cases hz
        · rename_i h0
          cases hz
          exact ⟨en_nI_tn _, h0⟩) ha hvb g1
      exact lv_irem hx hb hd hp (K _ hr))
  case ladd =>
    simp only [decide_eq_true_eq] at hok
    replace hd := en_dec_k hd hok
    subst hok
    obtain ⟨a, b, r, v, rfl, g1, g2⟩ := en_bin_inv h
    exact en_two (hk _ _ _ _ _ _ hn0 g2) (fun H locs la vs va vb ha hvb K => by
      obtain ⟨x, y, rfl, rfl, hr⟩ := en_ll_ok (F := fun x y => x + y) (fun x y => en_lN_tn _) ha hvb g1
      exact lv_ladd hx hb hd (K _ hr))
  case lsub =>
    simp only [decide_eq_true_eq] at hok
    replace hd := en_dec_k hd hok
    subst hok
    obtain ⟨a, b, r, v, rfl, g1, g2⟩ := en_bin_inv h
    exact en_two (hk _ _ _ _ _ _ hn0 g2) (fun H locs la vs va vb ha hvb K => by
      obtain ⟨x, y, rfl, rfl, hr⟩ := en_ll_ok (F := fun x y => x - y) (fun x y => en_lN_tn _) ha hvb g1
      exact lv_lsub hx hb hd (K _ hr))
  case land =>
    simp only [decide_eq_true_eq] at hok
    replace hd := en_dec_k hd hok
    subst hok
    obtain ⟨a, b, r, v, rfl, g1, g2⟩ := en_bin_inv h
    exact en_two (hk _ _ _ _ _ _ hn0 g2) (fun H locs la vs va vb ha hvb K => by
      obtain ⟨x, y, rfl, rfl, hr⟩ := en_ll_ok (F := fun x y => x &&& y) (fun x y => en_lN_tn _) ha hvb g1
      exact lv_land hx hb hd (K _ hr))
  case lor =>
    simp only [decide_eq_true_eq] at hok
    replace hd := en_dec_k hd hok
    subst hok
    obtain ⟨a, b, r, v, rfl, g1, g2⟩ := en_bin_inv h
    exact en_two (hk _ _ _ _ _ _ hn0 g2) (fun H locs la vs va vb ha hvb K => by
      obtain ⟨x, y, rfl, rfl, hr⟩ := en_ll_ok (F := fun x y => x ||| y) (fun x y => en_lN_tn _) ha hvb g1
      exact lv_lor hx hb hd (K _ hr))
  case lmul =>
    simp only [decide_eq_true_eq] at hok
    replace hd := en_dec_k hd hok
    subst hok
    obtain ⟨a, b, r, v, rfl, g1, g2⟩ := en_bin_inv h
    exact en_two (hk _ _ _ _ _ _ hn0 g2) (fun H locs la vs va vb ha hvb K => by
      obtain ⟨x, y, rfl, rfl, hr⟩ := en_ll_ok (F := fun x y => x * y) (fun x y => en_lN_tn _) ha hvb g1
      exact lv_lmul hx hb hd (K _ hr))
  case lxor =>
    simp only [decide_eq_true_eq] at hok
    replace hd := en_dec_k hd hok
    subst hok
    obtain ⟨a, b, r, v, rfl, g1, g2⟩ := en_bin_inv h
    exact en_two (hk _ _ _ _ _ _ hn0 g2) (fun H locs la vs va vb ha hvb K => by
      obtain ⟨x, y, rfl, rfl, hr⟩ := en_ll_ok (F := fun x y => x ^^^ y) (fun x y => en_lN_tn _) ha hvb g1
      exact lv_lxor hx hb hd (K _ hr))
  case ldiv =>
    simp only [decide_eq_true_eq] at hok
    replace hd := en_dec_k hd hok
    subst hok
    obtain ⟨a, b, r, v, rfl, g1, g2⟩ := en_bin_inv h
    exact en_two (hk _ _ _ _ _ _ hn0 g2) (fun H locs la vs va vb ha hvb K => by
      obtain ⟨x, y, rfl, rfl, hr, hp⟩ := en_llo_ok (F := fun x y => x / y) (P := fun _ y => ¬ y = 0) (fun x y z hz => by
        unfold en_ldiv at hz
        split at hz
        · cases hz
        · rename_i h0
          cases hz
          exact ⟨en_lN_tn _, h0⟩) ha hvb g1
      exact lv_ldiv hx hb hd hp (K _ hr))
  case lrem =>
    simp only [decide_eq_true_eq] at hok
    replace hd := en_dec_k hd hok
    subst hok
    obtain ⟨a, b, r, v, rfl, g1, g2⟩ := en_bin_inv h
    exact en_two (hk _ _ _ _ _ _ hn0 g2) (fun H locs la vs va vb ha hvb K => by
      obtain ⟨x, y, rfl, rfl, hr, hp⟩ := en_llo_ok (F := fun x y => x - x / y * y) (P := fun _ y => ¬ y = 0) (fun x y z hz => by
        unfold en_lrem at hz
        split at hz
        · cases hz
        · rename_i h0
          cases hz
          exact ⟨en_lN_tn _, h0⟩) ha hvb g1
      exact lv_lrem hx hb hd hp (K _ hr))
  case lshl =>
    simp only [decide_eq_true_eq] at hok
    replace hd := en_dec_k hd hok
    subst hok
    obtain ⟨a, b, r, v, rfl, g1, g2⟩ := en_bin_inv h
    exact en_two (hk _ _ _ _ _ _ hn0 g2) (fun H locs la vs va vb ha hvb K => by
      obtain ⟨x, y, rfl, rfl, hr⟩ := en_li_ok (F := fun x y => x <<< (y.toInt64 &&& 63)) (fun x y => en_lN_tn _) ha hvb g1
      exact lv_lshl hx hb hd rfl (K _ hr))
  case lshr =>
    simp only [decide_eq_true_eq] at hok
    replace hd := en_dec_k hd hok
    subst hok
    obtain ⟨a, b, r, v, rfl, g1, g2⟩ := en_bin_inv h
    exact en_two (hk _ _ _ _ _ _ hn0 g2) (fun H locs la vs va vb ha hvb K => by
      obtain ⟨x, y, rfl, rfl, hr⟩ := en_li_ok (F := fun x y => x >>> (y.toInt64 &&& 63)) (fun x y => en_lN_tn _) ha hvb g1
      exact lv_lshr hx hb hd rfl (K _ hr))
  case lushr =>
    simp only [decide_eq_true_eq] at hok
    replace hd := en_dec_k hd hok
    subst hok
    obtain ⟨a, b, r, v, rfl, g1, g2⟩ := en_bin_inv h
    exact en_two (hk _ _ _ _ _ _ hn0 g2) (fun H locs la vs va vb ha hvb K => by
      obtain ⟨x, y, rfl, rfl, hr⟩ := en_li_ok (F := fun x y => (x.toUInt64 >>> (y.toInt64.toUInt64 &&& Int64.toUInt64 63)).toInt64) (fun x y => en_lN_tn _) ha hvb g1
      exact lv_lushr hx hb hd rfl (K _ hr))
  case lcmp =>
    simp only [decide_eq_true_eq] at hok
    replace hd := en_dec_k hd hok
    subst hok
    obtain ⟨a, b, r, v, rfl, g1, g2⟩ := en_bin_inv h
    exact en_two (hk _ _ _ _ _ _ hn0 g2) (fun H locs la vs va vb ha hvb K => by
      obtain ⟨x, y, rfl, rfl, hr⟩ := en_lcmp_ok ha hvb g1
      exact W.lcmp hx hb hd (K _ hr))
  case i2l =>
    simp only [decide_eq_true_eq] at hok
    replace hd := en_dec_k hd hok
    subst hok
    obtain ⟨a, v, r, rfl, g1, g2⟩ := en_i2l_inv h
    exact en_one (hk _ _ _ _ _ _ hn0 g2) (fun H locs la vs va ha K => by
      obtain ⟨x, rfl, hr⟩ := g1 ha
      exact lv_i2l hx hb hd rfl (K _ hr))
  case l2i =>
    simp only [decide_eq_true_eq] at hok
    replace hd := en_dec_k hd hok
    subst hok
    obtain ⟨a, v, r, rfl, g1, g2⟩ := en_l2i_inv h
    exact en_one (hk _ _ _ _ _ _ hn0 g2) (fun H locs la vs va ha K => by
      obtain ⟨x, rfl, hr⟩ := g1 ha
      exact lv_l2i hx hb hd rfl (K _ hr))
  case i2b =>
    simp only [decide_eq_true_eq] at hok
    replace hd := en_dec_k hd hok
    subst hok
    obtain ⟨a, r, rfl, g2⟩ := en_i2b_inv h
    exact en_one (hk _ _ _ _ _ _ hn0 g2) (fun H locs la vs va ha K => by
      have ha : va = .int (nI a) := ha
      subst ha
      exact lv_i2b hx hb hd rfl (K _ (by show Value.int _ = Value.int _; rw [en_nI_tn])))
  case dup =>
    simp only [decide_eq_true_eq] at hok
    replace hd := en_dec_k hd hok
    subst hok
    obtain ⟨a, r, rfl, g1, g2⟩ := en_dup_inv h
    exact en_pure (hk _ _ _ _ _ _ hn0 g2) (fun H locs la vs hl hv _ K => by
      obtain ⟨w, ws, rfl, f1, f2⟩ := en_rvs_cons hv
      exact lv_dup hx hb hd ((en_rv_cat f1).trans g1) (K la _ hl ⟨f1, f1, f2⟩))
  case dup2 =>
    simp only [decide_eq_true_eq] at hok
    replace hd := en_dec_k hd hok
    subst hok
    obtain ⟨a, b, r, rfl, g1, g2, g3⟩ := en_dup2_inv h
    exact en_pure (hk _ _ _ _ _ _ hn0 g3) (fun H locs la vs hl hv _ K => by
      obtain ⟨w, ws, rfl, f1, f2⟩ := en_rvs_cons hv
      obtain ⟨w2, ws, rfl, f3, f4⟩ := en_rvs_cons f2
      exact lv_dup2_11 hx hb hd ((en_rv_cat f1).trans g1) ((en_rv_cat f3).trans g2) (K la _ hl ⟨f1, f3, f1, f3, f4⟩))
  case pop =>
    simp only [decide_eq_true_eq] at hok
    replace hd := en_dec_k hd hok
    subst hok
    obtain ⟨a, r, rfl, g1, g2⟩ := en_pop_inv h
    exact en_br1 (hk _ _ _ _ _ _ hn0 g2) (fun H locs la vs va ha K => lv_pop hx hb hd ((en_rv_cat ha).trans g1) K)
  case pop2 =>
    simp only [decide_eq_true_eq] at hok
    replace hd := en_dec_k hd hok
    subst hok
    obtain ⟨a, r, rfl, g1, g2⟩ := en_pop2_inv h
    exact en_br1 (hk _ _ _ _ _ _ hn0 g2) (fun H locs la vs va ha K => lv_pop2_2 hx hb hd ((en_rv_cat ha).trans g1) K)
  case ifnull j =>
    simp only [Bool.and_eq_true, decide_eq_true_eq] at hok
    obtain ⟨h1, h2⟩ := hok
    replace hd := en_dec_k hd h1
    subst h1
    obtain ⟨a, r, rfl, g1⟩ := en_ifnull_inv h
    rcases en_jump_inv g1 with ⟨g2, g3⟩ | ⟨g2, g3⟩
    · refine en_br1 (hk _ _ _ _ _ _ hn0 g3) (fun H locs la vs va ha K => ?_)
      rcases en_nul_ok ha g2 with ⟨-, rfl⟩ | ⟨z, -⟩
      · exact lv_ifnullN hx hb hd h2 K
      · cases z
    · refine en_br1 (hk _ _ _ _ _ _ hn0 g3) (fun H locs la vs va ha K => ?_)
      rcases en_nul_ok ha g2 with ⟨z, -⟩ | ⟨-, x, rfl⟩
      · cases z
      · exact lv_ifnull hx hb hd K
  case if_icmp q9 j =>
    simp only [Bool.and_eq_true, decide_eq_true_eq] at hok
    obtain ⟨h1, h2⟩ := hok
    replace hd := en_dec_k hd h1
    subst h1
    obtain ⟨a, b, r, rfl, g1⟩ := en_cmp2_inv h
    rcases en_jump_inv g1 with ⟨g2, g3⟩ | ⟨g2, g3⟩
    · refine en_br2 (hk _ _ _ _ _ _ hn0 g3) (fun H locs la vs va vb ha hvb K => ?_)
      obtain ⟨x, y, rfl, rfl, hr⟩ := en_rel_ok ha hvb g2
      cases q9 <;> dsimp only at hr
      · exact lv_icmp_eq hx hb hd h2 (fun _ => K) (fun z => absurd (hr.mpr rfl) z)
      · exact lv_icmp_ne hx hb hd h2 (fun _ => K) (fun z => absurd z (hr.mpr rfl))
      · exact lv_icmp_lt hx hb hd h2 (fun _ => K) (fun z => absurd (hr.mpr rfl) z)
      · exact lv_icmp_ge hx hb hd h2 (fun _ => K) (fun z => absurd (hr.mpr rfl) z)
      · exact lv_icmp_gt hx hb hd h2 (fun _ => K) (fun z => absurd (hr.mpr rfl) z)
      · exact lv_icmp_le hx hb hd h2 (fun _ => K) (fun z => absurd (hr.mpr rfl) z)
    · refine en_br2 (hk _ _ _ _ _ _ hn0 g3) (fun H locs la vs va vb ha hvb K => ?_)
      obtain ⟨x, y, rfl, rfl, hr⟩ := en_rel_ok ha hvb g2
      cases q9 <;> dsimp only at hr
      · exact lv_icmp_eq hx hb hd h2 (fun z => absurd (hr.mp z) Bool.false_ne_true) (fun _ => K)
      · exact lv_icmp_ne hx hb hd h2 (fun z => absurd (hr.mp z) Bool.false_ne_true) (fun _ => K)
      · exact lv_icmp_lt hx hb hd h2 (fun z => absurd (hr.mp z) Bool.false_ne_true) (fun _ => K)
      · exact lv_icmp_ge hx hb hd h2 (fun z => absurd (hr.mp z) Bool.false_ne_true) (fun _ => K)
      · exact lv_icmp_gt hx hb hd h2 (fun z => absurd (hr.mp z) Bool.false_ne_true) (fun _ => K)
      · exact lv_icmp_le hx hb hd h2 (fun z => absurd (hr.mp z) Bool.false_ne_true) (fun _ => K)
  case ifCond q9 j =>
    simp only [Bool.and_eq_true, decide_eq_true_eq] at hok
    obtain ⟨h1, h2⟩ := hok
    replace hd := en_dec_k hd h1
    subst h1
    obtain ⟨a, r, rfl, g1⟩ := en_cmp1_inv h
    rcases en_jump_inv g1 with ⟨g2, g3⟩ | ⟨g2, g3⟩
    · refine en_br1 (hk _ _ _ _ _ _ hn0 g3) (fun H locs la vs va ha K => ?_)
      obtain ⟨x, y, rfl, hy, hr⟩ := en_rel_ok (b := .inl 0) (vb := .int 0) ha (show Value.int 0 = Value.int (nI 0) by rw [nI_0]) g2
      cases hy
      cases q9 <;> dsimp only at hr
      · exact lv_if_eq hx hb hd h2 (fun _ => K) (fun z => absurd (hr.mpr rfl) z)
      · exact lv_if_ne hx hb hd h2 (fun _ => K) (fun z => absurd z (hr.mpr rfl))
      · exact lv_if_lt hx hb hd h2 (fun _ => K) (fun z => absurd (hr.mpr rfl) z)
      · exact lv_if_ge hx hb hd h2 (fun _ => K) (fun z => absurd (hr.mpr rfl) z)
      · exact lv_if_gt hx hb hd h2 (fun _ => K) (fun z => absurd (hr.mpr rfl) z)
      · exact lv_if_le hx hb hd h2 (fun _ => K) (fun z => absurd (hr.mpr rfl) z)
    · refine en_br1 (hk _ _ _ _ _ _ hn0 g3) (fun H locs la vs va ha K => ?_)
      obtain ⟨x, y, rfl, hy, hr⟩ := en_rel_ok (b := .inl 0) (vb := .int 0) ha (show Value.int 0 = Value.int (nI 0) by rw [nI_0]) g2
      cases hy
      cases q9 <;> dsimp only at hr
      · exact lv_if_eq hx hb hd h2 (fun z => absurd (hr.mp z) Bool.false_ne_true) (fun _ => K)
      · exact lv_if_ne hx hb hd h2 (fun z => absurd (hr.mp z) Bool.false_ne_true) (fun _ => K)
      · exact lv_if_lt hx hb hd h2 (fun z => absurd (hr.mp z) Bool.false_ne_true) (fun _ => K)
      · exact lv_if_ge hx hb hd h2 (fun z => absurd (hr.mp z) Bool.false_ne_true) (fun _ => K)
      · exact lv_if_gt hx hb hd h2 (fun z => absurd (hr.mp z) Bool.false_ne_true) (fun _ => K)
      · exact lv_if_le hx hb hd h2 (fun z => absurd (hr.mp z) Bool.false_ne_true) (fun _ => K)
  case if_acmp q9 j =>
    simp only [Bool.and_eq_true, decide_eq_true_eq] at hok
    obtain ⟨h1, h2⟩ := hok
    replace hd := en_dec_k hd h1
    subst h1
    have hinj := hK.2.1.2.2.2.2.2.2.2.2.2
    cases q9
    · obtain ⟨a, b, r, rfl, g1⟩ := en_aceq_inv h
      rcases en_jump_inv g1 with ⟨g2, g3⟩ | ⟨g2, g3⟩
      · refine en_br2 (hk _ _ _ _ _ _ hn0 g3) (fun H locs la vs va vb ha hvb K => ?_)
        obtain ⟨x, y, rfl, rfl, hr⟩ := en_ac_ok hinj ha hvb g2
        exact lv_acmp_eq hx hb hd h2 (fun _ => K) (fun z => absurd (hr.mpr rfl) z)
      · refine en_br2 (hk _ _ _ _ _ _ hn0 g3) (fun H locs la vs va vb ha hvb K => ?_)
        obtain ⟨x, y, rfl, rfl, hr⟩ := en_ac_ok hinj ha hvb g2
        exact lv_acmp_eq hx hb hd h2 (fun z => absurd (hr.mp z) (by decide)) (fun _ => K)
    · obtain ⟨a, b, r, rfl, g1⟩ := en_acne_inv h
      have inv : ∀ {o : Option Bool} {r : Bool}, en_not o = some r → o = some (!r) := fun {o r} h => by
        cases o with
        | none => cases h
        | some b => cases h; rw [Bool.not_not]
      rcases en_jump_inv g1 with ⟨g2, g3⟩ | ⟨g2, g3⟩
      · refine en_br2 (hk _ _ _ _ _ _ hn0 g3) (fun H locs la vs va vb ha hvb K => ?_)
        obtain ⟨x, y, rfl, rfl, hr⟩ := en_ac_ok hinj ha hvb (inv g2)
        exact lv_acmp_ne hx hb hd h2 (fun _ => K) (fun z => absurd (hr.mp z) (by decide))
      · refine en_br2 (hk _ _ _ _ _ _ hn0 g3) (fun H locs la vs va vb ha hvb K => ?_)
        obtain ⟨x, y, rfl, rfl, hr⟩ := en_ac_ok hinj ha hvb (inv g2)
        exact lv_acmp_ne hx hb hd h2 (fun z => absurd (hr.mpr rfl) z) (fun _ => K)
  case goto j =>
    simp only [Bool.and_eq_true, decide_eq_true_eq] at hok
    obtain ⟨h1, h2⟩ := hok
    replace hd := en_dec_k hd h1
    subst h1
    exact en_pure (hk _ _ _ _ _ _ hn0 h) (fun H locs la vs hl hv _ K => lv_goto hx hb hd h2 (K la vs hl hv))
  case tableswitch df lo hi os =>
    obtain ⟨k9, hd, -⟩ := hd
    obtain ⟨a, r, q9, rfl, g1, g2⟩ := en_switch_inv h
    rcases g2 with ⟨g2, tg, g3, g4⟩ | ⟨g2, g5, of, tg, g6, g3, g4⟩
    · refine en_br1 (hk _ _ _ _ _ _ hn0 g4) (fun H locs la vs va ha K => ?_)
      obtain ⟨x, rfl, a1, a2⟩ := en_bnd_ok (l := q9.1) (h := q9.2) ha g1
      exact lv_tableOut hx hb hd (by first | decide | omega) g3 K
    · refine en_br1 (hk _ _ _ _ _ _ hn0 g4) (fun H locs la vs va ha K => ?_)
      obtain ⟨x, rfl, a1, a2⟩ := en_bnd_ok (l := q9.1) (h := q9.2) ha g1
      exact lv_tableIn hx hb hd (by first | decide | omega) (by first | decide | omega) (by rw [show x.toInt - lo = (q9.1 : Int) - 2147483648 - lo by omega]; exact g6) g3 K
  case getfield i =>
    simp only [Bool.and_eq_true, decide_eq_true_eq] at hok
    obtain ⟨h1, h2⟩ := hok
    replace hd := en_dec_k hd h1
    subst h1
    rcases en_getf_inv h with ⟨a, r, q9, v, rfl, g1, g2, g3, g4⟩ | ⟨w9, r, v, rfl, g1, g2, g4⟩
    · cases hne : Nat.beq (x2 % 16) 11 with
      | true =>
        have e9 := Nat.eq_of_beq_eq_true hne
        refine ⟨(hk _ _ _ _ _ _ hn0 g4).1, (hk _ _ _ _ _ _ hn0 g4).2.1, fun H locs la vs hl' hv' hP hS => ?_⟩
        obtain ⟨fs, r', -, z2, -⟩ := hP.obj g1 (by rw [g2, e9]; decide)
        rw [g2, e9] at z2
        cases z2
      | false =>
        rw [hne] at h2
        obtain ⟨w, hw, h3⟩ := List.any_eq_true.mp h2
        simp only [Bool.and_eq_true, decide_eq_true_eq] at h3
        obtain ⟨e1, e2, e3, e4⟩ := h3
        obtain ⟨rr, f1, f2, f3⟩ := en_gok_ok (List.all_eq_true.mp en_GL_ok w hw)
        rw [e1, e2, e4] at f3
        rw [e3] at f1
        rw [e4] at f2
        exact en_a_getf hx hb hown hts hK (hk _ _ _ _ _ _ hn0 g4) g1 (by rw [g2]; exact f1) f2 f3 g3 hd
    · rw [g1] at h2
      obtain ⟨w, hw, h3⟩ := List.any_eq_true.mp h2
      simp only [Bool.and_eq_true, decide_eq_true_eq] at h3
      obtain ⟨e1, e2, e3⟩ := h3
      have h5 := List.all_eq_true.mp en_WL_ok w hw
      unfold en_wok at h5
      rw [Bool.and_eq_true] at h5
      have h6 := en_tb_mem h5.2
      rw [e1, e2, e3] at h6
      obtain ⟨hw42, hv⟩ := en_wf_ok g2
      have hWd := hK.2.1
      refine ⟨(hk _ _ _ _ _ _ hn0 g4).1, (hk _ _ _ _ _ _ hn0 g4).2.1, fun H locs la vs hl' hv' hP hS => ?_⟩
      obtain ⟨w1, ws, rfl, k1, hw1⟩ := en_rvs_cons hv'
      have k1 : w1 = .ref (ex (w9 + 2)) := k1
      subst k1
      rw [Nat.add_comm w9 2]
      have key : ∀ (vv : Nat → Value), en_rv ba ex v (vv w9) → va_Ef 42 "PackWeeks$Word" (en_wfn x1) (en_wfd x1) vv (fun w => ex (2 + w)) (fun q => ba ≤ q) s s.heap → W p l e R s m args below meth c H locs (n - n0) sl Q (F0 m pc la (.ref (ex (2 + w9)) :: ws)) := fun vv hvv hE =>
        va_getX (ad := fun w => ex (2 + w)) (i := w9) hx hb hE hw42 hS hown (hts _ h6) (fun x h => h) hd ((hk _ _ _ _ _ _ hn0 g4).2.2 H locs la _ hl' ⟨hvv, hw1⟩ hP hS)
      rcases hv with ⟨rfl, rfl⟩ | ⟨rfl, rfl⟩ | ⟨rfl, rfl⟩
      · exact key (fun w => .long (lN (en_wk w).1)) rfl hWd.2.2.2.1
      · exact key (fun w => .int (nI (en_wk w).2.1)) rfl hWd.2.2.2.2.1
      · exact key (fun w => .int (nI (en_wk w).2.2)) rfl hWd.2.2.2.2.2.1
  case putfield i =>
    simp only [Bool.and_eq_true, decide_eq_true_eq] at hok
    obtain ⟨h1, h2⟩ := hok
    replace hd := en_dec_k hd h1
    subst h1
    obtain ⟨w, hw, h3⟩ := List.any_eq_true.mp h2
    simp only [Bool.and_eq_true, Bool.or_eq_true, decide_eq_true_eq] at h3
    obtain ⟨e1, e2, e3, e4, e5, e6⟩ := h3
    obtain ⟨rr, ty, f1, f2, f3, f4, f5, f6, f7⟩ := en_pok_ok (List.all_eq_true.mp en_PL_ok w hw)
    rw [e1, e2, e4] at f3
    rw [e3] at f1
    rw [e4] at f2 f4 f6 f7
    rw [e5] at f5
    rw [e1] at f7
    obtain ⟨v, a, r, q9, rfl, g1, g2, g3, g4, g5⟩ := en_putf_inv h
    refine en_a_putf hx hb hown hts hK (hk _ _ _ _ _ _ hn0 g5) g1 (by rw [g2]; exact f1) f2 f3 f4 f5 g3 g4 ?_ hd
    by_cases h0 : w.2.2.2.2.2.1 = 0
    · exact Or.inl (f6 h0)
    · exact Or.inr ⟨(f7 h0).1, by rw [hname]; exact e6.resolve_left h0, (f7 h0).2⟩
  case getstatic i =>
    simp only [Bool.and_eq_true, decide_eq_true_eq] at hok
    obtain ⟨h1, h2⟩ := hok
    replace hd := en_dec_k hd h1
    subst h1
    obtain ⟨w, hw, h4⟩ := List.any_eq_true.mp h2
    simp only [Bool.and_eq_true, decide_eq_true_eq] at h4
    obtain ⟨e1, e2, e3⟩ := h4
    obtain ⟨C, nm, ds, h5, hZ⟩ := en_sok_ok (List.all_eq_true.mp en_SL_ok w hw) hK.2.1
    rw [e1, e2] at h5
    rw [e3] at hZ
    refine ⟨(hk _ _ _ _ _ _ hn0 h).1, (hk _ _ _ _ _ _ hn0 h).2.1, fun H locs la vs hl hv hP hS => ?_⟩
    exact va_gets hx hb hZ hS hown (hts _ h5) (fun x h => h) hd ((hk _ _ _ _ _ _ hn0 h).2.2 H locs la _ hl ⟨rfl, hv⟩ hP hS)
  case new i =>
    simp only [Bool.and_eq_true, decide_eq_true_eq] at hok
    obtain ⟨h1, h2⟩ := hok
    replace hd := en_dec_k hd h1
    subst h1
    obtain ⟨w, hw, h3⟩ := List.any_eq_true.mp h2
    simp only [Bool.and_eq_true, decide_eq_true_eq] at h3
    obtain ⟨e1, e2, e3⟩ := h3
    obtain ⟨rr, f1, f2, f3, f4⟩ := en_nok_ok (List.all_eq_true.mp en_NL_ok w hw)
    rw [e1, e2] at f2
    rw [e3] at f1
    obtain ⟨⟨c0, g1⟩, g2⟩ := en_new_inv h
    have hlen : (en_df x1).length = rr.2.2 := by
      obtain ⟨-, ⟨ty0, -, hdf, -⟩, -⟩ := en_cl _ _ f1
      rw [hdf, List.length_map, List.length_range]
    rw [hlen] at g2
    exact en_a_new hx hb hown hts hK hn0 hRc hRs (hk _ _ _ _ _ _ (by first | decide | omega) g2) g1 f1 f2 f3 f4 hd
  case newarray at0 =>
    simp only [Bool.and_eq_true, decide_eq_true_eq] at hok
    obtain ⟨h1, h2⟩ := hok
    replace hd := en_dec_k hd h1
    subst h1
    cases at0 <;> dsimp only at h2
    case int =>
      simp only [decide_eq_true_eq] at h2
      subst h2
      obtain ⟨m9, r, rfl, ⟨c0, g1⟩, g2, g3⟩ := en_newa_inv h
      exact en_a_newa (i := 0) (ty := .int) hx hb hts hK hn0 hRc hRs (hk _ _ _ _ _ _ (by first | decide | omega) g3) g1 g2 rfl (by decide) rfl rfl (fun z => z) (en_tb_mem en_w_int) hd
    case byte =>
      simp only [decide_eq_true_eq] at h2
      subst h2
      obtain ⟨m9, r, rfl, ⟨c0, g1⟩, g2, g3⟩ := en_newa_inv h
      exact en_a_newa (i := 0) (ty := .byte) hx hb hts hK hn0 hRc hRs (hk _ _ _ _ _ _ (by first | decide | omega) g3) g1 g2 rfl (by decide) rfl rfl (fun z => z) (en_tb_mem en_w_byte) hd
    case boolean =>
      simp only [decide_eq_true_eq] at h2
      subst h2
      obtain ⟨m9, r, rfl, ⟨c0, g1⟩, g2, g3⟩ := en_newa_inv h
      exact en_a_newa (i := 0) (ty := .boolean) hx hb hts hK hn0 hRc hRs (hk _ _ _ _ _ _ (by first | decide | omega) g3) g1 g2 rfl (by decide) rfl rfl (fun z => z) (en_tb_mem en_w_bool) hd
    case long =>
      simp only [decide_eq_true_eq] at h2
      subst h2
      obtain ⟨m9, r, rfl, ⟨c0, g1⟩, g2, g3⟩ := en_newa_inv h
      exact en_a_newa (i := 0) (ty := .long) hx hb hts hK hn0 hRc hRs (hk _ _ _ _ _ _ (by first | decide | omega) g3) g1 g2 rfl (by decide) rfl rfl (fun z => z) (en_tb_mem en_w_long) hd
    all_goals cases h2
  case anewarray i =>
    simp only [Bool.and_eq_true, decide_eq_true_eq] at hok
    obtain ⟨h1, h2⟩ := hok
    replace hd := en_dec_k hd h1
    subst h1
    obtain ⟨w, hw, h3⟩ := List.any_eq_true.mp h2
    simp only [Bool.and_eq_true, decide_eq_true_eq] at h3
    obtain ⟨e1, e2, e3⟩ := h3
    have f := List.all_eq_true.mp en_AL_ok w hw
    unfold en_aok at f
    simp only [Bool.and_eq_true] at f
    obtain ⟨f1, f2, f3⟩ := f
    have f1 := Nat.le_of_ble_eq_true f1
    have f2 := Nat.le_of_ble_eq_true f2
    have f3 := en_tb_mem f3
    rw [e1, e2, e3] at f3
    rw [e3] at f1 f2
    obtain ⟨m9, r, rfl, ⟨c0, g1⟩, g2, g3⟩ := en_newa_inv h
    rcases (show x1 = 4 ∨ x1 = 5 ∨ x1 = 6 by omega) with z | z | z
    · subst z
      exact en_a_anew (C := "PackWeeks$Word") hx hb hown hts hK hn0 hRc hRs (hk _ _ _ _ _ _ (by first | decide | omega) g3) g1 g2 rfl hK.2.2.1.1 f3 hd
    · subst z
      exact en_a_anew (C := "PackWeeks$Stand") hx hb hown hts hK hn0 hRc hRs (hk _ _ _ _ _ _ (by first | decide | omega) g3) g1 g2 rfl hK.2.2.1.2.1 f3 hd
    · subst z
      exact en_a_anew (C := "PackWeeks$Sights") hx hb hown hts hK hn0 hRc hRs (hk _ _ _ _ _ _ (by first | decide | omega) g3) g1 g2 rfl hK.2.2.1.2.2 f3 hd
  case multianewarray i j =>
    simp only [Bool.and_eq_true, decide_eq_true_eq] at hok
    obtain ⟨h1, h2, h3⟩ := hok
    replace hd := en_dec_k hd h1
    subst h1
    subst h2
    obtain ⟨w, hw, h4⟩ := List.any_eq_true.mp h3
    simp only [Bool.and_eq_true, decide_eq_true_eq] at h4
    obtain ⟨e1, e2⟩ := h4
    have h5 := en_tb_mem (List.all_eq_true.mp en_XL_ok w hw)
    rw [e1, e2] at h5
    obtain ⟨m9, w9, r, u, rfl, ⟨c0, g1⟩, g2, g3, g4, g5⟩ := en_multi_inv h
    exact en_a_multi hx hb hown hts hK hn0 hRc hRs (hk _ _ _ _ _ _ (by first | decide | omega) g5) g1 g2 g3 g4 h5 hd
  case arraylength =>
    simp only [decide_eq_true_eq] at hok
    replace hd := en_dec_k hd hok
    subst hok
    rcases en_alen_inv h with ⟨a, r, q9, rfl, g1, g2, g3⟩ | ⟨r, L, rfl, hoc, g3⟩ | ⟨r, rfl, g3⟩
    rotate_left
    · obtain ⟨xs, hX, hbl, hnb, hv⟩ := ho L hoc
      refine ⟨(hk _ _ _ _ _ _ hn0 g3).1, (hk _ _ _ _ _ _ hn0 g3).2.1, fun H locs la vs hl' hv' hP hS => ?_⟩
      obtain ⟨w2, ws, rfl, h2, hw2⟩ := en_rvs_cons hv'
      have h2 : w2 = .ref (ex 1) := h2
      subst h2
      exact va_slen hx hb hX hbl hnb hS hd ((hk _ _ _ _ _ _ hn0 g3).2.2 H locs la _ hl' ⟨rfl, hw2⟩ hP hS)
    · refine ⟨(hk _ _ _ _ _ _ hn0 g3).1, (hk _ _ _ _ _ _ hn0 g3).2.1, fun H locs la vs hl' hv' hP hS => ?_⟩
      obtain ⟨w2, ws, rfl, h2, hw2⟩ := en_rvs_cons hv'
      have h2 : w2 = .ref (ex 44) := h2
      subst h2
      exact va_tlen hx hb hK.2.1.2.2.2.2.2.2.2.1 hS (v := nI 42) (by decide) hd ((hk _ _ _ _ _ _ hn0 g3).2.2 H locs la _ hl' ⟨rfl, hw2⟩ hP hS)
    obtain ⟨ty, hty⟩ : ∃ ty, (en_tys cA)[q9.1]? = some (cA q9.1, ty) := by
      rcases (show q9.1 = 0 ∨ q9.1 = 1 ∨ q9.1 = 2 ∨ q9.1 = 3 ∨ q9.1 = 4 ∨ q9.1 = 5 ∨ q9.1 = 6 ∨ q9.1 = 7 by omega) with z | z | z | z | z | z | z | z <;> rw [z] <;> exact ⟨_, rfl⟩
    exact en_a_alen hx hb hK (hk _ _ _ _ _ _ hn0 g3) g1 hty hd
  case iaload =>
    simp only [decide_eq_true_eq] at hok
    replace hd := en_dec_k hd hok
    subst hok
    rcases en_aget_inv h with ⟨i, a, r, q9, v, rfl, g1, g2, g3, g4, g5⟩ | ⟨i, j, r, v, rfl, g4, g3, g5⟩
    rotate_left
    · have hcl : (nI i).toNatClampNeg = i := nI_clamp g3
      rcases en_xget_inv g4 with ⟨rfl, z1, L, hoc, z2⟩ | ⟨rfl, z1, z2, rfl⟩ | ⟨rfl, z1, x, z2, rfl⟩
      rotate_left
      · cases z1
      · have hil : i < 9 := (List.getElem?_eq_some_iff.mp z2).1
        refine ⟨(hk _ _ _ _ _ _ hn0 g5).1, (hk _ _ _ _ _ _ hn0 g5).2.1, fun H locs la vs hl' hv' hP hS => ?_⟩
        obtain ⟨w1, ws, rfl, h1, hw1⟩ := en_rvs_cons hv'
        obtain ⟨w2, ws, rfl, h2, hw2⟩ := en_rvs_cons hw1
        have h1 : w1 = .int (nI i) := h1
        have h2 : w2 = .ref (ex 45) := h2
        subst h1
        subst h2
        refine va_ti (v := .int (nI x)) hx hb hK.2.1.2.2.2.2.2.2.2.2.1 hS (i := nI i) (fun z => ?_) (by rw [hcl, List.getD_eq_getElem?_getD, z2]; rfl) hd ((hk _ _ _ _ _ _ hn0 g5).2.2 H locs la _ hl' ⟨rfl, hw2⟩ hP hS)
        rcases z with z | z
        · exact nI_pos g3 z
        · rw [hcl] at z
          omega
      obtain ⟨xs, hX, hbl, hnb, hv⟩ := ho L hoc
      have hil : i < L.length := (List.getElem?_eq_some_iff.mp z2).1
      refine ⟨(hk _ _ _ _ _ _ hn0 g5).1, (hk _ _ _ _ _ _ hn0 g5).2.1, fun H locs la vs hl' hv' hP hS => ?_⟩
      obtain ⟨w1, ws, rfl, h1, hw1⟩ := en_rvs_cons hv'
      obtain ⟨w2, ws, rfl, h2, hw2⟩ := en_rvs_cons hw1
      have h1 : w1 = .int (nI i) := h1
      have h2 : w2 = .ref (ex 1) := h2
      subst h1
      subst h2
      refine va_sld hx hb hX hbl hnb hS (i := nI i) (fun z => ?_) hd ?_
      · rcases z with z | z
        · exact nI_pos g3 z
        · rw [hcl] at z
          omega
      · rw [hcl]
        exact (hk _ _ _ _ _ _ hn0 g5).2.2 H locs la _ hl' ⟨hv i v z2, hw2⟩ hP hS
    have z : q9.1 = 0 := Nat.eq_of_beq_eq_true g2
    exact en_a_aget (hk _ _ _ _ _ _ hn0 g5) g1 g3 g4 (fun H locs la vs fs w f1 f2 f3 K => by
      rw [z] at f1 f2 f3
      exact W.iald hx hb f1 ((en_ty hK.1 0 rfl).1 fs.length (vp_V fs)) (fun q => by cases q) f2 f3 rfl rfl hd K)
  case laload =>
    simp only [decide_eq_true_eq] at hok
    replace hd := en_dec_k hd hok
    subst hok
    rcases en_aget_inv h with ⟨i, a, r, q9, v, rfl, g1, g2, g3, g4, g5⟩ | ⟨i, j, r, v, rfl, g4, g3, g5⟩
    rotate_left
    · rcases en_xget_inv g4 with ⟨rfl, z1, L, hoc, z2⟩ | ⟨rfl, z1, z2, rfl⟩ | ⟨rfl, z1, x, z2, rfl⟩
      · cases z1
      · cases z1
      · cases z1
    have z : q9.1 = 3 := Nat.eq_of_beq_eq_true g2
    exact en_a_aget (hk _ _ _ _ _ _ hn0 g5) g1 g3 g4 (fun H locs la vs fs w f1 f2 f3 K => by
      rw [z] at f1 f2 f3
      exact W.lald hx hb f1 ((en_ty hK.1 3 rfl).1 fs.length (vp_V fs)) (fun q => by cases q) f2 f3 rfl rfl hd K)
  case baload =>
    simp only [decide_eq_true_eq] at hok
    replace hd := en_dec_k hd hok
    subst hok
    rcases en_aget_inv h with ⟨i, a, r, q9, v, rfl, g1, g2, g3, g4, g5⟩ | ⟨i, j, r, v, rfl, g4, g3, g5⟩
    rotate_left
    · rcases en_xget_inv g4 with ⟨rfl, z1, L, hoc, z2⟩ | ⟨rfl, z1, z2, rfl⟩ | ⟨rfl, z1, x, z2, rfl⟩
      · cases z1
      · cases z1
      · cases z1
    rw [Bool.or_eq_true] at g2
    rcases g2 with g2 | g2
    · have z : q9.1 = 2 := Nat.eq_of_beq_eq_true g2
      exact en_a_aget (hk _ _ _ _ _ _ hn0 g5) g1 g3 g4 (fun H locs la vs fs w f1 f2 f3 K => by
        rw [z] at f1 f2 f3
        exact W.zald hx hb f1 ((en_ty hK.1 2 rfl).1 fs.length (vp_V fs)) (fun q => by cases q) f2 f3 rfl rfl hd K)
    · have z : q9.1 = 1 := Nat.eq_of_beq_eq_true g2
      exact en_a_aget (hk _ _ _ _ _ _ hn0 g5) g1 g3 g4 (fun H locs la vs fs w f1 f2 f3 K => by
        rw [z] at f1 f2 f3
        exact W.bald hx hb f1 ((en_ty hK.1 1 rfl).1 fs.length (vp_V fs)) (fun q => by cases q) f2 f3 rfl rfl hd K)
  case aaload =>
    simp only [decide_eq_true_eq] at hok
    replace hd := en_dec_k hd hok
    subst hok
    rcases en_aget_inv h with ⟨i, a, r, q9, v, rfl, g1, g2, g3, g4, g5⟩ | ⟨i, j, r, v, rfl, g4, g3, g5⟩
    rotate_left
    · have hcl : (nI i).toNatClampNeg = i := nI_clamp g3
      rcases en_xget_inv g4 with ⟨rfl, z1, L, hoc, z2⟩ | ⟨rfl, z1, z2, rfl⟩ | ⟨rfl, z1, x, z2, rfl⟩
      · cases z1
      rotate_left
      · cases z1
      refine ⟨(hk _ _ _ _ _ _ hn0 g5).1, (hk _ _ _ _ _ _ hn0 g5).2.1, fun H locs la vs hl' hv' hP hS => ?_⟩
      obtain ⟨w1, ws, rfl, h1, hw1⟩ := en_rvs_cons hv'
      obtain ⟨w2, ws, rfl, h2, hw2⟩ := en_rvs_cons hw1
      have h1 : w1 = .int (nI i) := h1
      have h2 : w2 = .ref (ex 44) := h2
      subst h1
      subst h2
      refine vb_tq (v := .ref (ex (2 + i))) hx hb hK.2.1.2.2.2.2.2.2.2.1 hS (i := nI i) (fun z => ?_) (by rw [hcl]) hd ((hk _ _ _ _ _ _ hn0 g5).2.2 H locs la _ hl' ⟨rfl, hw2⟩ hP hS)
      rcases z with z | z
      · exact nI_pos g3 z
      · rw [hcl] at z
        omega
    simp only [Bool.and_eq_true] at g2
    have z1 : 4 ≤ q9.1 := Nat.le_of_ble_eq_true g2.1
    have z2 : q9.1 ≤ 7 := Nat.le_of_ble_eq_true g2.2
    refine en_a_aget (hk _ _ _ _ _ _ hn0 g5) g1 g3 g4 (fun H locs la vs fs w f1 f2 f3 K => ?_)
    rcases (show q9.1 = 4 ∨ q9.1 = 5 ∨ q9.1 = 6 ∨ q9.1 = 7 by omega) with z | z | z | z <;> rw [z] at f1 f2 f3
    · exact W.aald (ty := .object "PackWeeks$Word") hx hb f1 ((en_ty hK.1 4 rfl).1 fs.length (vp_V fs)) rfl (fun q => by cases q) f2 f3 rfl rfl hd K
    · exact W.aald (ty := .object "PackWeeks$Stand") hx hb f1 ((en_ty hK.1 5 rfl).1 fs.length (vp_V fs)) rfl (fun q => by cases q) f2 f3 rfl rfl hd K
    · exact W.aald (ty := .object "PackWeeks$Sights") hx hb f1 ((en_ty hK.1 6 rfl).1 fs.length (vp_V fs)) rfl (fun q => by cases q) f2 f3 rfl rfl hd K
    · exact W.aald (ty := .array .int) hx hb f1 ((en_ty hK.1 7 rfl).1 fs.length (vp_V fs)) rfl (fun q => by cases q) f2 f3 rfl rfl hd K
  case iastore =>
    simp only [decide_eq_true_eq] at hok
    replace hd := en_dec_k hd hok
    subst hok
    obtain ⟨v, i, a, r, q9, rfl, g1, g2, g3, g4, g5⟩ := en_aput_inv h
    obtain ⟨x, rfl, z⟩ := en_afit0 g2
    exact en_a_aput (hk _ _ _ _ _ _ hn0 g5) g1 g3 g4 (fun H locs la vs fs w hP f1 f2 f3 K => by
      replace K := K _ f3
      have f3 : w = .int (nI x) := f3
      subst f3
      rw [z] at f1 f2 K
      exact W.iast hx hb f1 ((en_ty hK.1 0 rfl).1 fs.length (vp_V fs)) (fun q => by cases q) f2 rfl rfl hd K)
  case lastore =>
    simp only [decide_eq_true_eq] at hok
    replace hd := en_dec_k hd hok
    subst hok
    obtain ⟨v, i, a, r, q9, rfl, g1, g2, g3, g4, g5⟩ := en_aput_inv h
    obtain ⟨x, rfl, z⟩ := en_afit1 g2
    exact en_a_aput (hk _ _ _ _ _ _ hn0 g5) g1 g3 g4 (fun H locs la vs fs w hP f1 f2 f3 K => by
      replace K := K _ f3
      have f3 : w = .long (lN x) := f3
      subst f3
      rw [z] at f1 f2 K
      exact W.last hx hb f1 ((en_ty hK.1 3 rfl).1 fs.length (vp_V fs)) (fun q => by cases q) f2 rfl rfl hd K)
  case bastore =>
    simp only [decide_eq_true_eq] at hok
    replace hd := en_dec_k hd hok
    subst hok
    obtain ⟨v, i, a, r, q9, rfl, g1, g2, g3, g4, g5⟩ := en_aput_inv h
    rcases en_afit2 g2 with ⟨x, rfl, z, z2⟩ | ⟨x, rfl, z, z2⟩
    · exact en_a_aput (hk _ _ _ _ _ _ hn0 g5) g1 g3 g4 (fun H locs la vs fs w hP f1 f2 f3 K => by
        replace K := K _ f3
        have f3 : w = .int (nI x) := f3
        subst f3
        rw [z] at f1 f2 K
        have f4 : narrow .boolean (.int (nI x)) = .int (nI x) := by
          rcases (show x = 0 ∨ x = 1 by omega) with rfl | rfl <;> decide
        exact W.zast hx hb f1 ((en_ty hK.1 2 rfl).1 fs.length (vp_V fs)) (fun q => by cases q) f2 rfl rfl hd (by rw [f4]; exact K))
    · exact en_a_aput (hk _ _ _ _ _ _ hn0 g5) g1 g3 g4 (fun H locs la vs fs w hP f1 f2 f3 K => by
        replace K := K _ f3
        have f3 : w = .int (nI x) := f3
        subst f3
        rw [z] at f1 f2 K
        exact W.bast hx hb f1 ((en_ty hK.1 1 rfl).1 fs.length (vp_V fs)) (fun q => by cases q) f2 rfl rfl hd (by first | (rw [z2]; exact K) | (rw [show narrow .byte (.int (nI x)) = .int (nI x) from congrArg Value.int z2]; exact K)))
  case aastore =>
    simp only [decide_eq_true_eq] at hok
    replace hd := en_dec_k hd hok
    subst hok
    obtain ⟨v, i, a, r, q9, rfl, g1, g2, g3, g4, g5⟩ := en_aput_inv h
    rcases en_afit3 g2 with ⟨rfl, z⟩ | ⟨j, rfl, hj, z⟩ | ⟨y, qy, rfl, hqy, g2⟩
    · exact en_a_aput (hk _ _ _ _ _ _ hn0 g5) g1 g3 g4 (fun H locs la vs fs w hP f1 f2 f3 K => by
        replace K := K _ f3
        have f3 : w = .null := f3
        subst f3
        rw [z] at f1 f2 K
        exact va_WaastN (C := "PackWeeks$Word") hx hb f1 ((en_ty hK.1 4 rfl).1 fs.length (vp_V fs)) (fun q => by cases q) f2 rfl rfl hd K)
    · have T0 := hk _ _ _ _ _ _ hn0 g5
      refine ⟨T0.1, T0.2.1, fun H locs la vs hl' hv' hP hS => ?_⟩
      obtain ⟨w, ws, rfl, h0, hw1⟩ := en_rvs_cons hv'
      obtain ⟨w1, ws, rfl, h1, hw2⟩ := en_rvs_cons hw1
      obtain ⟨w2, ws, rfl, h2, hw3⟩ := en_rvs_cons hw2
      have h0 : w = .ref (ex (2 + j)) := h0
      have h1 : w1 = .int (nI i) := h1
      have h2 : w2 = .ref (ba + a) := h2
      subst h0
      subst h1
      subst h2
      obtain ⟨x0, hx0⟩ : ∃ x, q9.2[i]? = some x := ⟨q9.2[i], by simp [g4]⟩
      obtain ⟨fs, -, f1, -, f2, -, f5⟩ := en_arr_at hP g1 g3 hx0
      have hfl : i < fs.length := by rw [en_rvs_len f5]; exact g4
      rw [z] at f1 f2
      obtain ⟨cell, j3, j5, hcls1, -⟩ := (hK.2.1.2.2.2.2.2.2.1 j hj).kept hS.2.1
      obtain ⟨kA, comp, k1, k2, k3, -⟩ := (en_ty hK.1 4 rfl).2
      obtain ⟨kC, hkC, -⟩ := Vm.findClass_spec hcls1
      have hcomp : comp = cell.cls := Option.some.inj (k3.symm.trans hcls1)
      subst hcomp
      refine W.aast hx hb f1 (fun q h => by cases h) (fun h => by cases h) k1 k2 rfl hkC ⟨fun z => f2 (Or.inl z), Nat.not_le.mp (fun z => f2 (Or.inr z))⟩ j3 (fun q h => by rw [h] at j5; cases j5) hkC (va_asg _ _) rfl rfl hd (fun H' e1 e2 e3 => T0.2.2 H' _ la ws hl' hw3 (hP.set g1 ⟨fs.set i (.ref (ex (2 + j))), ?_, ?_⟩ e2 e3) (hS.put e2 e3 (Nat.le_add_right _ _)))
      · show en_rvs ba ex (en_upd q9.2 i _) _
        rw [en_upd_eq]
        exact en_rvs_set i f5 rfl
      · rw [e1, nI_clamp g3, arrV_store, List.length_set, z]
        exact congrArg some (en_arrV_congr (fun j _ => vp_updV_set hfl _ j))
    · refine en_a_aput (hk _ _ _ _ _ _ hn0 g5) g1 g3 g4 (fun H locs la vs fs w hP f1 f2 f3 K => ?_)
      replace K := K _ f3
      have f3 : w = .ref (ba + y) := f3
      subst f3
      have key : ∀ (k9 ci : Nat) (rr : vw_C), q9.1 = k9 → qy.1 = ci → vwCl[ci]? = some rr → (en_tys cA)[k9]? = some (cA k9, .object rr.1) → W p l e R s m args below meth c H locs (n - n0) sl Q (F0 m pc la (.ref (ba + y) :: .int (nI i) :: .ref (ba + a) :: vs)) := by
        intro k9 ci rr e1 e2 e3 e4
        rw [e1] at f1 f2 K
        obtain ⟨fy, r', j1, j2, cell, j3, j4, j5, -⟩ := hP.obj hqy (by rw [e2]; exact en_cl_lt e3)
        rw [e2] at j2 j4
        obtain ⟨hcls1, kC, hkC, hkind⟩ := (hK.1.1 _ _ e3).2
        obtain ⟨kA, comp, k1, k2, k3, -⟩ := (en_ty hK.1 k9 e4).2
        have hcomp : comp = D.1 ci := Option.some.inj (k3.symm.trans hcls1)
        subst hcomp
        exact W.aast hx hb f1 (fun q h => by cases h) (fun h => by cases h) k1 k2 rfl hkC ⟨fun z => f2 (Or.inl z), Nat.not_le.mp (fun z => f2 (Or.inr z))⟩ j3 (fun q h => by rw [j5] at h; cases h) (by rw [j4]; exact hkC) (by rw [j4]; exact va_assign ⟨hcls1, kC, hkC, hkind⟩) rfl rfl hd K
      rcases g2 with ⟨z1, z2⟩ | ⟨z1, z2⟩
      · exact key 5 7 _ z1 z2 rfl rfl
      · exact key 6 6 _ z1 z2 rfl rfl
  case invokestatic i =>
    simp only [Bool.and_eq_true, decide_eq_true_eq] at hok
    obtain ⟨h1, h2⟩ := hok
    replace hd := en_dec_k hd h1
    subst h1
    cases b1 : Nat.beq x1 9991 <;> rw [b1] at h h2 <;> dsimp only [cond] at h h2
    · cases b2 : Nat.beq x1 9992 <;> rw [b2] at h h2 <;> dsimp only [cond] at h h2
      · simp only [Bool.and_eq_true] at h2
        obtain ⟨q9, f1, f2⟩ := en_minf_ok h2.2
        simp only [Bool.and_eq_true, decide_eq_true_eq] at f2
        obtain ⟨as, rest, r, g1, -, g2, g3, g4, g5⟩ := en_inv_inv h
        rw [← f2.2] at g1
        exact en_a_static hx hb hml hown hts hK hRf hRl hRc hRs hn0 g4 (hk _ _ _ _ _ _ (by first | decide | omega) g5) (en_mi f1) f2.1 g1 g2 (hf _ _ _ _ _ _ g3 f1) (en_mcall_ok h2.1 f1 hK) hd
      · obtain ⟨w, hw, h4⟩ := List.any_eq_true.mp h2
        simp only [Bool.and_eq_true, decide_eq_true_eq] at h4
        obtain ⟨e1, e2, e3⟩ := h4
        have h5 := List.all_eq_true.mp en_QL_ok w hw
        unfold en_qok at h5
        rw [e3] at h5
        have h5 := en_tb_mem h5
        rw [e1, e2] at h5
        obtain ⟨a, b, r, v, rfl, g1, g2, g3⟩ := en_mm_inv h
        exact en_pure (hk _ _ _ _ _ _ hn0 g3) (fun H locs la vs hl hv _ K => by
          obtain ⟨vb, ws, rfl, f1, f2⟩ := en_rvs_cons hv
          obtain ⟨va, ws, rfl, f3, f4⟩ := en_rvs_cons f2
          obtain ⟨x, y, rfl, rfl, hr, -⟩ := en_ii_ok (F := fun x y => if y < x then y else x) (P := fun _ _ => True) (fun x y z hz => by
            unfold en_imin at hz
            cases hz
            exact ⟨en_nI_tn _, trivial⟩) f3 f1 g2
          have hsum : (ws.map fun v => v.category).sum ≤ 8 := by rw [en_rvs_cat f4, ← en_sum_eq]; exact g1
          have hsz : la.size = nL := by obtain ⟨vl, z1, -⟩ := hl; exact z1.1
          exact va_mmin hx hb (hml.trans hsz.symm) hown (hts _ h5) (hts _ (en_tb_mem en_w_min_s)) (hts _ (en_tb_mem en_w_math)) (hts _ (en_tb_mem en_w_min_c)) (by first | decide | omega) (by first | decide | omega) (by have := (hk _ _ _ _ _ _ hn0 g3).1; dsimp only at this; omega) (Nat.le_trans (hk _ _ _ _ _ _ hn0 g3).2.1 hRs) hd (K la _ hl ⟨hr, f4⟩))
    · obtain ⟨w, hw, h4⟩ := List.any_eq_true.mp h2
      simp only [Bool.and_eq_true, decide_eq_true_eq] at h4
      obtain ⟨e1, e2, e3⟩ := h4
      have h5 := List.all_eq_true.mp en_QL_ok w hw
      unfold en_qok at h5
      rw [e3] at h5
      have h5 := en_tb_mem h5
      rw [e1, e2] at h5
      obtain ⟨a, b, r, v, rfl, g1, g2, g3⟩ := en_mm_inv h
      exact en_pure (hk _ _ _ _ _ _ hn0 g3) (fun H locs la vs hl hv _ K => by
        obtain ⟨vb, ws, rfl, f1, f2⟩ := en_rvs_cons hv
        obtain ⟨va, ws, rfl, f3, f4⟩ := en_rvs_cons f2
        obtain ⟨x, y, rfl, rfl, hr, -⟩ := en_ii_ok (F := fun x y => if x < y then y else x) (P := fun _ _ => True) (fun x y z hz => by
          unfold en_imax at hz
          cases hz
          exact ⟨en_nI_tn _, trivial⟩) f3 f1 g2
        have hsum : (ws.map fun v => v.category).sum ≤ 8 := by rw [en_rvs_cat f4, ← en_sum_eq]; exact g1
        have hsz : la.size = nL := by obtain ⟨vl, z1, -⟩ := hl; exact z1.1
        exact va_mmax hx hb (hml.trans hsz.symm) hown (hts _ h5) (hts _ (en_tb_mem en_w_max_s)) (hts _ (en_tb_mem en_w_math)) (hts _ (en_tb_mem en_w_max_c)) (by first | decide | omega) (by first | decide | omega) (by have := (hk _ _ _ _ _ _ hn0 g3).1; dsimp only at this; omega) (Nat.le_trans (hk _ _ _ _ _ _ hn0 g3).2.1 hRs) hd (K la _ hl ⟨hr, f4⟩))
  case invokevirtual i =>
    simp only [Bool.and_eq_true, decide_eq_true_eq] at hok
    obtain ⟨h1, h2⟩ := hok
    replace hd := en_dec_k hd h1
    subst h1
    obtain ⟨q9, f1, f2⟩ := en_minf_ok h2.2
    simp only [Bool.and_eq_true, decide_eq_true_eq] at f2
    obtain ⟨as, rest, r, g1, g0, g2, g3, g4, g5⟩ := en_inv_inv h
    obtain ⟨a, as2, qr, rfl, j1, j2⟩ := en_recv_inv g0
    rw [← f2.2.1] at g1
    exact en_a_virt hx hb hml hown hts hK hRf hRl hRc hRs hn0 g4 (hk _ _ _ _ _ _ (by first | decide | omega) g5) (en_mi f1) f2.1 g1 g2 j1 (j2.trans f2.2.2.symm) (hf _ _ _ _ _ _ g3 f1) (en_mcallV_ok h2.1 f1) hd
  case invokespecial i =>
    simp only [Bool.and_eq_true, decide_eq_true_eq] at hok
    obtain ⟨h1, h2⟩ := hok
    replace hd := en_dec_k hd h1
    subst h1
    cases b1 : Nat.beq x1 9999 <;> rw [b1] at h h2 <;> dsimp only [cond] at h h2
    · simp only [Bool.and_eq_true] at h2
      obtain ⟨q9, f1, f2⟩ := en_minf_ok h2.2
      simp only [Bool.and_eq_true, decide_eq_true_eq] at f2
      obtain ⟨as, rest, r, g1, g0, g2, g3, g4, g5⟩ := en_inv_inv h
      obtain ⟨a, as2, rfl⟩ := en_isref_inv g0
      rw [← f2.2] at g1
      exact en_a_init hx hb hml hown hts hK hRf hRl hRc hRs hn0 g4 (hk _ _ _ _ _ _ (by first | decide | omega) g5) (en_mi f1) f2.1 g1 g2 (hf _ _ _ _ _ _ g3 f1) (en_mcall_ok h2.1 f1 hK) hd
    · obtain ⟨w, hw, h4⟩ := List.any_eq_true.mp h2
      simp only [Bool.and_eq_true, decide_eq_true_eq] at h4
      obtain ⟨e1, e2⟩ := h4
      have h5 := en_tb_mem (List.all_eq_true.mp en_OL_ok w hw)
      rw [e1, e2] at h5
      obtain ⟨a, r, rfl, g1, g2⟩ := en_oinit_inv h
      exact en_pure (hk _ _ _ _ _ _ hn0 g2) (fun H locs la vs hl hv _ K => by
        obtain ⟨w9, ws, rfl, f1, f2⟩ := en_rvs_cons hv
        have f1 : w9 = .ref (ba + a) := f1
        subst f1
        have hsum : (ws.map fun v => v.category).sum ≤ 8 := by rw [en_rvs_cat f2, ← en_sum_eq]; exact g1
        have hsz : la.size = nL := by obtain ⟨vl, z1, -⟩ := hl; exact z1.1
        exact W.objInit hx hb hown (hts _ h5) (hts _ (en_tb_mem en_w_oi)) (hts _ (en_tb_mem en_w_oc)) rfl (hsz.trans hml.symm) rfl hd (by first | decide | omega) (by show 2 * 0 + _ + 12 ≤ _; omega) (K la ws hl f2))
  case return_ =>
    simp only [Bool.and_eq_true, decide_eq_true_eq] at hok
    obtain ⟨h1, h2⟩ := hok
    replace hd := en_dec_k hd h1
    subst h1
    cases st with
    | nil =>
      dsimp only at h
      have h := Option.some.inj h
      obtain ⟨rfl, rfl, rfl⟩ := hG _ h.symm
      exact en_a_retv hx hb (hret.trans h2) hlk rfl hd
    | cons a r => cases h
  case ireturn =>
    simp only [Bool.and_eq_true, decide_eq_true_eq] at hok
    obtain ⟨h1, h2⟩ := hok
    replace hd := en_dec_k hd h1
    subst h1
    obtain ⟨a, rfl, g1, g2, g3⟩ := en_ret1_inv h
    simp only [Bool.or_eq_true, Bool.and_eq_true, decide_eq_true_eq] at h2
    obtain ⟨rfl, rfl, rfl⟩ := hG _ g3
    rcases h2 with ⟨z1, z2⟩ | ⟨z1, z2⟩
    · exact en_a_ret hx hb (hret.trans z2) hlk rfl (fun H locs la w Qc free hw hq hfr => by
        obtain ⟨x, rfl⟩ := en_kd0 hw g1
        exact W.iret hx hb (hret.trans z2) hq hfr hd hlk)
    · exact en_a_ret hx hb (hret.trans z2) hlk rfl (fun H locs la w Qc free hw hq hfr => by
        obtain ⟨f1, -⟩ := en_fits (ty := .boolean) rfl (g2 z1) hw
        obtain ⟨x, rfl⟩ := en_kd0 hw g1
        exact W.zret hx hb (hret.trans z2) f1 hq hfr hd hlk)
  case lreturn =>
    simp only [Bool.and_eq_true, decide_eq_true_eq] at hok
    obtain ⟨h1, h2⟩ := hok
    replace hd := en_dec_k hd h1
    subst h1
    obtain ⟨a, rfl, g1, g2, g3⟩ := en_ret1_inv h
    obtain ⟨rfl, rfl, rfl⟩ := hG _ g3
    exact en_a_ret hx hb (hret.trans h2) hlk rfl (fun H locs la w Qc free hw hq hfr => by
      obtain ⟨x, rfl⟩ := en_kd1 hw g1
      exact W.lret hx hb (hret.trans h2) hq hfr hd hlk)
  case areturn =>
    simp only [Bool.and_eq_true, decide_eq_true_eq] at hok
    obtain ⟨h1, h2⟩ := hok
    replace hd := en_dec_k hd h1
    subst h1
    obtain ⟨a, rfl, g1, g2, g3⟩ := en_ret1_inv h
    obtain ⟨rfl, rfl, rfl⟩ := hG _ g3
    exact en_a_ret hx hb (hret.trans h2) hlk rfl (fun H locs la w Qc free hw hq hfr => W.aret hx hb (hret.trans h2) (Or.inl ⟨_, rfl⟩) (en_kd2 hw g1) hq hfr hd hlk)
  all_goals cases h
theorem en_sound {Q : State → Prop} {N SL : Nat} {oc : Option (List en_V)} {q : en_M} {d : Nat} {f : en_F} {code : Nat → Option en_I} {stop : Nat → Bool} (C0 : en_Cx p R s m args meth c ba ex cA D nL n0 N SL q d) (ho : ∀ L, oc = some L → ∃ xs : Nat → Int32, va_X (ex 1) L.length xs s s.heap ∧ ex 1 < s.heap.size ∧ ¬ ba ≤ ex 1 ∧ ∀ i v, L[i]? = some v → en_rv ba ex v (.int (xs i))) (hf : ∀ (mi : Nat) (as : List en_V) (t : en_H) (n : Nat) (r : en_R) (q9 : en_M), f mi as t n = some r → en_nth en_inf mi = some q9 → en_Met l ba ex cA D d q9 as t n r)
    (hcode : ∀ pc e, code pc = some e → en_ok q pc e = true) : ∀ (fuel pc : Nat) (ls : en_L) (st : List en_V) (t : en_H) (n sl : Nat) (o : en_O), n0 ≤ n → en_run en_df oc f code stop fuel pc ls st t n sl = some o → (∀ r : en_R, o = .inl r → Q = MQ below (en_Qc ba ex cA D r) args s (r.2.2.1 - n0) r.2.2.2 (fun x => ba ≤ x) ∧ N = r.2.2.1 ∧ SL = r.2.2.2) → (∀ S : en_S, o = .inr S → en_T p l e R s m args below meth c Q ba ex cA D nL n0 N SL S) → en_T p l e R s m args below meth c Q ba ex cA D nL n0 N SL (pc, ls, st, t, n, sl) := by
  intro fuel
  induction fuel with
  | zero => intro pc ls st t n sl o _ h; cases h
  | succ fuel ih =>
    intro pc ls st t n sl o hn0 h hG hS
    have h : (match code pc with
      | some e => en_step en_df oc f pc e ls st t n sl (fun pc' ls' st' t' n' sl' => bif stop pc' then some (.inr (pc', ls', st', t', n', sl')) else en_run en_df oc f code stop fuel pc' ls' st' t' n' sl')
      | none => none) = some o := h
    cases hc : code pc with
    | none => rw [hc] at h; cases h
    | some e =>
      rw [hc] at h
      obtain ⟨ins, nx, x1, x2⟩ := e
      refine en_stepok C0 ho hf hn0 (hcode _ _ hc) h (fun pc' ls' st' t' n' sl' hn' h' => ?_) hG
      cases hs : stop pc' with
      | true =>
        rw [hs] at h'
        exact hS _ (Option.some.inj h').symm
      | false =>
        rw [hs] at h'
        exact ih pc' ls' st' t' n' sl' o hn' h' hG hS
end
theorem en_ofWF {l : Launch} {y : MethodName} {ws ws' : List Cond} {rm : Room} {Pc : Array Value → State → Prop} {Qc : Array Value → State → Outcome → State → Prop} {mc ms : Nat} {free : Addr → Prop} {cc : ByteArray} {maxL : Nat} {ret : Option FieldType}
    (hy : plainFor y = true) (hw : ws = Cond.code y cc maxL ret :: ws')
    (body : ∀ p e s m args below meth c s₁, BodyLoose p l y (headSpec ws rm) cc maxL ret e s m args below meth c s₁ → c.maxLocals = maxL → Pc args s →
      W p l e (headSpec ws rm).room s m args below meth c s.heap [] 0 0 (MQ below Qc args s mc ms free) (entryFrame m args maxL)) : Met l y ws rm Pc Qc mc ms free := by
  refine MetFree.of_bodySF (code := cc) (maxLocals := maxL) (ret := ret) hy ?_ ?_
  · intro args s m h hn
    obtain ⟨meth, c, h1, h2, h3, h4, h5, h6, -, -⟩ := Cond.code_spec hn (atoms_spec (ws := ws) h _ (by rw [hw]; exact List.mem_cons_self))
    exact ⟨meth, c, h1, h2, h3, h4, h5, h6⟩
  · intro p e s m args below meth c s₁ B hml hP _
    have hh0 : s₁.heap = s.heap := by rw [B.state]; rfl
    obtain ⟨t, a1, o, b1, b2, b3⟩ := body p e s m args below meth c s₁ B hml hP s₁ hh0 (Stand.of_body B)
    exact ⟨t, o, a1, b1, b2, ⟨b3.1, b3.2⟩⟩
/-- a run of the engine from a method's entry to its end is a contract -/
theorem en_met {code : Nat → Option en_I} {q : en_M} {d : Nat} {f : en_F} {l : Launch} {ba : Nat} {ex : Nat → Nat} {cA : Nat → ClassId} {D : va_G} (hq : en_Mi q) (hcode : ∀ pc e, code pc = some e → en_ok q pc e = true) (hf : ∀ (mi : Nat) (as : List en_V) (t : en_H) (n : Nat) (r : en_R) (q9 : en_M), f mi as t n = some r → en_nth en_inf mi = some q9 → en_Met l ba ex cA D d q9 as t n r)
    {as : List en_V} {t : en_H} {n : Nat} {r : en_R} (fuel : Nat) (hsum : en_sum as ≤ q.2.2.1) (h : en_run en_df none f code (fun _ => false) fuel 0 (en_args as 0) [] t n 0 = some (.inl r)) : en_Met l ba ex cA D (d + 1) q as t n r := by
  refine en_ofWF (cc := q.2.1) (maxL := q.2.2.1) (ret := q.2.2.2.1) hq.2.2.1 rfl ?_
  intro p e s m args below meth c s₁ B hml hv
  obtain ⟨⟨vs, rfl, hvs⟩, hP, hK⟩ := hv
  have hts : ∀ w ∈ en_gt, w.before vs.toArray s = true := fun w hw => atoms_spec (ws := en_ws q) B.pre w (List.mem_cons_of_mem _ hw)
  have hown : s.vm.findClass q.1.cls = some m.cls := findClass_of_methodNamed B.named
  rw [hq.2.1] at hown
  rw [lg_entry_eq]
  have hle : (lg_sl vs).length ≤ q.2.2.1 := by rw [en_args_len hvs, ← en_sum_eq]; exact hsum
  have hl := lv_entry vs hle
  have T := en_sound (p := p) (l := l) (e := e) (R := (headSpec (en_ws q) (en_rm (d + 1) (r.2.2.1 - n) r.2.2.2)).room) (s := s) (m := m) (args := vs.toArray) (below := below) (meth := meth) (c := c) (Q := MQ below (en_Qc ba ex cA D r) vs.toArray s (r.2.2.1 - n) r.2.2.2 (fun x => ba ≤ x)) (N := r.2.2.1) (SL := r.2.2.2) (n0 := n) (oc := none) (stop := fun _ => false) (nL := q.2.2.1) (d := d) ⟨B.exec, B.bytes, hml, rfl, hown, hts, hK, B.notSynchronized, B.returns, (name_of_methodNamed B.named B.method).1, Nat.le_refl _, Nat.le_refl _, Nat.le_refl _, Nat.le_refl _⟩ (fun L h => by cases h) hf hcode fuel 0 _ _ _ _ _ _ (Nat.le_refl n) h (fun r' hr => by cases hr; exact ⟨rfl, rfl, rfl⟩) (fun S hS => by cases hS)
  have K := T.2.2 s.heap [] _ [] ⟨_, hl, en_args_ok 0 hvs⟩ trivial hP va_S.rf
  dsimp only at K
  rw [Nat.sub_self] at K
  exact K
/-- EVERY CALL OF THE ENGINE IS A CONTRACT OF THE MACHINE -/
theorem en_call_sound {code : Nat → Nat → Option en_I} {ml : Nat → Nat} (hml : ∀ mi q, en_nth en_inf mi = some q → ml mi = q.2.2.1) (hcode : ∀ mi q, en_nth en_inf mi = some q → ∀ pc e, code mi pc = some e → en_ok q pc e = true) (l : Launch) (ba : Nat) (ex : Nat → Nat) (cA : Nat → ClassId) (D : va_G) : ∀ (d mi : Nat) (as : List en_V) (t : en_H) (n : Nat) (r : en_R) (q : en_M), en_call en_df code ml d mi as t n = some r → en_nth en_inf mi = some q → en_Met l ba ex cA D d q as t n r := by
  intro d
  induction d with
  | zero => intro mi as t n r q h; cases h
  | succ d ih =>
    intro mi as t n r q h hq
    have h : (bif Nat.ble (en_sum as) (ml mi) then (match en_run en_df none (en_call en_df code ml d) (code mi) (fun _ => false) 1000000 0 (en_args as 0) [] t n 0 with
      | some (.inl r) => some r
      | _ => none) else none) = some r := h
    obtain ⟨h1, h⟩ := en_bif h
    have h1 := Nat.le_of_ble_eq_true h1
    rw [hml mi q hq] at h1
    split at h
    · rename_i r' hr
      cases h
      exact en_met (en_mi hq) (hcode mi q hq) ih 1000000 h1 hr
    · cases h
end END1
