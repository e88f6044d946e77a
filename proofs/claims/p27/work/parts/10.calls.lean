section ENA
theorem en_take_ok : ∀ (m : Nat) {st acc as rest : List en_V}, en_take m st acc = some (as, rest) → ∃ l : List en_V, st = l ++ rest ∧ as = l.reverse ++ acc ∧ l.length = m
  | 0, st, acc, as, rest, h => by
    have h : some (acc, st) = some (as, rest) := h
    cases h
    exact ⟨[], rfl, rfl, rfl⟩
  | m + 1, [], acc, as, rest, h => by
    have h : (none : Option (List en_V × List en_V)) = some (as, rest) := h
    cases h
  | m + 1, a :: r, acc, as, rest, h => by
    have h : en_take m r (a :: acc) = some (as, rest) := h
    obtain ⟨l, h1, h2, h3⟩ := en_take_ok m h
    exact ⟨a :: l, by rw [h1]; rfl, by rw [h2]; simp, by simp [h3]⟩
theorem en_rvs_split {ba : Nat} {ex : Nat → Nat} : ∀ {l r : List en_V} {vs : List Value}, en_rvs ba ex (l ++ r) vs → ∃ v1 v2, vs = v1 ++ v2 ∧ en_rvs ba ex l v1 ∧ en_rvs ba ex r v2
  | [], r, vs, h => ⟨[], vs, rfl, trivial, h⟩
  | a :: l, r, vs, h => by
    obtain ⟨v, ws, rfl, h1, h2⟩ := en_rvs_cons h
    obtain ⟨v1, v2, rfl, h3, h4⟩ := en_rvs_split h2
    exact ⟨v :: v1, v2, rfl, ⟨h1, h3⟩, h4⟩
theorem en_rvs_rev {ba : Nat} {ex : Nat → Nat} : ∀ {l : List en_V} {vs : List Value}, en_rvs ba ex l vs → en_rvs ba ex l.reverse vs.reverse
  | [], vs, h => by rw [en_rvs_nil h]; exact trivial
  | a :: l, vs, h => by
    obtain ⟨v, ws, rfl, h1, h2⟩ := en_rvs_cons h
    rw [List.reverse_cons, List.reverse_cons]
    exact en_rvs_app (en_rvs_rev h2) ⟨h1, trivial⟩
theorem en_sum_eq (l : List en_V) : en_sum l = (l.map en_cat).sum := by
  induction l with
  | nil => rfl
  | cons a l ih =>
    show en_cat a + en_sum l = _
    rw [ih, List.map_cons, List.sum_cons]
noncomputable def en_ws (q : en_M) : List Cond := Cond.code q.1 q.2.1 q.2.2.1 q.2.2.2.1 :: en_gt
/-- what the tables say of a method -/
noncomputable def en_Mi (q : en_M) : Prop := Cond.code q.1 q.2.1 q.2.2.1 q.2.2.2.1 ∈ en_gt ∧ q.1.cls = en_cn q.2.2.2.2.2.2 ∧ plainFor q.1 = true ∧ (q.1.cls ≠ "java/lang/invoke/MethodHandle" ∧ q.1.cls ≠ "java/lang/invoke/VarHandle" ∧ (parseMethodDescriptor q.1.desc).map (fun d => d.parameters.length) = some q.2.2.2.2.1) ∧ Cond.initialized q.1.cls ∈ en_gt ∧ q.2.2.1 ≤ 45 ∧
  (q.2.2.2.2.2.1 = 0 → Cond.static q.1 ∈ en_gt) ∧ (q.2.2.2.2.2.1 = 1 → Cond.instanceMethod q.1 ∈ en_gt ∧ Cond.selects q.1.cls q.1 q.1 ∈ en_gt ∧ ∃ r, vwCl[q.2.2.2.2.2.2]? = some r ∧ r.1 = q.1.cls) ∧ (2 ≤ q.2.2.2.2.2.1 → Cond.instanceMethod q.1 ∈ en_gt ∧ q.1.name = "<init>" ∧ q.2.2.2.1 = none)
theorem en_mi {mi : Nat} {q : en_M} (h : en_nth en_inf mi = some q) : en_Mi q := by
  rw [en_nth_eq] at h
  unfold en_inf at h
  rw [List.getElem?_map] at h
  cases hx : en_ix[mi]? with
  | none => rw [hx] at h; cases h
  | some x =>
    rw [hx] at h
    cases h
    have hk := en_ix_ok x (List.mem_of_getElem? hx)
    unfold en_iok at hk
    simp only [Bool.and_eq_true, decide_eq_true_eq] at hk
    obtain ⟨h1, h2, h3, h4, h5, h6, h7, h8, h9⟩ := hk
    refine ⟨en_isc_mem h1, h2, h3, ⟨h4, h5, h6⟩, en_tb_mem h7, Nat.le_of_ble_eq_true h8, ?_, ?_, ?_⟩
    · intro hz
      have hz : x.2.2.1 = 0 := hz
      rw [hz] at h9
      exact en_tb_mem h9
    · intro hz
      have hz : x.2.2.1 = 1 := hz
      rw [hz] at h9
      simp only [Bool.and_eq_true, decide_eq_true_eq] at h9
      refine ⟨en_tb_mem h9.1, en_tb_mem h9.2.1, ?_⟩
      have h10 := h9.2.2
      cases hr : vwCl[x.2.2.2.1]? with
      | none => rw [hr] at h10; cases h10
      | some r =>
        rw [hr] at h10
        exact ⟨r, hr, Option.some.inj h10⟩
    · intro hz
      have hz : 2 ≤ x.2.2.1 := hz
      obtain ⟨k, hk⟩ : ∃ k, x.2.2.1 = k + 2 := ⟨x.2.2.1 - 2, by omega⟩
      rw [hk] at h9
      simp only [Bool.and_eq_true, decide_eq_true_eq] at h9
      refine ⟨en_tb_mem h9.1, h9.2.1, ?_⟩
      have h10 := h9.2.2
      show (en_cd x.1).2.2.2 = none
      cases hr : (en_cd x.1).2.2.2 with
      | none => rfl
      | some r => rw [hr] at h10; cases h10
theorem en_ws_good {q : en_M} (h : en_Mi q) : GoodIn en_gt (en_ws q) := by
  intro w hw
  have hm : w ∈ en_gt := by
    rcases List.mem_cons.mp hw with rfl | hw
    · exact h.1
    · exact hw
  exact ⟨hm, good_of_word (List.mem_filter.mp hm).2⟩
noncomputable def en_rm (d mc ms : Nat) : Room := { frames := d, cells := mc, slots := ms, locals := 64 * d }
/-- a call's contract -/
noncomputable def en_Met (l : Launch) (ba : Nat) (ex : Nat → Nat) (cA : Nat → ClassId) (D : va_G) (d : Nat) (q : en_M) (as : List en_V) (t : en_H) (n : Nat) (r : en_R) : Prop :=
  Met l q.1 (en_ws q) (en_rm d (r.2.2.1 - n) r.2.2.2) (en_Pc ba ex cA D as t n) (en_Qc ba ex cA D r) (r.2.2.1 - n) r.2.2.2 (fun x => ba ≤ x)
section
variable {p : Program} {l : Launch} {e : Env} {R : Room} {s : State} {m : MethodId} {args : Array Value} {below : List Frame} {meth : Method} {c : Code} {Q : State → Prop}
variable {ba : Nat} {ex : Nat → Nat} {cA : Nat → ClassId} {D : va_G} {nL n0 N SL : Nat} {cc : ByteArray} {pc nx : Nat} {ls : en_L} {st : List en_V} {t : en_H} {n sl : Nat}
/-- any call: if the machine runs it by its contract, the engine's step is sound -/
theorem en_a_call {as rest : List en_V} {r : en_R} (hn0 : n0 ≤ n) (hnr : n ≤ r.2.2.1) (hT : en_T p l e R s m args below meth c Q ba ex cA D nL n0 N SL (pc + 3, ls, r.1.toList ++ rest, r.2.1, r.2.2.1, sl + r.2.2.2)) {m9 : Nat} (htk : en_take m9 st [] = some (as, rest)) (hsum : en_sum rest ≤ 8)
    (h : ∀ (H : Heap) (locs : List Loc) (la : Array Slot) (av rv : List Value), en_P ba ex cA D t n H → va_S (fun q => ba ≤ q) s.heap H locs → la.size = nL → en_rvs ba ex as av → av.length = m9 → 2 * (F0 m pc la (av.reverse ++ rv)).monitorRoom + (rv.map fun v => v.category).sum ≤ 8 → n - n0 + (r.2.2.1 - n) ≤ N - n0 → sl + r.2.2.2 ≤ SL →
      ∃ a : Array Value, va_Run p l e R s m args below meth c H locs (n - n0) sl (r.2.2.1 - n) r.2.2.2 (F0 m pc la (av.reverse ++ rv)) rv (en_Qc ba ex cA D r a) (fun x => ba ≤ x)) : en_T p l e R s m args below meth c Q ba ex cA D nL n0 N SL (pc, ls, st, t, n, sl) := by
  have hN : r.2.2.1 ≤ N := hT.1
  have hSL : sl + r.2.2.2 ≤ SL := hT.2.1
  refine ⟨by show n ≤ N; omega, by show sl ≤ SL; omega, fun H locs la vs hl' hv' hP hS => ?_⟩
  obtain ⟨lst, h1, h2, h3⟩ := en_take_ok m9 htk
  rw [List.append_nil] at h2
  have hv' : en_rvs ba ex st vs := hv'
  rw [h1] at hv'
  obtain ⟨v1, v2, rfl, g1, g2⟩ := en_rvs_split hv'
  have ga : en_rvs ba ex as v1.reverse := by rw [h2]; exact en_rvs_rev g1
  obtain ⟨vl, hl1, hl2⟩ := id hl'
  have hroom : (v2.map fun v => v.category).sum ≤ 8 := by rw [en_rvs_cat g2, ← en_sum_eq]; exact hsum
  obtain ⟨a, hrun⟩ := h H locs la v1.reverse v2 hP hS hl1.1 ga (by rw [List.length_reverse, en_rvs_len g1]; exact h3) (lv_room hroom) (by first | decide | omega) hSL
  rw [List.reverse_reverse] at hrun
  refine en_after hrun hS (fun ov H1 locs1 hro hP1 hS1 => ?_)
  have K := hT.2.2 H1 locs1 la (ov.toList ++ v2) hl' (by
    show en_rvs ba ex (r.1.toList ++ rest) _
    refine en_rvs_app ?_ g2
    cases hr1 : r.1 with
    | none =>
      rw [hr1] at hro
      cases ov with
      | none => exact trivial
      | some w => exact absurd hro (by simp [en_ro])
    | some a =>
      rw [hr1] at hro
      cases ov with
      | none => exact absurd hro (by simp [en_ro])
      | some w => exact ⟨hro, trivial⟩) hP1 hS1
  have e : r.2.2.1 - n0 = n - n0 + (r.2.2.1 - n) := by omega
  dsimp only at K
  rw [e] at K
  exact K
theorem en_a_static {as rest : List en_V} {r : en_R} {q : en_M} {d i : Nat} {own : String} (hx : p.tables.exec = Jvm.exec) (hb : c.code = cc) (hml : c.maxLocals = nL) (hown : s.vm.findClass own = some m.cls) (hts : ∀ w ∈ en_gt, w.before args s = true) (hK : en_Kw ba ex cA D s) (hRf : d + 1 ≤ R.frames) (hRl : 64 * (d + 1) ≤ R.locals) (hRc : N - n0 ≤ R.cells) (hRs : SL ≤ R.slots) (hn0 : n0 ≤ n) (hnr : n ≤ r.2.2.1) (hT : en_T p l e R s m args below meth c Q ba ex cA D nL n0 N SL (pc + 3, ls, r.1.toList ++ rest, r.2.1, r.2.2.1, sl + r.2.2.2)) (hq : en_Mi q) (hk : q.2.2.2.2.2.1 = 0) (htk : en_take q.2.2.2.2.1 st [] = some (as, rest)) (hsum : en_sum rest ≤ 8)
    (hM : en_Met l ba ex cA D d q as t n r) (hl : Cond.methodLink own i q.1 ∈ en_gt ∨ va_Nw (.methodLinkNest own i q.1 "PackWeeks") s) (hd : decode cc pc = .ok (.invokestatic i, 3)) : en_T p l e R s m args below meth c Q ba ex cA D nL n0 N SL (pc, ls, st, t, n, sl) := by
  refine en_a_call hn0 hnr hT htk hsum (fun H locs la av rv hP hS hla hav hlen hroom hc hs => ⟨av.toArray, ?_⟩)
  have hp : PreS s H (en_Pc ba ex cA D as t n) av := ⟨en_Pc_blind, fun U hU hW => ⟨⟨av, rfl, hav⟩, by rw [hU]; exact hP, hK.at hW (by rw [hU]; exact hS)⟩⟩
  have hR : (en_rm d (r.2.2.1 - n) r.2.2.2).frames + 1 ≤ R.frames ∧ 8 + (q.2.2.1 + 11) + (en_rm d (r.2.2.1 - n) r.2.2.2).locals ≤ R.locals := by
    have := hq.2.2.2.2.2.1
    exact ⟨hRf, by show 8 + (q.2.2.1 + 11) + 64 * d ≤ _; omega⟩
  rcases hl with hl | hl
  · exact va_runS ⟨hx, hb, hml, hown, hts⟩ hM ⟨callB_of q.2.2.2.2.1 hts (en_ws_good hq) rfl rfl rfl (hts _ hq.2.2.2.2.1) (hts _ hl) hq.2.2.2.1 hR, hts _ (hq.2.2.2.2.2.2.1 hk)⟩ hp rfl hlen hla rfl hroom hd ⟨Nat.le_trans hc hRc, Nat.le_trans hs hRs⟩
  · exact va_runSN ⟨hx, hb, hml, hown, hts⟩ hM ⟨va_cnB q.2.2.2.2.1 hts (en_ws_good hq) rfl rfl rfl hl (hts _ hq.2.2.2.2.1) hq.2.2.2.1 hR, hts _ (hq.2.2.2.2.2.2.1 hk), trivial⟩ hp rfl hlen hla rfl hroom hd ⟨Nat.le_trans hc hRc, Nat.le_trans hs hRs⟩
theorem en_a_virt {as rest : List en_V} {r : en_R} {q : en_M} {d i a : Nat} {own : String} {qr : Nat × List en_V} (hx : p.tables.exec = Jvm.exec) (hb : c.code = cc) (hml : c.maxLocals = nL) (hown : s.vm.findClass own = some m.cls) (hts : ∀ w ∈ en_gt, w.before args s = true) (hK : en_Kw ba ex cA D s) (hRf : d + 1 ≤ R.frames) (hRl : 64 * (d + 1) ≤ R.locals) (hRc : N - n0 ≤ R.cells) (hRs : SL ≤ R.slots) (hn0 : n0 ≤ n) (hnr : n ≤ r.2.2.1) (hT : en_T p l e R s m args below meth c Q ba ex cA D nL n0 N SL (pc + 3, ls, r.1.toList ++ rest, r.2.1, r.2.2.1, sl + r.2.2.2)) (hq : en_Mi q) (hk : q.2.2.2.2.2.1 = 1) (htk : en_take (q.2.2.2.2.1 + 1) st [] = some (.inr (.inr (.inl (some a))) :: as, rest)) (hsum : en_sum rest ≤ 8)
    (hg : en_get t a = some (.inr qr)) (hqr : qr.1 = q.2.2.2.2.2.2) (hM : en_Met l ba ex cA D d q (.inr (.inr (.inl (some a))) :: as) t n r) (hl : Cond.methodLink own i q.1 ∈ en_gt) (hd : decode cc pc = .ok (.invokevirtual i, 3)) : en_T p l e R s m args below meth c Q ba ex cA D nL n0 N SL (pc, ls, st, t, n, sl) := by
  refine en_a_call hn0 hnr hT htk hsum (fun H locs la av rv hP hS hla hav hlen hroom hc hs => ⟨av.toArray, ?_⟩)
  obtain ⟨w, av2, rfl, h1, h2⟩ := en_rvs_cons hav
  have h1 : w = .ref (ba + a) := h1
  subst h1
  obtain ⟨hi, hse, rc, hrc, hrn⟩ := hq.2.2.2.2.2.2.2.1 hk
  obtain ⟨fs, r', g1, g2, g3⟩ := hP.obj hg (by rw [hqr]; exact en_cl_lt hrc)
  rw [hqr] at g2 g3
  cases hrc.symm.trans g2
  obtain ⟨cell, q1, q2, q3, -⟩ := g3
  have hp : PreV s H q.1.cls (ba + a) (en_Pc ba ex cA D (.inr (.inr (.inl (some a))) :: as) t n) av2 := ⟨en_Pc_blind, ⟨cell, q1, by rw [q3]; rfl, by rw [← hrn, q2]; exact (hK.1.1 _ _ hrc).2.1⟩, fun U hU hW => ⟨⟨_, rfl, rfl, h2⟩, by rw [hU]; exact hP, hK.at hW (by rw [hU]; exact hS)⟩⟩
  have hR : (en_rm d (r.2.2.1 - n) r.2.2.2).frames + 1 ≤ R.frames ∧ 8 + (q.2.2.1 + 11) + (en_rm d (r.2.2.1 - n) r.2.2.2).locals ≤ R.locals := by
    have := hq.2.2.2.2.2.1
    exact ⟨hRf, by show 8 + (q.2.2.1 + 11) + 64 * d ≤ _; omega⟩
  exact va_runV ⟨hx, hb, hml, hown, hts⟩ hM ⟨callB_of q.2.2.2.2.1 hts (en_ws_good hq) rfl rfl rfl (hts _ hq.2.2.2.2.1) (hts _ hl) hq.2.2.2.1 hR, hts _ hi, hts _ hse⟩ hp rfl (by simpa using hlen) hla (by simp) hroom hd ⟨Nat.le_trans hc hRc, Nat.le_trans hs hRs⟩
theorem en_a_init {as rest : List en_V} {r : en_R} {q : en_M} {d i a : Nat} {own : String} (hx : p.tables.exec = Jvm.exec) (hb : c.code = cc) (hml : c.maxLocals = nL) (hown : s.vm.findClass own = some m.cls) (hts : ∀ w ∈ en_gt, w.before args s = true) (hK : en_Kw ba ex cA D s) (hRf : d + 1 ≤ R.frames) (hRl : 64 * (d + 1) ≤ R.locals) (hRc : N - n0 ≤ R.cells) (hRs : SL ≤ R.slots) (hn0 : n0 ≤ n) (hnr : n ≤ r.2.2.1) (hT : en_T p l e R s m args below meth c Q ba ex cA D nL n0 N SL (pc + 3, ls, r.1.toList ++ rest, r.2.1, r.2.2.1, sl + r.2.2.2)) (hq : en_Mi q) (hk : 2 ≤ q.2.2.2.2.2.1) (htk : en_take (q.2.2.2.2.1 + 1) st [] = some (.inr (.inr (.inl (some a))) :: as, rest)) (hsum : en_sum rest ≤ 8)
    (hM : en_Met l ba ex cA D d q (.inr (.inr (.inl (some a))) :: as) t n r) (hl : Cond.methodLink own i q.1 ∈ en_gt ∨ va_Nw (.methodLinkNest own i q.1 "PackWeeks") s) (hd : decode cc pc = .ok (.invokespecial i, 3)) : en_T p l e R s m args below meth c Q ba ex cA D nL n0 N SL (pc, ls, st, t, n, sl) := by
  refine en_a_call hn0 hnr hT htk hsum (fun H locs la av rv hP hS hla hav hlen hroom hc hs => ⟨av.toArray, ?_⟩)
  obtain ⟨w, av2, rfl, h1, h2⟩ := en_rvs_cons hav
  have h1 : w = .ref (ba + a) := h1
  subst h1
  obtain ⟨hi, hnm, hrt⟩ := hq.2.2.2.2.2.2.2.2 hk
  have hp : PreS s H (en_Pc ba ex cA D (.inr (.inr (.inl (some a))) :: as) t n) (.ref (ba + a) :: av2) := ⟨en_Pc_blind, fun U hU hW => ⟨⟨_, rfl, rfl, h2⟩, by rw [hU]; exact hP, hK.at hW (by rw [hU]; exact hS)⟩⟩
  have hR : (en_rm d (r.2.2.1 - n) r.2.2.2).frames + 1 ≤ R.frames ∧ 8 + (q.2.2.1 + 11) + (en_rm d (r.2.2.1 - n) r.2.2.2).locals ≤ R.locals := by
    have := hq.2.2.2.2.2.1
    exact ⟨hRf, by show 8 + (q.2.2.1 + 11) + 64 * d ≤ _; omega⟩
  have hw : en_ws q = Cond.code q.1 q.2.1 q.2.2.1 none :: en_gt := by unfold en_ws; rw [hrt]
  rcases hl with hl | hl
  · exact va_runI ⟨hx, hb, hml, hown, hts⟩ hM ⟨callB_of q.2.2.2.2.1 hts (en_ws_good hq) hw rfl rfl (hts _ hq.2.2.2.2.1) (hts _ hl) hq.2.2.2.1 hR, hnm, hts _ hi⟩ hp rfl (by simpa using hlen) hla (by simp) hroom hd ⟨Nat.le_trans hc hRc, Nat.le_trans hs hRs⟩
  · exact va_runIN ⟨hx, hb, hml, hown, hts⟩ hM ⟨va_cnB q.2.2.2.2.1 hts (en_ws_good hq) hw rfl rfl hl (hts _ hq.2.2.2.2.1) hq.2.2.2.1 hR, hnm, hts _ hi⟩ hp rfl (by simpa using hlen) hla (by simp) hroom hd ⟨Nat.le_trans hc hRc, Nat.le_trans hs hRs⟩
/-- the end of a method -/
theorem en_a_ret {Rs : en_R} {a : en_V} {rt : FieldType} (hx : p.tables.exec = Jvm.exec) (hb : c.code = cc) (hr : meth.sig.returnType = some rt) (hlk : meth.locks = false) (hR : Rs = (some a, t, n, sl))
    (h : ∀ (H : Heap) (locs : List Loc) (la : Array Slot) (w : Value) (Qc : Array Value → State → Outcome → State → Prop) (free : Addr → Prop), en_rv ba ex a w → (∀ u : State, u.heap = H → s.WarmedH u.vm → Qc args s (.returned (some w)) u) → (∀ q ∈ locs, free q.base) → W p l e R s m args below meth c H locs (n - n0) sl (MQ below Qc args s (n - n0) sl free) (F0 m pc la [w])) :
    en_T p l e R s m args below meth c (MQ below (en_Qc ba ex cA D Rs) args s (Rs.2.2.1 - n0) Rs.2.2.2 (fun x => ba ≤ x)) ba ex cA D nL n0 Rs.2.2.1 Rs.2.2.2 (pc, ls, [a], t, n, sl) := by
  subst hR
  refine ⟨Nat.le_refl _, Nat.le_refl _, fun H locs la vs hl' hv' hP hS => ?_⟩
  obtain ⟨w, ws, rfl, h1, h2⟩ := en_rvs_cons hv'
  have h2 := en_rvs_nil h2
  subst h2
  exact h H locs la w _ _ h1 (fun u hu hW => ⟨⟨some w, rfl, h1⟩, by rw [hu]; exact hP, hS.F hu⟩) hS.2.2
theorem en_a_retv {Rs : en_R} (hx : p.tables.exec = Jvm.exec) (hb : c.code = cc) (hr : meth.sig.returnType = none) (hlk : meth.locks = false) (hR : Rs = (none, t, n, sl)) (hd : decode cc pc = .ok (.return_, 1)) :
    en_T p l e R s m args below meth c (MQ below (en_Qc ba ex cA D Rs) args s (Rs.2.2.1 - n0) Rs.2.2.2 (fun x => ba ≤ x)) ba ex cA D nL n0 Rs.2.2.1 Rs.2.2.2 (pc, ls, [], t, n, sl) := by
  subst hR
  refine ⟨Nat.le_refl _, Nat.le_refl _, fun H locs la vs hl' hv' hP hS => ?_⟩
  have h2 := en_rvs_nil hv'
  subst h2
  exact W.vret hx hb hr (fun u hu hW => ⟨⟨none, rfl, trivial⟩, by rw [hu]; exact hP, hS.F hu⟩) hS.2.2 hd hlk
end
end ENA
