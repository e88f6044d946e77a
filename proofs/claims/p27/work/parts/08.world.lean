section EN8
noncomputable def en_cell (ba : Nat) (ex : Nat → Nat) (cA : Nat → ClassId) (D : va_G) (k : Nat) (c : en_C) (H : Heap) : Prop := match c with
  | .inl q => ∃ vs : List Value, en_rvs ba ex q.2 vs ∧ H[ba + k]? = some (arrV (cA q.1) vs.length (vp_V vs))
  | .inr q => ∃ (vs : List Value) (r : vw_C), en_rvs ba ex q.2 vs ∧ vwCl[q.1]? = some r ∧ t_OB (ba + k) (D.1 q.1) r.2.2 (D.2 q.1) H (vp_V vs)
theorem en_cell.kept {ba : Nat} {ex : Nat → Nat} {cA : Nat → ClassId} {D : va_G} {k : Nat} {c : en_C} {H H1 : Heap} (h : en_cell ba ex cA D k c H) (hq : H1[ba + k]? = H[ba + k]?) : en_cell ba ex cA D k c H1 := by
  cases c with
  | inl q =>
    obtain ⟨vs, h1, h2⟩ := h
    exact ⟨vs, h1, hq.trans h2⟩
  | inr q =>
    obtain ⟨vs, r, h1, h2, h3⟩ := h
    exact ⟨vs, r, h1, h2, h3.kept hq⟩
theorem en_cell.lt {ba : Nat} {ex : Nat → Nat} {cA : Nat → ClassId} {D : va_G} {k : Nat} {c : en_C} {H : Heap} (h : en_cell ba ex cA D k c H) : ba + k < H.size := by
  cases c with
  | inl q =>
    obtain ⟨vs, h1, h2⟩ := h
    exact (Array.getElem?_eq_some_iff.mp h2).1
  | inr q =>
    obtain ⟨vs, r, h1, h2, cell, h3, -⟩ := h
    exact (Array.getElem?_eq_some_iff.mp h3).1
noncomputable def en_P (ba : Nat) (ex : Nat → Nat) (cA : Nat → ClassId) (D : va_G) (t : en_H) (n : Nat) (H : Heap) : Prop := H.size = ba + n ∧ ∀ (k : Nat) (c : en_C), en_get t k = some c → c = en_ph ∨ en_cell ba ex cA D k c H
theorem en_P.set {ba : Nat} {ex : Nat → Nat} {cA : Nat → ClassId} {D : va_G} {t : en_H} {n a : Nat} {c0 c1 : en_C} {H H1 : Heap} (h : en_P ba ex cA D t n H) (hg : en_get t a = some c0) (hc : en_cell ba ex cA D a c1 H1) (hz : H1.size = H.size) (ho : ∀ q : Nat, q ≠ ba + a → H1[q]? = H[q]?) : en_P ba ex cA D (en_set t a c1) n H1 := by
  refine ⟨hz.trans h.1, fun k c hk => ?_⟩
  rw [en_get_set hg] at hk
  by_cases e : k = a
  · rw [if_pos e] at hk
    cases hk
    rw [e]
    exact Or.inr hc
  · rw [if_neg e] at hk
    rcases h.2 k c hk with r | r
    · exact Or.inl r
    · exact Or.inr (r.kept (ho _ (by first | decide | omega)))
theorem en_P.push {ba : Nat} {ex : Nat → Nat} {cA : Nat → ClassId} {D : va_G} {t : en_H} {n : Nat} {c0 c1 : en_C} {H H1 : Heap} (h : en_P ba ex cA D t n H) (hg : en_get t n = some c0) (hc : en_cell ba ex cA D n c1 H1) (hz : H1.size = H.size + 1) (ho : ∀ q : Nat, q < H.size → H1[q]? = H[q]?) : en_P ba ex cA D (en_set t n c1) (n + 1) H1 := by
  refine ⟨by rw [hz, h.1]; omega, fun k c hk => ?_⟩
  rw [en_get_set hg] at hk
  by_cases e : k = n
  · rw [if_pos e] at hk
    cases hk
    rw [e]
    exact Or.inr hc
  · rw [if_neg e] at hk
    rcases h.2 k c hk with r | r
    · exact Or.inl r
    · exact Or.inr (r.kept (ho _ r.lt))
theorem en_P.obj {ba : Nat} {ex : Nat → Nat} {cA : Nat → ClassId} {D : va_G} {t : en_H} {n a : Nat} {q : Nat × List en_V} {H : Heap} (h : en_P ba ex cA D t n H) (hg : en_get t a = some (.inr q)) (hq : q.1 ≠ 99) : en_cell ba ex cA D a (.inr q) H := by
  rcases h.2 a _ hg with r | r
  · unfold en_ph at r
    cases r
    exact absurd rfl hq
  · exact r
theorem en_P.arr {ba : Nat} {ex : Nat → Nat} {cA : Nat → ClassId} {D : va_G} {t : en_H} {n a : Nat} {q : Nat × List en_V} {H : Heap} (h : en_P ba ex cA D t n H) (hg : en_get t a = some (.inl q)) : en_cell ba ex cA D a (.inl q) H := by
  rcases h.2 a _ hg with r | r
  · cases r
  · exact r
noncomputable def en_tys (cA : Nat → ClassId) : List (ClassId × FieldType) := [(cA 0, .int), (cA 1, .byte), (cA 2, .boolean), (cA 3, .long), (cA 4, .object "PackWeeks$Word"), (cA 5, .object "PackWeeks$Stand"), (cA 6, .object "PackWeeks$Sights"), (cA 7, .array .int)]
/-- the class of tables of ints is over the class of rows of ints -/
noncomputable def en_AA (cA : Nat → ClassId) (U : State) : Prop := (∃ k : Class, U.vm.classes[cA 7]? = some k ∧ k.kind = .array (cA 0) (.array .int)) ∧ ∃ (k : Class) (c9 : ClassId), U.vm.classes[cA 0]? = some k ∧ k.kind = .array c9 .int
theorem en_AA.moved {cA : Nat → ClassId} {u U : State} (hvm : u.vm.Alike U.vm) (h : en_AA cA u) : en_AA cA U := by
  obtain ⟨⟨k, h1, h2⟩, k', c9, h3, h4⟩ := h
  obtain ⟨k1, g1, e1⟩ := hvm.2.2 _ _ h1
  obtain ⟨k2, g2, e2⟩ := hvm.2.2 _ _ h3
  exact ⟨⟨k1, g1, by rw [e1]; exact h2⟩, k2, c9, g2, by rw [e2]; exact h4⟩
/-- the words, the row of all of them and the rose: statics that nobody writes -/
noncomputable def en_Wd (ba : Nat) (ex : Nat → Nat) (U : State) (H : Heap) : Prop :=
  (∀ (w : Nat) (nm : String), en_wns[w]? = some nm → va_Z "PackWeeks$Word" nm "LPackWeeks$Word;" (.ref (ex (2 + w))) (fun q => ba ≤ q) U H) ∧
  va_Z "PackWeeks$Word" "ALL" "[LPackWeeks$Word;" (.ref (ex 44)) (fun q => ba ≤ q) U H ∧ va_Z "PackWeeks$Sights" "ROSE" "[I" (.ref (ex 45)) (fun q => ba ≤ q) U H ∧
  va_Ef 42 "PackWeeks$Word" "key" "J" (fun w => .long (lN (en_wk w).1)) (fun w => ex (2 + w)) (fun q => ba ≤ q) U H ∧
  va_Ef 42 "PackWeeks$Word" "group" "I" (fun w => .int (nI (en_wk w).2.1)) (fun w => ex (2 + w)) (fun q => ba ≤ q) U H ∧
  va_Ef 42 "PackWeeks$Word" "rank" "I" (fun w => .int (nI (en_wk w).2.2)) (fun w => ex (2 + w)) (fun q => ba ≤ q) U H ∧
  (∀ w : Nat, w < 42 → va_O "PackWeeks$Word" (ex (2 + w)) (fun q => ba ≤ q) U H) ∧
  va_T (.object "PackWeeks$Word") (ex 44) 42 (fun j => .ref (ex (2 + j))) (fun q => ba ≤ q) U H ∧
  va_T .int (ex 45) 9 (fun j => .int (nI (en_rose.getD j 0))) (fun q => ba ≤ q) U H ∧ en_inj ex
theorem en_Wd.moved {ba : Nat} {ex : Nat → Nat} {u U : State} {H : Heap} (hvm : u.vm.Alike U.vm) (h : en_Wd ba ex u H) : en_Wd ba ex U H := by
  obtain ⟨h1, h2, h3, h4, h5, h6, h7, h8, h9, h10⟩ := h
  exact ⟨fun w nm hw => (h1 w nm hw).moved hvm, h2.moved hvm, h3.moved hvm, va_Ef.moved hvm h4, va_Ef.moved hvm h5, va_Ef.moved hvm h6, fun w hw => va_O.moved hvm (h7 w hw), va_T.moved hvm h8, va_T.moved hvm h9, h10⟩
theorem en_Wd.kept {ba : Nat} {ex : Nat → Nat} {U : State} {H H1 : Heap} (h : en_Wd ba ex U H) (hq : ∀ a : Nat, a < H.size → ¬ ba ≤ a → H1[a]? = H[a]?) : en_Wd ba ex U H1 := by
  obtain ⟨h1, h2, h3, h4, h5, h6, h7, h8, h9, h10⟩ := h
  exact ⟨fun w nm hw => (h1 w nm hw).kept hq, h2.kept hq, h3.kept hq, h4.kept hq, h5.kept hq, h6.kept hq, fun w hw => (h7 w hw).kept hq, h8.kept hq, h9.kept hq, h10⟩
noncomputable def en_Kw (ba : Nat) (ex : Nat → Nat) (cA : Nat → ClassId) (D : va_G) (U : State) : Prop := va_K D vwCl (en_tys cA) U ∧ en_Wd ba ex U U.heap ∧ (va_AO "PackWeeks$Word" U ∧ va_AO "PackWeeks$Stand" U ∧ va_AO "PackWeeks$Sights" U) ∧ (∀ w ∈ en_ML, ∀ q, en_nth en_inf w.2.2.1 = some q → w.2.2.2.1 ≠ 0 → va_Nw (.methodLinkNest (en_cn w.1) w.2.1 q.1 "PackWeeks") U) ∧ en_AA cA U
theorem en_Kw.at {ba : Nat} {ex : Nat → Nat} {cA : Nat → ClassId} {D : va_G} {s U : State} {locs : List Loc} (h : en_Kw ba ex cA D s) (hW : s.WarmedH U.vm) (hS : va_S (fun q => ba ≤ q) s.heap U.heap locs) : en_Kw ba ex cA D U :=
  ⟨va_K.moved hW.alike h.1, (h.2.1.kept hS.2.1).moved hW.alike, ⟨h.2.2.1.1.moved hW.alike, h.2.2.1.2.1.moved hW.alike, h.2.2.1.2.2.moved hW.alike⟩, fun w hw q hq h0 => va_Nw.warmM hW (h.2.2.2.1 w hw q hq h0), h.2.2.2.2.moved hW.alike⟩
noncomputable def en_ro (ba : Nat) (ex : Nat → Nat) : Option en_V → Option Value → Prop
  | none, none => True
  | some a, some v => en_rv ba ex a v
  | none, some _ => False
  | some _, none => False
noncomputable def en_Pc (ba : Nat) (ex : Nat → Nat) (cA : Nat → ClassId) (D : va_G) (as : List en_V) (t : en_H) (n : Nat) : Array Value → State → Prop := fun a U => (∃ vs : List Value, a = vs.toArray ∧ en_rvs ba ex as vs) ∧ en_P ba ex cA D t n U.heap ∧ en_Kw ba ex cA D U
noncomputable def en_Qc (ba : Nat) (ex : Nat → Nat) (cA : Nat → ClassId) (D : va_G) (r : en_R) : Array Value → State → Outcome → State → Prop := fun _ st oc u => (∃ ov : Option Value, oc = .returned ov ∧ en_ro ba ex r.1 ov) ∧ en_P ba ex cA D r.2.1 r.2.2.1 u.heap ∧ va_F (fun q => ba ≤ q) st u
theorem en_Pc_blind {ba : Nat} {ex : Nat → Nat} {cA : Nat → ClassId} {D : va_G} {as : List en_V} {t : en_H} {n : Nat} : FrameBlind (en_Pc ba ex cA D as t n) := fun a U g mk h =>
  ⟨h.1, h.2.1, ⟨va_K.moved (u := U) (U := U.calling g mk a) (Vm.Alike.refl U.vm) h.2.2.1, en_Wd.moved (u := U) (U := U.calling g mk a) (Vm.Alike.refl U.vm) h.2.2.2.1, ⟨va_AO.moved (u := U) (U := U.calling g mk a) (Vm.Alike.refl U.vm) h.2.2.2.2.1.1, va_AO.moved (u := U) (U := U.calling g mk a) (Vm.Alike.refl U.vm) h.2.2.2.2.1.2.1, va_AO.moved (u := U) (U := U.calling g mk a) (Vm.Alike.refl U.vm) h.2.2.2.2.1.2.2⟩, fun w hw q hq h0 => va_Nw.same rfl (u := U) (U := U.calling g mk a) rfl (h.2.2.2.2.2.1 w hw q hq h0), en_AA.moved (u := U) (U := U.calling g mk a) (Vm.Alike.refl U.vm) h.2.2.2.2.2.2⟩⟩
section
variable {p : Program} {l : Launch} {e : Env} {R : Room} {s : State} {m : MethodId} {args : Array Value} {below : List Frame} {meth : Method} {c : Code} {Q : State → Prop}
variable {ba : Nat} {ex : Nat → Nat} {cA : Nat → ClassId} {D : va_G} {nL n0 N SL : Nat} {cc : ByteArray} {pc nx : Nat} {ls : en_L} {st : List en_V} {t : en_H} {n sl : Nat}
noncomputable def en_T (p : Program) (l : Launch) (e : Env) (R : Room) (s : State) (m : MethodId) (args : Array Value) (below : List Frame) (meth : Method) (c : Code) (Q : State → Prop) (ba : Nat) (ex : Nat → Nat) (cA : Nat → ClassId) (D : va_G) (nL n0 N SL : Nat) (S : en_S) : Prop :=
  S.2.2.2.2.1 ≤ N ∧ S.2.2.2.2.2 ≤ SL ∧ ∀ (H : Heap) (locs : List Loc) (la : Array Slot) (vs : List Value), en_lr ba ex nL S.2.1 la → en_rvs ba ex S.2.2.1 vs → en_P ba ex cA D S.2.2.2.1 S.2.2.2.2.1 H → va_S (fun q => ba ≤ q) s.heap H locs →
    W p l e R s m args below meth c H locs (S.2.2.2.2.1 - n0) S.2.2.2.2.2 Q (F0 m S.1 la vs)
theorem en_pure {pc' : Nat} {ls' : en_L} {st' : List en_V} (hT : en_T p l e R s m args below meth c Q ba ex cA D nL n0 N SL (pc', ls', st', t, n, sl))
    (h : ∀ (H : Heap) (locs : List Loc) (la : Array Slot) (vs : List Value), en_lr ba ex nL ls la → en_rvs ba ex st vs → en_P ba ex cA D t n H → (∀ (la' : Array Slot) (vs' : List Value), en_lr ba ex nL ls' la' → en_rvs ba ex st' vs' → W p l e R s m args below meth c H locs (n - n0) sl Q (F0 m pc' la' vs')) → W p l e R s m args below meth c H locs (n - n0) sl Q (F0 m pc la vs)) : en_T p l e R s m args below meth c Q ba ex cA D nL n0 N SL (pc, ls, st, t, n, sl) :=
  ⟨hT.1, hT.2.1, fun H locs la vs hl hv hP hS => h H locs la vs hl hv hP (fun la' vs' hl' hv' => hT.2.2 H locs la' vs' hl' hv' hP hS)⟩
theorem en_push {v : en_V} (hT : en_T p l e R s m args below meth c Q ba ex cA D nL n0 N SL (nx, ls, v :: st, t, n, sl))
    (h : ∀ (H : Heap) (locs : List Loc) (la : Array Slot) (vs : List Value), (∀ w : Value, en_rv ba ex v w → W p l e R s m args below meth c H locs (n - n0) sl Q (F0 m nx la (w :: vs))) → W p l e R s m args below meth c H locs (n - n0) sl Q (F0 m pc la vs)) : en_T p l e R s m args below meth c Q ba ex cA D nL n0 N SL (pc, ls, st, t, n, sl) :=
  en_pure hT (fun H locs la vs hl hv _ K => h H locs la vs (fun w hw => K la (w :: vs) hl ⟨hw, hv⟩))
theorem en_loadi {i : Nat} {a : en_V} (hT : en_T p l e R s m args below meth c Q ba ex cA D nL n0 N SL (nx, ls, a :: st, t, n, sl)) (hld : en_ld ls i = some a) (hk : en_kd a = 0)
    (h : ∀ (H : Heap) (locs : List Loc) (la : Array Slot) (vs : List Value) (x : Int32), la[i]? = some (.val (.int x)) → W p l e R s m args below meth c H locs (n - n0) sl Q (F0 m nx la (.int x :: vs)) → W p l e R s m args below meth c H locs (n - n0) sl Q (F0 m pc la vs)) : en_T p l e R s m args below meth c Q ba ex cA D nL n0 N SL (pc, ls, st, t, n, sl) :=
  en_pure hT (fun H locs la vs hl hv _ K => by
    obtain ⟨vl, h1, h2⟩ := hl
    obtain ⟨k, v, g1, g2⟩ := en_ld_at h2 hld
    obtain ⟨x, rfl⟩ := en_kd0 g2 hk
    exact h H locs la vs x (lv_at h1 k g1) (K la _ ⟨vl, h1, h2⟩ ⟨g2, hv⟩))
theorem en_loadl {i : Nat} {a : en_V} (hT : en_T p l e R s m args below meth c Q ba ex cA D nL n0 N SL (nx, ls, a :: st, t, n, sl)) (hld : en_ld ls i = some a) (hk : en_kd a = 1)
    (h : ∀ (H : Heap) (locs : List Loc) (la : Array Slot) (vs : List Value) (x : Int64), la[i]? = some (.val (.long x)) → W p l e R s m args below meth c H locs (n - n0) sl Q (F0 m nx la (.long x :: vs)) → W p l e R s m args below meth c H locs (n - n0) sl Q (F0 m pc la vs)) : en_T p l e R s m args below meth c Q ba ex cA D nL n0 N SL (pc, ls, st, t, n, sl) :=
  en_pure hT (fun H locs la vs hl hv _ K => by
    obtain ⟨vl, h1, h2⟩ := hl
    obtain ⟨k, v, g1, g2⟩ := en_ld_at h2 hld
    obtain ⟨x, rfl⟩ := en_kd1 g2 hk
    exact h H locs la vs x (lv_at h1 k g1) (K la _ ⟨vl, h1, h2⟩ ⟨g2, hv⟩))
theorem en_loada {i : Nat} {a : en_V} (hT : en_T p l e R s m args below meth c Q ba ex cA D nL n0 N SL (nx, ls, a :: st, t, n, sl)) (hld : en_ld ls i = some a) (hk : en_kd a = 2)
    (h0 : ∀ (H : Heap) (locs : List Loc) (la : Array Slot) (vs : List Value), la[i]? = some (.val .null) → W p l e R s m args below meth c H locs (n - n0) sl Q (F0 m nx la (.null :: vs)) → W p l e R s m args below meth c H locs (n - n0) sl Q (F0 m pc la vs))
    (h : ∀ (H : Heap) (locs : List Loc) (la : Array Slot) (vs : List Value) (x : Nat), la[i]? = some (.val (.ref x)) → W p l e R s m args below meth c H locs (n - n0) sl Q (F0 m nx la (.ref x :: vs)) → W p l e R s m args below meth c H locs (n - n0) sl Q (F0 m pc la vs)) : en_T p l e R s m args below meth c Q ba ex cA D nL n0 N SL (pc, ls, st, t, n, sl) :=
  en_pure hT (fun H locs la vs hl hv _ K => by
    obtain ⟨vl, h1, h2⟩ := hl
    obtain ⟨k, v, g1, g2⟩ := en_ld_at h2 hld
    rcases en_kd2 g2 hk with rfl | ⟨x, rfl⟩
    · exact h0 H locs la vs (lv_at h1 k g1) (K la _ ⟨vl, h1, h2⟩ ⟨g2, hv⟩)
    · exact h H locs la vs x (lv_at h1 k g1) (K la _ ⟨vl, h1, h2⟩ ⟨g2, hv⟩))
theorem en_sto1 {i : Nat} {a : en_V} (hT : en_T p l e R s m args below meth c Q ba ex cA D nL n0 N SL (nx, (i, a) :: en_flt (en_keep1 i) ls, st, t, n, sl)) 
    (h : ∀ (H : Heap) (locs : List Loc) (la : Array Slot) (vs : List Value) (vl : List (Nat × Value)) (v : Value), lv_has la nL vl → en_rv ba ex a v → (∀ la' : Array Slot, lv_has la' nL ((i, v) :: vl.filter (fun q => !(q.1 == i) && !(q.1 + 1 == i && q.2.category == 2))) → W p l e R s m args below meth c H locs (n - n0) sl Q (F0 m nx la' vs)) → W p l e R s m args below meth c H locs (n - n0) sl Q (F0 m pc la (v :: vs))) : en_T p l e R s m args below meth c Q ba ex cA D nL n0 N SL (pc, ls, a :: st, t, n, sl) :=
  en_pure hT (fun H locs la vs hl hv _ K => by
    obtain ⟨vl, h1, h2⟩ := hl
    obtain ⟨v, ws, rfl, g1, g2⟩ := en_rvs_cons hv
    exact h H locs la ws vl v h1 g1 (fun la' hl' => K la' ws ⟨_, hl', ⟨rfl, g1⟩, en_rls_flt (en_keep1_ok i) h2⟩ g2))
theorem en_sto2 {i : Nat} {a : en_V} (hT : en_T p l e R s m args below meth c Q ba ex cA D nL n0 N SL (nx, (i, a) :: en_flt (en_keep2 i) ls, st, t, n, sl)) 
    (h : ∀ (H : Heap) (locs : List Loc) (la : Array Slot) (vs : List Value) (vl : List (Nat × Value)) (v : Value), lv_has la nL vl → en_rv ba ex a v → (∀ la' : Array Slot, lv_has la' nL ((i, v) :: vl.filter (fun q => !(q.1 == i) && (!(q.1 == i + 1) && !(q.1 + 1 == i && q.2.category == 2)))) → W p l e R s m args below meth c H locs (n - n0) sl Q (F0 m nx la' vs)) → W p l e R s m args below meth c H locs (n - n0) sl Q (F0 m pc la (v :: vs))) : en_T p l e R s m args below meth c Q ba ex cA D nL n0 N SL (pc, ls, a :: st, t, n, sl) :=
  en_pure hT (fun H locs la vs hl hv _ K => by
    obtain ⟨vl, h1, h2⟩ := hl
    obtain ⟨v, ws, rfl, g1, g2⟩ := en_rvs_cons hv
    exact h H locs la ws vl v h1 g1 (fun la' hl' => K la' ws ⟨_, hl', ⟨rfl, g1⟩, en_rls_flt (en_keep2_ok i) h2⟩ g2))
theorem en_sinc {i x : Nat} {a : Nat} (hT : en_T p l e R s m args below meth c Q ba ex cA D nL n0 N SL (nx, (i, .inl (en_wrap (a + x))) :: en_flt (en_keep1 i) ls, st, t, n, sl)) (hld : en_ld ls i = some (.inl a))
    (h : ∀ (H : Heap) (locs : List Loc) (la : Array Slot) (vs : List Value) (vl : List (Nat × Value)) (k : Nat) (y : Int32), lv_has la nL vl → vl[k]? = some (i, .int y) → y = nI a → (∀ la' : Array Slot, lv_has la' nL ((i, .int (y + nI x)) :: vl.filter (fun q => !(q.1 == i) && !(q.1 + 1 == i && q.2.category == 2))) → W p l e R s m args below meth c H locs (n - n0) sl Q (F0 m nx la' vs)) → W p l e R s m args below meth c H locs (n - n0) sl Q (F0 m pc la vs)) : en_T p l e R s m args below meth c Q ba ex cA D nL n0 N SL (pc, ls, st, t, n, sl) :=
  en_pure hT (fun H locs la vs hl hv _ K => by
    obtain ⟨vl, h1, h2⟩ := hl
    obtain ⟨k, v, g1, g2⟩ := en_ld_at h2 hld
    have g2 : v = .int (nI a) := g2
    subst g2
    refine h H locs la vs vl k (nI a) h1 g1 rfl (fun la' hl' => K la' vs ⟨_, hl', ⟨rfl, ?_⟩, en_rls_flt (en_keep1_ok i) h2⟩ hv)
    show Value.int _ = Value.int _
    unfold en_wrap
    rw [en_nI_mod, nI_add])
theorem en_two {a b v : en_V} (hT : en_T p l e R s m args below meth c Q ba ex cA D nL n0 N SL (nx, ls, v :: st, t, n, sl))
    (h : ∀ (H : Heap) (locs : List Loc) (la : Array Slot) (vs : List Value) (va vb : Value), en_rv ba ex a va → en_rv ba ex b vb → (∀ w : Value, en_rv ba ex v w → W p l e R s m args below meth c H locs (n - n0) sl Q (F0 m nx la (w :: vs))) → W p l e R s m args below meth c H locs (n - n0) sl Q (F0 m pc la (vb :: va :: vs))) : en_T p l e R s m args below meth c Q ba ex cA D nL n0 N SL (pc, ls, b :: a :: st, t, n, sl) :=
  en_pure hT (fun H locs la vs hl hv _ K => by
    obtain ⟨vb, ws, rfl, g1, hv⟩ := en_rvs_cons hv
    obtain ⟨va, ws, rfl, g2, hv⟩ := en_rvs_cons hv
    exact h H locs la ws va vb g2 g1 (fun w hw => K la (w :: ws) hl ⟨hw, hv⟩))
theorem en_one {a v : en_V} (hT : en_T p l e R s m args below meth c Q ba ex cA D nL n0 N SL (nx, ls, v :: st, t, n, sl))
    (h : ∀ (H : Heap) (locs : List Loc) (la : Array Slot) (vs : List Value) (va : Value), en_rv ba ex a va → (∀ w : Value, en_rv ba ex v w → W p l e R s m args below meth c H locs (n - n0) sl Q (F0 m nx la (w :: vs))) → W p l e R s m args below meth c H locs (n - n0) sl Q (F0 m pc la (va :: vs))) : en_T p l e R s m args below meth c Q ba ex cA D nL n0 N SL (pc, ls, a :: st, t, n, sl) :=
  en_pure hT (fun H locs la vs hl hv _ K => by
    obtain ⟨va, ws, rfl, g2, hv⟩ := en_rvs_cons hv
    exact h H locs la ws va g2 (fun w hw => K la (w :: ws) hl ⟨hw, hv⟩))
theorem en_br1 {a : en_V} (hT : en_T p l e R s m args below meth c Q ba ex cA D nL n0 N SL (nx, ls, st, t, n, sl))
    (h : ∀ (H : Heap) (locs : List Loc) (la : Array Slot) (vs : List Value) (va : Value), en_rv ba ex a va → W p l e R s m args below meth c H locs (n - n0) sl Q (F0 m nx la vs) → W p l e R s m args below meth c H locs (n - n0) sl Q (F0 m pc la (va :: vs))) : en_T p l e R s m args below meth c Q ba ex cA D nL n0 N SL (pc, ls, a :: st, t, n, sl) :=
  en_pure hT (fun H locs la vs hl hv _ K => by
    obtain ⟨va, ws, rfl, g2, hv⟩ := en_rvs_cons hv
    exact h H locs la ws va g2 (K la ws hl hv))
theorem en_br2 {a b : en_V} (hT : en_T p l e R s m args below meth c Q ba ex cA D nL n0 N SL (nx, ls, st, t, n, sl))
    (h : ∀ (H : Heap) (locs : List Loc) (la : Array Slot) (vs : List Value) (va vb : Value), en_rv ba ex a va → en_rv ba ex b vb → W p l e R s m args below meth c H locs (n - n0) sl Q (F0 m nx la vs) → W p l e R s m args below meth c H locs (n - n0) sl Q (F0 m pc la (vb :: va :: vs))) : en_T p l e R s m args below meth c Q ba ex cA D nL n0 N SL (pc, ls, b :: a :: st, t, n, sl) :=
  en_pure hT (fun H locs la vs hl hv _ K => by
    obtain ⟨vb, ws, rfl, g1, hv⟩ := en_rvs_cons hv
    obtain ⟨va, ws, rfl, g2, hv⟩ := en_rvs_cons hv
    exact h H locs la ws va vb g2 g1 (K la ws hl hv))
/-- what a jump says of the two ints -/
theorem en_rel_ok {q : ClassFile.Cond} {a b : en_V} {va vb : Value} {r : Bool} (ha : en_rv ba ex a va) (hb : en_rv ba ex b vb) (h : en_rel q a b = some r) : ∃ x y : Int32, va = .int x ∧ vb = .int y ∧ (match q with | .eq => (x = y ↔ r = true) | .ne => (¬ x = y ↔ r = true) | .lt => (x < y ↔ r = true) | .ge => (y ≤ x ↔ r = true) | .gt => (y < x ↔ r = true) | .le => (x ≤ y ↔ r = true)) := by
  have inv : ∀ {o : Option Bool} {r : Bool}, en_not o = some r → o = some (!r) := fun {o r} h => by
    cases o with
    | none => cases h
    | some b => cases h; rw [Bool.not_not]
  have nle : ∀ {x y : Int32}, x ≤ y ↔ ¬ y < x := fun {x y} => by rw [Int32.le_iff_toInt_le, Int32.lt_iff_toInt_lt]; omega
  cases q with
  | eq => exact en_eq_ok ha hb h
  | ne =>
    obtain ⟨x, y, h1, h2, h3⟩ := en_eq_ok ha hb (inv h)
    refine ⟨x, y, h1, h2, ?_⟩
    show (¬ x = y ↔ r = true)
    rw [h3]; cases r <;> simp
  | lt => exact en_lt_ok ha hb h
  | ge =>
    obtain ⟨x, y, h1, h2, h3⟩ := en_lt_ok ha hb (inv h)
    refine ⟨x, y, h1, h2, ?_⟩
    show (y ≤ x ↔ r = true)
    rw [nle, h3]; cases r <;> simp
  | gt =>
    obtain ⟨x, y, h1, h2, h3⟩ := en_lt_ok hb ha h
    exact ⟨y, x, h2, h1, h3⟩
  | le =>
    obtain ⟨x, y, h1, h2, h3⟩ := en_lt_ok hb ha (inv h)
    refine ⟨y, x, h2, h1, ?_⟩
    show (y ≤ x ↔ r = true)
    rw [nle, h3]; cases r <;> simp
/-- behind a call -/
theorem en_after {r : en_R} {la : Array Slot} {rest st0 : List Value} {H : Heap} {locs : List Loc} {cells slots mc ms : Nat} {a : Array Value} (hr : va_Run p l e R s m args below meth c H locs cells slots mc ms (F0 m pc la st0) rest (en_Qc ba ex cA D r a) (fun q => ba ≤ q)) (hS : va_S (fun q => ba ≤ q) s.heap H locs)
    (kk : ∀ (ov : Option Value) (H1 : Heap) (locs1 : List Loc), en_ro ba ex r.1 ov → en_P ba ex cA D r.2.1 r.2.2.1 H1 → va_S (fun q => ba ≤ q) s.heap H1 locs1 → W p l e R s m args below meth c H1 locs1 (cells + mc) (slots + ms) Q (F0 m (pc + 3) la (ov.toList ++ rest))) : W p l e R s m args below meth c H locs cells slots Q (F0 m pc la st0) := by
  intro T hT X
  obtain ⟨v, st₀, t, T', L, h0, X', hL, e1, e2, ⟨⟨ov, hv, hro⟩, hP, hz, hk⟩, st⟩ := hr T hT X
  cases hv
  rw [h0] at hz hk
  obtain ⟨t2, a1, b1⟩ := kk v T'.heap (locs ++ L) hro (by rw [e1]; exact hP) ⟨Nat.le_trans hS.1 (by rw [e1]; exact hz), fun q h1 h2 => by rw [e1, hk q (Nat.lt_of_lt_of_le h1 hS.1) h2]; exact hS.2.1 q h1 h2, fun q hq => by
      rcases List.mem_append.mp hq with h | h
      · exact hS.2.2 q h
      · exact hL q h⟩ T' rfl X'
  exact ⟨t2, st t2 a1, b1⟩
end
end EN8
