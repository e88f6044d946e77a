section ENM
section
variable {E : CtlPost} {e : Env} {d : Bool} {acts : List Action} {s : State}
/-- the model makes one row -/
theorem en_wp_row {c comp : ClassId} {k : Class} {ty : FieldType} {len : Int32} (hk : s.vm.classes[c]? = some k) (hkind : k.kind = .array comp ty) (h0 : ¬ len < 0) (h1 : ¬ len.toNatClampNeg > e.platform.arrayLengthLimit) (h2 : ¬ len.toNatClampNeg * componentBytes ty > e.platform.maxHeapBytes) (hf : fits ty (defaultValue ty) = true) (h3 : s.heap.size < e.platform.maxCells) (h4 : s.slotsUsed + len.toNatClampNeg ≤ e.platform.maxSlots) {Q : Addr → Pre}
    (hq : ∀ acts', Q s.heap.size d acts' (s.pushCell (arrV c len.toNatClampNeg (fun _ => defaultValue ty)))) : wp (multianewarray.make c [len]) Q E e d acts s := by
  rw [multianewarray.make]
  simp only [wp_bind', W.ite, h0, if_false, wp_pure', W.theClass, hk, hkind, Option.some.injEq, exists_eq_left']
  exact W.newArray_of hk hkind h1 h2 h3 h4 hf (fun acts' => by rw [arrV_new]; exact hq acts')
/-- what stands when i rows of a table are made -/
noncomputable def en_J (I : Nat → State → Prop) (N : Nat) (rest : List Nat) (u : State) : Prop := ∃ i, i ≤ N ∧ rest = List.range' i (N - i) ∧ I i u
/-- the model makes a table: an invariant over its rows -/
theorem en_wp_tab {c comp cc : ClassId} {k kc : Class} {t0 ty : FieldType} {n len : Int32} (I : Nat → State → Prop) (hk : s.vm.classes[c]? = some k) (hkind : k.kind = .array comp t0) (hn : ¬ n < 0) (hlen : ¬ len < 0)
    (h1 : ¬ n.toNatClampNeg > e.platform.arrayLengthLimit) (h2 : ¬ n.toNatClampNeg * componentBytes t0 > e.platform.maxHeapBytes) (hf : fits t0 .null = true) (h3 : s.heap.size < e.platform.maxCells) (h4 : s.slotsUsed + n.toNatClampNeg ≤ e.platform.maxSlots)
    (hI0 : I 0 (s.pushCell (arrV c n.toNatClampNeg (fun _ => .null)))) (hI : ∀ i u d' acts' (Q' : ForInStep PUnit.{1} → Pre), i < n.toNatClampNeg → I i u → (∀ u' d'' acts'', I (i + 1) u' → Q' (ForInStep.yield PUnit.unit.{1}) d'' acts'' u') → wp (multianewarray.make comp [len]) (fun a d1 a1 s1 => wp (Jvm.writeLoc s.heap.size i (.ref a)) (fun _ d2 a2 s2 => Q' (ForInStep.yield PUnit.unit) d2 a2 s2) E e d1 a1 s1) E e d' acts' u) {Q : Addr → Pre}
    (hq : ∀ u d' acts', I n.toNatClampNeg u → Q s.heap.size d' acts' u) : wp (multianewarray.make c [n, len]) Q E e d acts s := by
  have hfind : ([len].find? (· < 0)) = none := by simp [hlen]
  rw [multianewarray.make]
  simp only [wp_bind', W.ite, hn, if_false, wp_pure', W.theClass, hk, hkind, Option.some.injEq, exists_eq_left']
  refine W.newArray_of hk hkind h1 h2 h3 h4 hf (fun acts' => ?_)
  rw [arrV_new]
  simp only [hfind]
  rw [ite_self, wp_bind', Std.Legacy.Range.forIn_eq_forIn_range']
  have hsz : ([:n.toNatClampNeg] : Std.Legacy.Range).size = n.toNatClampNeg := by simp [Std.Legacy.Range.size]
  rw [hsz]
  show wp (forIn (List.range' 0 n.toNatClampNeg 1) PUnit.unit _) _ E e d acts' _
  refine wp_forIn_inv (en_J I n.toNatClampNeg) _ _ ⟨0, Nat.zero_le _, rfl, hI0⟩ ?_ ?_
  · rintro x rest u d' acts'' Q' ⟨i, hi, hl, hu⟩ hnext
    have hlt : i < n.toNatClampNeg := by
      rcases Nat.lt_or_ge i n.toNatClampNeg with h | h
      · exact h
      · rw [Nat.sub_eq_zero_of_le h] at hl
        cases hl
    obtain ⟨j, hj⟩ : ∃ j, n.toNatClampNeg - i = j + 1 := ⟨n.toNatClampNeg - i - 1, by omega⟩
    rw [hj, List.range'_succ] at hl
    have hxi : x = i := (List.cons.inj hl).1
    have hrest := (List.cons.inj hl).2
    subst hxi
    simp only [wp_bind', wp_pure']
    refine hI x u d' acts'' Q' hlt hu (fun u' d'' a'' h' => hnext u' d'' a'' ⟨x + 1, hlt, ?_, h'⟩)
    rw [hrest]
    congr 1
    omega
  · rintro u d' acts'' ⟨i, hi, hl, hu⟩
    have he : i = n.toNatClampNeg := by
      rcases Nat.lt_or_ge i n.toNatClampNeg with h | h
      · obtain ⟨j, hj⟩ : ∃ j, n.toNatClampNeg - i = j + 1 := ⟨n.toNatClampNeg - i - 1, by omega⟩
        rw [hj, List.range'_succ] at hl
        cases hl
      · omega
    subst he
    simp only [wp_pure']
    exact hq u d' acts'' hu
end
section
variable {p : Program} {l : Launch} {e : Env} {R : Room} {s : State} {m : MethodId} {args : Array Value} {below : List Frame} {meth : Method} {c : Code} {Q : State → Prop} {H : Heap} {locs : List Loc} {cells slots : Nat}
/-- the state when i rows of the table stand -/
noncomputable def en_fl (T : State) (c7 c0 : ClassId) (N M : Nat) : Nat → State
  | 0 => T.pushCell (arrV c7 N (fun _ => .null))
  | i + 1 => ((en_fl T c7 c0 N M i).pushCell (arrV c0 M (fun _ => .int 0))).setCell T.heap.size (arrV c7 N (fun j => if j < i + 1 then .ref (T.heap.size + 1 + j) else .null))
theorem en_fl_size (T : State) (c7 c0 : ClassId) (N M : Nat) : ∀ i, (en_fl T c7 c0 N M i).heap.size = T.heap.size + 1 + i
  | 0 => by simp [en_fl]
  | i + 1 => by
    have := en_fl_size T c7 c0 N M i
    simp [en_fl, State.setCell, this]
    omega
theorem en_fl_top (T : State) (c7 c0 : ClassId) (N M : Nat) : ∀ i, (en_fl T c7 c0 N M i).heap[T.heap.size]? = some (arrV c7 N (fun j => if j < i then .ref (T.heap.size + 1 + j) else .null))
  | 0 => by simp [en_fl]
  | i + 1 => by
    have h1 := en_fl_size T c7 c0 N M i
    have hlt : T.heap.size < (en_fl T c7 c0 N M i).heap.size := by omega
    have h2 := en_fl_top T c7 c0 N M i
    exact State.heap_setCell_self (by rw [State.heap_pushCell_of_lt (h := hlt)]; exact h2)
theorem en_fl_vm (T : State) (c7 c0 : ClassId) (N M : Nat) : ∀ i, (en_fl T c7 c0 N M i).vm = T.vm
  | 0 => rfl
  | i + 1 => by
    have := en_fl_vm T c7 c0 N M i
    simp [en_fl, this]
theorem en_fl_old (T : State) (c7 c0 : ClassId) (N M : Nat) {q : Nat} (hq : q < T.heap.size) : ∀ i, (en_fl T c7 c0 N M i).heap[q]? = T.heap[q]?
  | 0 => State.heap_pushCell_of_lt _ _ hq
  | i + 1 => by
    have h1 := en_fl_size T c7 c0 N M i
    have hlt : q < (en_fl T c7 c0 N M i).heap.size := by omega
    show (((en_fl T c7 c0 N M i).pushCell (arrV c0 M (fun _ => .int 0))).setCell T.heap.size _).heap[q]? = _
    rw [State.heap_setCell_other (Nat.ne_of_gt hq), State.heap_pushCell_of_lt (h := hlt)]
    exact en_fl_old T c7 c0 N M hq i
theorem en_fl_row (T : State) (c7 c0 : ClassId) (N M : Nat) {j : Nat} : ∀ i, j < i → (en_fl T c7 c0 N M i).heap[T.heap.size + 1 + j]? = some (arrV c0 M (fun _ => .int 0))
  | 0, h => absurd h (Nat.not_lt_zero _)
  | i + 1, h => by
    have h1 := en_fl_size T c7 c0 N M i
    show (((en_fl T c7 c0 N M i).pushCell (arrV c0 M (fun _ => .int 0))).setCell T.heap.size _).heap[T.heap.size + 1 + j]? = _
    rw [State.heap_setCell_other (show T.heap.size ≠ T.heap.size + 1 + j by omega)]
    by_cases e : j = i
    · subst e
      rw [← h1]
      exact State.heap_pushCell_size _ _
    · have hlt : T.heap.size + 1 + j < (en_fl T c7 c0 N M i).heap.size := by omega
      rw [State.heap_pushCell_of_lt (h := hlt)]
      exact en_fl_row T c7 c0 N M i (by first | decide | omega)
theorem en_fl_setTop (T : State) (f : JFrame) (c7 c0 : ClassId) (N M : Nat) : ∀ i, en_fl (T.setTop f) c7 c0 N M i = (en_fl T c7 c0 N M i).setTop f
  | 0 => rfl
  | i + 1 => by simp only [en_fl, en_fl_setTop T f c7 c0 N M i, State.heap_setTop, State.pushCell_setTop, State.setCell_setTop]
theorem en_fl_upd (c7 : ClassId) (h N i : Nat) : arrV c7 N (updV (fun j => if j < i then Value.ref (h + 1 + j) else .null) i (.ref (h + 1 + i))) = arrV c7 N (fun j => if j < i + 1 then .ref (h + 1 + j) else .null) := en_arrV_congr (fun j _ => by
  unfold updV
  by_cases e1 : j = i
  · subst e1
    rw [if_pos rfl, if_pos (by first | decide | omega)]
  · rw [if_neg e1]
    show (if j < i then Value.ref (h + 1 + j) else .null) = _
    by_cases e2 : j < i
    · rw [if_pos e2, if_pos (by first | decide | omega)]
    · rw [if_neg e2, if_neg (by first | decide | omega)])
theorem en_fl_stand {T : State} (X : Stand p l e R s m args below meth c T locs cells slots) (c7 c0 : ClassId) (N M : Nat) : ∀ i, ∃ locs1 : List Loc, (∀ q ∈ locs1, q ∈ locs ∨ q.base = T.heap.size) ∧ Stand p l e R s m args below meth c (en_fl T c7 c0 N M i) locs1 (cells + 1 + i) (slots + N + i * M)
  | 0 => by
    have h := X.pushed (arrV c7 N (fun _ => .null))
    rw [arrV_size] at h
    exact ⟨locs, fun q hq => Or.inl hq, by simpa [en_fl] using h⟩
  | i + 1 => by
    obtain ⟨L, h1, h2⟩ := en_fl_stand X c7 c0 N M i
    have hs := en_fl_size T c7 c0 N M i
    have hlt : T.heap.size < (en_fl T c7 c0 N M i).heap.size := by omega
    have hcell : ((en_fl T c7 c0 N M i).pushCell (arrV c0 M (fun _ => .int 0))).heap[T.heap.size]? = some (arrV c7 N (fun j => if j < i then .ref (T.heap.size + 1 + j) else .null)) := by
      rw [State.heap_pushCell_of_lt (h := hlt)]
      exact en_fl_top T c7 c0 N M i
    have h := (h2.pushed (arrV c0 M (fun _ => .int 0))).stored hcell i (.ref (T.heap.size + 1 + i))
    rw [arrV_size, arrV_store] at h
    rw [en_fl_upd] at h
    have e3 : slots + N + (i + 1) * M = slots + N + i * M + M := by rw [Nat.succ_mul]; omega
    refine ⟨L ++ [⟨T.heap.size, i⟩], fun q hq => ?_, by rw [e3]; exact h⟩
    rcases List.mem_append.mp hq with hq | hq
    · exact h1 q hq
    · rw [List.mem_singleton.mp hq]
      exact Or.inr rfl
/-- multianewarray of two dimensions of ints, as a row -/
theorem en_W_multi {cc : ByteArray} (hexec : p.tables.exec = Jvm.exec) (hb : c.code = cc) {own : String} {index : Nat} (hown : s.vm.findClass own = some m.cls) (hclink : (Cond.classLink own index ("[" ++ (FieldType.array .int).toString)).before args s = true)
    {c7 c0 : ClassId} {k7 k0 : Class} {c9 : ClassId} (hf7 : s.vm.findClass ("[" ++ (FieldType.array .int).toString) = some c7) (hk7 : s.vm.classes[c7]? = some k7) (hkd7 : k7.kind = .array c0 (.array .int)) (hk0 : s.vm.classes[c0]? = some k0) (hkd0 : k0.kind = .array c9 .int)
    {pc : Nat} {la : Array Slot} (hdg : decode cc pc = .ok (.multianewarray index 2, 4)) {n len : Int32} {rest : List Value} (hn : ¬ n < 0) (hlen : ¬ len < 0) (hn1 : n.toNatClampNeg ≤ 60000) (hl1 : len.toNatClampNeg ≤ 60000)
    (hcells : cells + (1 + n.toNatClampNeg) ≤ R.cells) (hslots : slots + (n.toNatClampNeg + n.toNatClampNeg * len.toNatClampNeg) ≤ R.slots)
    (kk : ∀ (H1 : Heap) (locs1 : List Loc), H1.size = H.size + 1 + n.toNatClampNeg → (∀ q ∈ locs1, q ∈ locs ∨ q.base = H.size) → H1[H.size]? = some (arrV c7 n.toNatClampNeg (fun j => .ref (H.size + 1 + j))) → (∀ j, j < n.toNatClampNeg → H1[H.size + 1 + j]? = some (arrV c0 len.toNatClampNeg (fun _ => .int 0))) → (∀ q, q < H.size → H1[q]? = H[q]?) →
      W p l e R s m args below meth c H1 locs1 (cells + 1 + n.toNatClampNeg) (slots + n.toNatClampNeg + n.toNatClampNeg * len.toNatClampNeg) Q (F0 m (pc + 4) la (.ref H.size :: rest))) : W p l e R s m args below meth c H locs cells slots Q (F0 m pc la (.int len :: .int n :: rest)) := by
  intro T hT X
  subst hT
  subst hb
  have hpl : e.platform.magicAccessors = ({} : Platform).magicAccessors := by rw [X.admits.platform]
  obtain ⟨c1, hfc1, hcl⟩ := Cond.classLink_spec hown hclink e.platform hpl
  cases hf7.symm.trans hfc1
  obtain ⟨hg1, hwarm, hready⟩ := State.classEntry (e := e) X.warmed hcl
  generalize T.vm.noted m.cls index (.cls c7) = vm1 at hg1 hwarm hready
  have hal : s.vm.Alike vm1 := hwarm.alike
  obtain ⟨k7', hk7', he7⟩ := hal.2.2 _ _ hk7
  obtain ⟨k0', hk0', he0⟩ := hal.2.2 _ _ hk0
  have hkd7' : k7'.kind = .array c0 (.array .int) := by rw [he7]; exact hkd7
  have hkd0' : k0'.kind = .array c9 .int := by rw [he0]; exact hkd0
  have X1 := X.noted hwarm
  have hl7 : ¬ n.toNatClampNeg > e.platform.arrayLengthLimit := by rw [Launch.admits_arrayLengthLimit X.admits]; omega
  have hh7 : ¬ n.toNatClampNeg * componentBytes (.array .int) > e.platform.maxHeapBytes := by rw [Launch.admits_maxHeapBytes X.admits]; show ¬ n.toNatClampNeg * 4 > 536870912; omega
  have hl0 : ¬ len.toNatClampNeg > e.platform.arrayLengthLimit := by rw [Launch.admits_arrayLengthLimit X.admits]; omega
  have hh0 : ¬ len.toNatClampNeg * componentBytes .int > e.platform.maxHeapBytes := by rw [Launch.admits_maxHeapBytes X.admits]; show ¬ len.toNatClampNeg * 4 > 536870912; omega
  obtain ⟨L1, hL1, XF⟩ := en_fl_stand X1 c7 c0 n.toNatClampNeg len.toNatClampNeg n.toNatClampNeg
  have hs := en_fl_size (T.setVm vm1) c7 c0 n.toNatClampNeg len.toNatClampNeg n.toNatClampNeg
  have htop : (en_fl (T.setVm vm1) c7 c0 n.toNatClampNeg len.toNatClampNeg n.toNatClampNeg).heap[T.heap.size]? = some (arrV c7 n.toNatClampNeg (fun j => .ref (T.heap.size + 1 + j))) := by
    rw [show T.heap.size = (T.setVm vm1).heap.size from rfl, en_fl_top]
    exact congrArg some (en_arrV_congr (fun j hj => by rw [if_pos hj]))
  obtain ⟨t, st, hQ⟩ := kk _ L1 hs hL1 htop (fun j hj => en_fl_row (T.setVm vm1) c7 c0 n.toNatClampNeg len.toNatClampNeg n.toNatClampNeg hj) (fun q hq => en_fl_old (T.setVm vm1) c7 c0 n.toNatClampNeg len.toNatClampNeg hq n.toNatClampNeg) _ rfl XF
  refine ⟨t, ?_, hQ⟩
  obtain ⟨hr1, hr2⟩ := X1.roomAbove hcells hslots
  jvm_step X.here [hexec, hdg]
  simp only [multianewarray.sem, wp_bind', W.resolveClassAt_links (State.method?_setTop (F0 m pc la (.int len :: .int n :: rest)) X.here.top) hg1]
  rw [W.popN, if_neg (by decide)]
  refine ⟨F0 m pc la (.int len :: .int n :: rest), State.topJava?_setTop' (s := T.setVm vm1) (F0 m pc la (.int len :: .int n :: rest)) X.here.top, [.int n, .int len], rest, rfl, rfl, ?_⟩
  simp only [List.mapM_cons, List.mapM_nil, wp_bind', wp_pure']
  have eS : ((T.setTop (F0 m pc la (.int len :: .int n :: rest))).setVm vm1).setTop (F0 m pc la rest) = (T.setVm vm1).setTop (F0 m pc la rest) := by
    show ((T.setVm vm1).setTop _).setTop _ = _
    rw [State.setTop_setTop]
  refine en_wp_tab (k := k7') (kc := k0') (comp := c0) (cc := c9) (t0 := .array .int) (ty := .int) (fun i u => u = (en_fl (T.setVm vm1) c7 c0 n.toNatClampNeg len.toNatClampNeg i).setTop (F0 m pc la rest)) hk7' hkd7' hn hlen hl7 hh7 rfl (by show T.heap.size < _; have : T.heap.size + (1 + n.toNatClampNeg) ≤ e.platform.maxCells := hr1; omega) (by show T.slotsUsed + _ ≤ _; have : T.slotsUsed + (n.toNatClampNeg + n.toNatClampNeg * len.toNatClampNeg) ≤ e.platform.maxSlots := hr2; omega) ?_ ?_ ?_
  · rw [eS]
    exact (State.pushCell_setTop ..)
  · intro i u d' acts' Q' hi hu hnext
    subst hu
    obtain ⟨L, -, Xi⟩ := en_fl_stand X1 c7 c0 n.toNatClampNeg len.toNatClampNeg i
    have hmul : i * len.toNatClampNeg + len.toNatClampNeg ≤ n.toNatClampNeg * len.toNatClampNeg := by
      have := Nat.mul_le_mul_right len.toNatClampNeg (show i + 1 ≤ n.toNatClampNeg from hi)
      rw [Nat.succ_mul] at this
      exact this
    obtain ⟨r1, r2⟩ := Xi.roomAbove (a := 1) (b := len.toNatClampNeg) (by first | decide | omega) (by first | decide | omega)
    have hsz := en_fl_size (T.setVm vm1) c7 c0 n.toNatClampNeg len.toNatClampNeg i
    have hvm := en_fl_vm (T.setVm vm1) c7 c0 n.toNatClampNeg len.toNatClampNeg i
    have htp := en_fl_top (T.setVm vm1) c7 c0 n.toNatClampNeg len.toNatClampNeg i
    refine en_wp_row (s := (en_fl (T.setVm vm1) c7 c0 n.toNatClampNeg len.toNatClampNeg i).setTop (F0 m pc la rest)) (k := k0') (by show (en_fl (T.setVm vm1) c7 c0 n.toNatClampNeg len.toNatClampNeg i).vm.classes[c0]? = _; rw [hvm]; exact hk0') hkd0' hlen hl0 hh0 rfl (by rw [State.heap_setTop]; exact r1) r2 (fun acts'' => ?_)
    have hlt : T.heap.size < (en_fl (T.setVm vm1) c7 c0 n.toNatClampNeg len.toNatClampNeg i).heap.size := by rw [hsz]; show T.heap.size < T.heap.size + 1 + i; omega
    simp only [W.writeLoc, wp_pure', State.pushCell_setTop, State.heap_setTop]
    refine ⟨arrV c7 n.toNatClampNeg (fun j => if j < i then .ref (T.heap.size + 1 + j) else .null), ?_, ?_, ?_, ?_, hnext _ _ _ ?_⟩
    · show ((en_fl (T.setVm vm1) c7 c0 n.toNatClampNeg len.toNatClampNeg i).pushCell _).heap[T.heap.size]? = _
      rw [State.heap_pushCell_of_lt (h := hlt)]
      exact htp
    · intro q
      cases q
    · rw [arrV_size]
      exact hi
    · simp [State.fitsSlot, State.slotType?, hvm, hk7', hkd7', arrV]
      rfl
    · rw [hsz, arrV_store]
      show (((en_fl (T.setVm vm1) c7 c0 n.toNatClampNeg len.toNatClampNeg i).pushCell _).setTop (F0 m pc la rest)).setCell T.heap.size (arrV c7 n.toNatClampNeg (updV (fun j => if j < i then .ref (T.heap.size + 1 + j) else .null) i (.ref (T.heap.size + 1 + i)))) = _
      rw [en_fl_upd]
      rfl
  · intro u d' acts' hu
    subst hu
    simp only [wp_bind', W.mark, W.pushRef, State.topJava?_setTop' _ XF.here.top, Option.some.injEq, exists_eq_left', State.setTop_setTop, State.heap_setTop]
    intro acts
    simp [jvm, XF.here.top]
    exact st
end
end ENM
