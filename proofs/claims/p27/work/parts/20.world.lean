section ENL
set_option maxRecDepth 100000 in
theorem en_inst_0 : en_tb 405 (.instantiable "PackWeeks$Law" 3) = true := by decide +kernel
set_option maxRecDepth 100000 in
theorem en_inst_1 : en_tb 356 (.instantiable "PackWeeks$Pack" 17) = true := by decide +kernel
set_option maxRecDepth 100000 in
theorem en_inst_2 : en_tb 267 (.instantiable "PackWeeks$Past" 3) = true := by decide +kernel
set_option maxRecDepth 100000 in
theorem en_inst_3 : en_tb 199 (.instantiable "PackWeeks$Reader" 8) = true := by decide +kernel
set_option maxRecDepth 100000 in
theorem en_inst_4 : en_tb 311 (.instantiable "PackWeeks$Reckoner" 11) = true := by decide +kernel
set_option maxRecDepth 100000 in
theorem en_inst_5 : en_tb 362 (.instantiable "PackWeeks$Rows" 6) = true := by decide +kernel
set_option maxRecDepth 100000 in
theorem en_inst_6 : en_tb 288 (.instantiable "PackWeeks$Sights" 5) = true := by decide +kernel
set_option maxRecDepth 100000 in
theorem en_inst_7 : en_tb 230 (.instantiable "PackWeeks$Stand" 7) = true := by decide +kernel
set_option maxRecDepth 100000 in
theorem en_inst_8 : en_tb 158 (.instantiable "PackWeeks$Tape" 9) = true := by decide +kernel
set_option maxRecDepth 100000 in
theorem en_inst_9 : en_tb 150 (.instantiable "PackWeeks" 14) = true := by decide +kernel
set_option maxRecDepth 100000 in
theorem en_inst_10 : en_tb 1387 (.instantiable "PackWeeksModel" 41) = true := by decide +kernel
theorem en_inst : ∀ (ci : Nat) (r : vw_C), vwCl[ci]? = some r → Cond.instantiable r.1 r.2.2 ∈ en_gt := by
  intro ci r h
  match ci, h with
  | 0, h => cases h; exact en_tb_mem en_inst_0
  | 1, h => cases h; exact en_tb_mem en_inst_1
  | 2, h => cases h; exact en_tb_mem en_inst_2
  | 3, h => cases h; exact en_tb_mem en_inst_3
  | 4, h => cases h; exact en_tb_mem en_inst_4
  | 5, h => cases h; exact en_tb_mem en_inst_5
  | 6, h => cases h; exact en_tb_mem en_inst_6
  | 7, h => cases h; exact en_tb_mem en_inst_7
  | 8, h => cases h; exact en_tb_mem en_inst_8
  | 9, h => cases h; exact en_tb_mem en_inst_9
  | 10, h => cases h; exact en_tb_mem en_inst_10
  | k + 11, h => cases h
set_option maxRecDepth 100000 in
theorem en_o_word : Cond.arrayOver (.object "PackWeeks$Word") ∈ lw_tbl := by
  exact List.mem_of_getElem? (i := 164) (by decide +kernel : lw_tbl[164]? = some (Cond.arrayOver (.object "PackWeeks$Word")))
set_option maxRecDepth 100000 in
theorem en_o_stand : Cond.arrayOver (.object "PackWeeks$Stand") ∈ lw_tbl := by
  exact List.mem_of_getElem? (i := 273) (by decide +kernel : lw_tbl[273]? = some (Cond.arrayOver (.object "PackWeeks$Stand")))
set_option maxRecDepth 100000 in
theorem en_o_sights : Cond.arrayOver (.object "PackWeeks$Sights") ∈ lw_tbl := by
  exact List.mem_of_getElem? (i := 287) (by decide +kernel : lw_tbl[287]? = some (Cond.arrayOver (.object "PackWeeks$Sights")))
set_option maxRecDepth 100000 in
theorem en_o_tab : Cond.arrayOver (.array .int) ∈ lw_tbl := by
  exact List.mem_of_getElem? (i := 317) (by decide +kernel : lw_tbl[317]? = some (Cond.arrayOver (.array .int)))
set_option maxRecDepth 100000 in
theorem en_o_wini : Cond.initialized "PackWeeks$Word" ∈ lw_tbl := by
  exact List.mem_of_getElem? (i := 141) (by decide +kernel : lw_tbl[141]? = some (Cond.initialized "PackWeeks$Word"))
set_option maxRecDepth 100000 in
theorem en_o_sini : Cond.initialized "PackWeeks$Sights" ∈ lw_tbl := by
  exact List.mem_of_getElem? (i := 134) (by decide +kernel : lw_tbl[134]? = some (Cond.initialized "PackWeeks$Sights"))
set_option maxRecDepth 100000 in
theorem en_o_all : Cond.laysStatic "PackWeeks$Word" "ALL" "[LPackWeeks$Word;" ∈ lw_tbl := by
  exact List.mem_of_getElem? (i := 651) (by decide +kernel : lw_tbl[651]? = some (Cond.laysStatic "PackWeeks$Word" "ALL" "[LPackWeeks$Word;"))
set_option maxRecDepth 100000 in
theorem en_o_rose : Cond.laysStatic "PackWeeks$Sights" "ROSE" "[I" ∈ lw_tbl := by
  exact List.mem_of_getElem? (i := 1111) (by decide +kernel : lw_tbl[1111]? = some (Cond.laysStatic "PackWeeks$Sights" "ROSE" "[I"))
noncomputable def en_wix : List Nat := [661, 714, 726, 757, 768, 781, 783, 785, 787, 801, 803, 805, 811, 817, 819, 821, 827, 829, 835, 837, 839, 872, 889, 905, 912, 914, 2057, 2058, 2059, 2060, 2061, 2062, 2063, 2064, 2065, 859, 885, 887, 866, 868, 870, 874]
noncomputable def en_wt (nm : String) : Term := .static "PackWeeks$Word" nm "LPackWeeks$Word;"
noncomputable def en_wal : Term := .static "PackWeeks$Word" "ALL" "[LPackWeeks$Word;"
noncomputable def en_wro : Term := .static "PackWeeks$Sights" "ROSE" "[I"
noncomputable def en_wcs (w : Nat) (nm : String) : List Cond := [.exactly (en_wt nm) "PackWeeks$Word", .eq (.field (en_wt nm) "PackWeeks$Word" "key" "J") (.long (lN (en_wk w).1)), .eq (.field (en_wt nm) "PackWeeks$Word" "group" "I") (.int (nI (en_wk w).2.1)), .eq (.field (en_wt nm) "PackWeeks$Word" "rank" "I") (.int (nI (en_wk w).2.2)), .eq (.elem en_wal (.int (Int32.ofNat w))) (en_wt nm)]
noncomputable def en_wcr : List Cond := [.arrayOf en_wal (.object "PackWeeks$Word"), .eq (.length en_wal) (.int 42), .arrayOf en_wro .int, .eq (.length en_wro) (.int 9)] ++ (List.range 9).map (fun j => .eq (.elem en_wro (.int (Int32.ofNat j))) (.int (nI (en_rose.getD j 0))))
noncomputable def en_wlay (w : Nat) (nm : String) : Bool := match en_nth en_wix w with
  | some i => (match en_nth lw_tbl i with | some v => decide (v = .laysStatic "PackWeeks$Word" nm "LPackWeeks$Word;") | none => false)
  | none => false
noncomputable def en_wchk (w : Nat) : Bool := match en_wns[w]? with
  | some nm => en_wlay w nm && (en_wcs w nm).all (fun c => decide (c ∈ flatC narrow_1))
  | none => false
set_option maxRecDepth 100000 in
theorem en_wchk_1 : (List.range 21).all en_wchk = true := by decide +kernel
set_option maxRecDepth 100000 in
theorem en_wchk_2 : (List.range' 21 21).all en_wchk = true := by decide +kernel
set_option maxRecDepth 100000 in
theorem en_wcr_ok : en_wcr.all (fun c => decide (c ∈ flatC narrow_1)) = true := by decide +kernel
theorem en_wchk_at {w : Nat} (hw : w < 42) : en_wchk w = true := by
  by_cases h : w < 21
  · exact List.all_eq_true.mp en_wchk_1 w (List.mem_range.mpr h)
  · exact List.all_eq_true.mp en_wchk_2 w (List.mem_range'_1.mpr (by first | decide | omega))
theorem en_eqr {args : Array Value} {s : State} {t u : Term} {a : Nat} (h : (Cond.eq t u).before args s = true) (hu : u.eval args s none [] s = some (.ref a)) : t.eval args s none [] s = some (.ref a) := by
  cases hv : t.eval args s none [] s with
  | none => simp [Cond.before, Cond.holds, Cond.value, hv] at h
  | some w =>
    simp only [Cond.before, Cond.holds, Cond.value, hv, hu] at h
    cases w <;> simp_all
theorem en_keys : ∀ i : Fin 42, ∀ j : Fin 42, lN (en_wk i.val).1 = lN (en_wk j.val).1 → i = j := by decide +kernel
theorem en_wlays {w : Nat} {nm : String} (h : en_wlay w nm = true) : Cond.laysStatic "PackWeeks$Word" nm "LPackWeeks$Word;" ∈ lw_tbl := by
  unfold en_wlay at h
  split at h
  · split at h
    · rename_i v hv
      rw [en_nth_eq] at hv
      rw [← of_decide_eq_true h]
      exact List.mem_of_getElem? hv
    · cases h
  · cases h
/-- the words at the start -/
theorem en_words {s : State} {args : Array Value} (b : Nat) (hts : ∀ w ∈ lw_tbl, w.before args s = true) (hn : narrow_1.before args s = true) : ∃ ex : Nat → Nat, ex 1 = b ∧ en_Wd s.heap.size ex s s.heap := by
  have hA : ∀ a : Nat, a < s.heap.size → ¬ s.heap.size ≤ a := fun a ha hb => by omega
  have hfl : ∀ c, decide (c ∈ flatC narrow_1) = true → c.before args s = true := fun c hc => flat_of_before _ hn c (of_decide_eq_true hc)
  have h0 : ∀ w : Nat, ∃ a : Nat, w < 42 → ∃ nm, en_wns[w]? = some nm ∧ Cond.laysStatic "PackWeeks$Word" nm "LPackWeeks$Word;" ∈ lw_tbl ∧ (en_wt nm).eval args s none [] s = some (.ref a) ∧ va_O "PackWeeks$Word" a (fun q => s.heap.size ≤ q) s s.heap ∧
      va_OF "PackWeeks$Word" "key" "J" (.long (lN (en_wk w).1)) a (fun q => s.heap.size ≤ q) s s.heap ∧ va_OF "PackWeeks$Word" "group" "I" (.int (nI (en_wk w).2.1)) a (fun q => s.heap.size ≤ q) s s.heap ∧ va_OF "PackWeeks$Word" "rank" "I" (.int (nI (en_wk w).2.2)) a (fun q => s.heap.size ≤ q) s s.heap ∧
      (Term.elem en_wal (.int (Int32.ofNat w))).eval args s none [] s = some (.ref a) := by
    intro w
    by_cases hw : w < 42
    · have h := en_wchk_at hw
      unfold en_wchk at h
      split at h
      · rename_i nm hnm
        rw [Bool.and_eq_true] at h
        obtain ⟨h1, h2⟩ := h
        have h2 := List.all_eq_true.mp h2
        have c1 := hfl _ (h2 _ (List.mem_cons_self))
        have c2 := hfl _ (h2 _ (List.mem_cons_of_mem _ List.mem_cons_self))
        have c3 := hfl _ (h2 _ (List.mem_cons_of_mem _ (List.mem_cons_of_mem _ List.mem_cons_self)))
        have c4 := hfl _ (h2 _ (List.mem_cons_of_mem _ (List.mem_cons_of_mem _ (List.mem_cons_of_mem _ List.mem_cons_self))))
        have c5 := hfl _ (h2 _ (List.mem_cons_of_mem _ (List.mem_cons_of_mem _ (List.mem_cons_of_mem _ (List.mem_cons_of_mem _ List.mem_cons_self)))))
        obtain ⟨a, c, cell, kk, q1, q2, q3, q4, q5, q6, -⟩ := Cond.exactly_spec (args := args) (first := s) (o := none) (s := s) (idx := []) c1
        exact ⟨a, fun _ => ⟨nm, hnm, en_wlays h1, q1, ⟨cell, q3, q5, by rw [q6]; exact q2, hA a (Array.getElem?_eq_some_iff.mp q3).1⟩, vk_OFof q1 (va_eqtl c2) hA, vk_OFof q1 (va_eqt c3) hA, vk_OFof q1 (va_eqt c4) hA, en_eqr c5 q1⟩⟩
      · cases h
    · exact ⟨0, fun h => absurd h hw⟩
  obtain ⟨ad, had⟩ := Classical.axiomOfChoice h0
  have hr := List.all_eq_true.mp en_wcr_ok
  obtain ⟨tA, hA1, hA2⟩ := va_Tof (args := args) (s := s) (tm := en_wal) (N := 42) (f := fun j => .ref (ad j)) (A := fun q => s.heap.size ≤ q) (by decide) (hfl _ (hr _ (List.mem_cons_self))) (va_eqt (hfl _ (hr _ (List.mem_cons_of_mem _ List.mem_cons_self)))) (fun j hj => by
    obtain ⟨nm, -, -, -, -, -, -, -, h⟩ := had j hj
    exact h) hA
  obtain ⟨tR, hR1, hR2⟩ := va_Tof (args := args) (s := s) (tm := en_wro) (N := 9) (f := fun j => .int (nI (en_rose.getD j 0))) (A := fun q => s.heap.size ≤ q) (by decide) (hfl _ (hr _ (List.mem_cons_of_mem _ (List.mem_cons_of_mem _ List.mem_cons_self)))) (va_eqt (hfl _ (hr _ (List.mem_cons_of_mem _ (List.mem_cons_of_mem _ (List.mem_cons_of_mem _ List.mem_cons_self)))))) (fun j hj => va_eqt (hfl _ (hr _ (List.mem_append_right [_, _, _, _] (List.mem_map.mpr ⟨j, List.mem_range.mpr hj, rfl⟩))))) hA
  have e2 : ∀ w, w < 42 → (fun k => if k = 1 then b else if k = 44 then tA else if k = 45 then tR else ad (k - 2)) (2 + w) = ad w := fun w hw => by
    dsimp only
    rw [if_neg (by first | decide | omega), if_neg (by first | decide | omega), if_neg (by first | decide | omega), Nat.add_sub_cancel_left]
  refine ⟨fun k => if k = 1 then b else if k = 44 then tA else if k = 45 then tR else ad (k - 2), rfl, ?_, ?_, ?_, ?_, ?_, ?_, ?_, ?_, ?_, ?_⟩
  · intro w nm hnm
    have hw : w < 42 := (List.getElem?_eq_some_iff.mp hnm).1
    obtain ⟨nm', h1, h2, h3, -⟩ := had w hw
    cases hnm.symm.trans h1
    rw [e2 w hw]
    exact va_Zof (hts _ h2) (hts _ en_o_wini) h3 hA
  · exact va_Zof (hts _ en_o_all) (hts _ en_o_wini) hA1 hA
  · exact va_Zof (hts _ en_o_rose) (hts _ en_o_sini) hR1 hA
  · intro w hw
    obtain ⟨nm, -, -, -, -, h, -⟩ := had w hw
    rw [e2 w hw]
    exact h
  · intro w hw
    obtain ⟨nm, -, -, -, -, -, h, -⟩ := had w hw
    rw [e2 w hw]
    exact h
  · intro w hw
    obtain ⟨nm, -, -, -, -, -, -, h, -⟩ := had w hw
    rw [e2 w hw]
    exact h
  · intro w hw
    obtain ⟨nm, -, -, -, h, -⟩ := had w hw
    rw [e2 w hw]
    exact h
  · obtain ⟨cell, h1, h2, h3, h4, h5, h6, h7⟩ := hA2
    exact ⟨cell, h1, h2, h3, h4, h5, fun j hj => (h6 j hj).trans (congrArg (fun z => some (Value.ref z)) (e2 j hj).symm), h7⟩
  · exact hR2
  · intro i j h1 h2 h3 h4 he
    have a1 := e2 (i - 2) (by first | decide | omega)
    have a2 := e2 (j - 2) (by first | decide | omega)
    rw [show 2 + (i - 2) = i by omega] at a1
    rw [show 2 + (j - 2) = j by omega] at a2
    rw [a1, a2] at he
    obtain ⟨nm, -, -, -, -, ⟨cf, k, fi, f, cell, g1, g2, g3, g4, g5, g6⟩, -⟩ := had (i - 2) (by first | decide | omega)
    obtain ⟨nm', -, -, -, -, ⟨cf', k', fi', f', cell', g1', g2', g3', g4', g5', g6'⟩, -⟩ := had (j - 2) (by first | decide | omega)
    cases g1.symm.trans g1'
    rw [he] at g3
    cases g3.symm.trans g3'
    have := Option.some.inj (g5.symm.trans g5')
    have h9 := en_keys ⟨i - 2, by omega⟩ ⟨j - 2, by omega⟩ (Value.long.inj this)
    have h9 := Fin.mk.inj h9
    omega
theorem en_gt_lw {w : Cond} (h : w ∈ en_gt) : w ∈ lw_tbl := (List.mem_filter.mp h).1
theorem en_arrOf {s : State} {c comp : ClassId} {k : Class} {ty : FieldType} (h1 : s.vm.classes[c]? = some k) (h2 : k.kind = .array comp ty) : ArrOfT s c ty := fun n z => ⟨fun q h => (by cases h), k, h1, comp, h2⟩
noncomputable def en_ca (a0 a1 a2 a3 a4 a5 a6 a7 : ClassId) : Nat → ClassId
  | 0 => a0 | 1 => a1 | 2 => a2 | 3 => a3 | 4 => a4 | 5 => a5 | 6 => a6 | _ => a7
/-- the world at the law's entry -/
theorem en_world {s : State} {b : Nat} (hts : ∀ w ∈ lw_tbl, w.before #[Value.ref b] s = true) (hn : (Jvm.Cond.and given_1 narrow_1).before #[Value.ref b] s = true) : ∃ (ex : Nat → Nat) (cA : Nat → ClassId) (D : va_G), ex 1 = b ∧ en_Kw s.heap.size ex cA D s := by
  have hk : ∀ ci : Nat, ∃ (cC : ClassId) (iS : Nat → Nat), ∀ r, vwCl[ci]? = some r → u_Kn s r.1 r.2.1 r.2.2 cC iS := by
    intro ci
    cases h : vwCl[ci]? with
    | none => exact ⟨0, fun _ => 0, fun r hr => by cases hr⟩
    | some r =>
      obtain ⟨cC, iS, h1⟩ := u_known (ws := en_gt) (args := #[Value.ref b]) (s := s) (fun w hw => hts w (en_gt_lw hw)) (en_cl ci r h).1 (hts _ (en_gt_lw (en_inst ci r h)))
      exact ⟨cC, iS, fun r' hr => by cases hr; exact h1⟩
  obtain ⟨a0, k0, c0, f0, g0, e0⟩ := Cond.arrayClass_spec (hts _ (en_gt_lw (en_tb_mem en_w_int)))
  obtain ⟨a1, k1, c1, f1, g1, e1⟩ := Cond.arrayClass_spec (hts _ (en_gt_lw (en_tb_mem en_w_byte)))
  obtain ⟨a2, k2, c2, f2, g2, e2⟩ := Cond.arrayClass_spec (hts _ (en_gt_lw (en_tb_mem en_w_bool)))
  obtain ⟨a3, k3, c3, f3, g3, e3⟩ := Cond.arrayClass_spec (hts _ (en_gt_lw (en_tb_mem en_w_long)))
  obtain ⟨c4, a4, k4, d4, -, g4, e4, f4⟩ := Cond.arrayOver_spec (hts _ en_o_word)
  obtain ⟨c5, a5, k5, d5, -, g5, e5, f5⟩ := Cond.arrayOver_spec (hts _ en_o_stand)
  obtain ⟨c6, a6, k6, d6, -, g6, e6, f6⟩ := Cond.arrayOver_spec (hts _ en_o_sights)
  obtain ⟨c7, a7, k7, d7, -, g7, e7, f7⟩ := arrayOverA_spec (hts _ en_o_tab)
  have h7 : c7 = a0 := Option.some.inj (d7.symm.trans f0)
  subst h7
  obtain ⟨ex, hex, hWd⟩ := en_words b hts (by
    rw [Cond.before_and, Bool.and_eq_true] at hn
    exact hn.2)
  refine ⟨ex, en_ca c7 a1 a2 a3 a4 a5 a6 a7, (fun ci => (hk ci).choose, fun ci => (hk ci).choose_spec.choose), hex, ⟨fun ci r hr => (hk ci).choose_spec.choose_spec r hr, fun k q hq => ?_⟩, hWd, ⟨va_AO.of (hts _ en_o_word), va_AO.of (hts _ en_o_stand), va_AO.of (hts _ en_o_sights)⟩, fun w hw q hq h0 => ?_, ⟨k7, g7, e7⟩, k0, c0, g0, e0⟩
  · match k, hq with
    | 0, h => cases h; exact ⟨en_arrOf g0 e0, f0⟩
    | 1, h => cases h; exact ⟨en_arrOf g1 e1, f1⟩
    | 2, h => cases h; exact ⟨en_arrOf g2 e2, f2⟩
    | 3, h => cases h; exact ⟨en_arrOf g3 e3, f3⟩
    | 4, h => cases h; exact ⟨en_arrOf g4 e4, k4, c4, g4, e4, d4, f4⟩
    | 5, h => cases h; exact ⟨en_arrOf g5 e5, k5, c5, g5, e5, d5, f5⟩
    | 6, h => cases h; exact ⟨en_arrOf g6 e6, k6, c6, g6, e6, d6, f6⟩
    | 7, h => cases h; exact ⟨en_arrOf g7 e7, f7⟩
    | k + 8, h => cases h
  · have hm := List.all_eq_true.mp en_ML_ok w hw
    unfold en_mok at hm
    rw [hq] at hm
    dsimp only at hm
    obtain ⟨j, hj⟩ : ∃ j, w.2.2.2.1 = j + 1 := ⟨w.2.2.2.1 - 1, by omega⟩
    rw [hj] at hm
    have hm : (match en_nth lw_tbl w.2.2.2.2 with
      | some v => decide (v = .methodLinkNest (en_cn w.1) w.2.1 q.1 "PackWeeks")
      | none => false) = true := hm
    split at hm
    · rename_i v hv
      rw [en_nth_eq] at hv
      have e := of_decide_eq_true hm
      subst e
      exact va_Nw.of rfl (hts _ (List.mem_of_getElem? hv))
    · cases hm
end ENL
