section ENL
set_option maxRecDepth 100000 in
theorem en_inst_0 : en_tb 405 (.instantiable "PackWeeks$Law" 3) = true := by decide +kernel
set_option maxRecDepth 100000 in
theorem en_inst_1 : en_tb 356 (.instantiable "PackWeeks$Pack" 17) = true := by decide +kernel
set_option maxRecDepth 100000 in
theorem en_inst_2 : en_tb 267 (.instantiable "PackWeeks$Past" 3) = true := by decide +kernel
set_option maxRecDepth 100000 in
theorem en_inst_3 : en_tb 199 (.instantiable "PackWeeks$Reader" 8) = true := by decide +kernel
set_option maxRecDepth 100000 in
theorem en_inst_4 : en_tb 311 (.instantiable "PackWeeks$Reckoner" 11) = true := by decide +kernel
set_option maxRecDepth 100000 in
theorem en_inst_5 : en_tb 362 (.instantiable "PackWeeks$Rows" 6) = true := by decide +kernel
set_option maxRecDepth 100000 in
theorem en_inst_6 : en_tb 288 (.instantiable "PackWeeks$Sights" 5) = true := by decide +kernel
set_option maxRecDepth 100000 in
theorem en_inst_7 : en_tb 230 (.instantiable "PackWeeks$Stand" 7) = true := by decide +kernel
set_option maxRecDepth 100000 in
theorem en_inst_8 : en_tb 158 (.instantiable "PackWeeks$Tape" 9) = true := by decide +kernel
set_option maxRecDepth 100000 in
theorem en_inst_9 : en_tb 150 (.instantiable "PackWeeks" 14) = true := by decide +kernel
set_option maxRecDepth 100000 in
theorem en_inst_10 : en_tb 1391 (.instantiable "PackWeeksModel" 41) = true := by decide +kernel
theorem en_inst : ∀ (ci : Nat) (r : vw_C), vwCl[ci]? = some r → Cond.instantiable r.1 r.2.2 ∈ en_gt := by
  intro ci r h
  match ci, h with
  | 0, h => cases h; exact en_tb_mem en_inst_0
  | 1, h => cases h; exact en_tb_mem en_inst_1
  | 2, h => cases h; exact en_tb_mem en_inst_2
  | 3, h => cases h; exact en_tb_mem en_inst_3
  | 4, h => cases h; exact en_tb_mem en_inst_4
  | 5, h => cases h; exact en_tb_mem en_inst_5
  | 6, h => cases h; exact en_tb_mem en_inst_6
  | 7, h => cases h; exact en_tb_mem en_inst_7
  | 8, h => cases h; exact en_tb_mem en_inst_8
  | 9, h => cases h; exact en_tb_mem en_inst_9
  | 10, h => cases h; exact en_tb_mem en_inst_10
  | k + 11, h => cases h
set_option maxRecDepth 100000 in
theorem en_o_word : Cond.arrayOver (.object "PackWeeks$Word") ∈ lw_tbl := by
  exact List.mem_of_getElem? (i := 164) (by decide +kernel : lw_tbl[164]? = some (Cond.arrayOver (.object "PackWeeks$Word")))
set_option maxRecDepth 100000 in
theorem en_o_stand : Cond.arrayOver (.object "PackWeeks$Stand") ∈ lw_tbl := by
  exact List.mem_of_getElem? (i := 273) (by decide +kernel : lw_tbl[273]? = some (Cond.arrayOver (.object "PackWeeks$Stand")))
set_option maxRecDepth 100000 in
theorem en_o_sights : Cond.arrayOver (.object "PackWeeks$Sights") ∈ lw_tbl := by
  exact List.mem_of_getElem? (i := 287) (by decide +kernel : lw_tbl[287]? = some (Cond.arrayOver (.object "PackWeeks$Sights")))
set_option maxRecDepth 100000 in
theorem en_o_tab : Cond.arrayOver (.array .int) ∈ lw_tbl := by
  exact List.mem_of_getElem? (i := 317) (by decide +kernel : lw_tbl[317]? = some (Cond.arrayOver (.array .int)))
set_option maxRecDepth 100000 in
theorem en_o_grid : Cond.laysStatic "PackWeeks$Word" "GRID" "LPackWeeks$Word;" ∈ lw_tbl := by
  exact List.mem_of_getElem? (i := 661) (by decide +kernel : lw_tbl[661]? = some (Cond.laysStatic "PackWeeks$Word" "GRID" "LPackWeeks$Word;"))
set_option maxRecDepth 100000 in
theorem en_o_wini : Cond.initialized "PackWeeks$Word" ∈ lw_tbl := by
  exact List.mem_of_getElem? (i := 141) (by decide +kernel : lw_tbl[141]? = some (Cond.initialized "PackWeeks$Word"))
theorem en_gt_lw {w : Cond} (h : w ∈ en_gt) : w ∈ lw_tbl := (List.mem_filter.mp h).1
theorem en_arrOf {s : State} {c comp : ClassId} {k : Class} {ty : FieldType} (h1 : s.vm.classes[c]? = some k) (h2 : k.kind = .array comp ty) : ArrOfT s c ty := fun n z => ⟨fun q h => (by cases h), k, h1, comp, h2⟩
def en_ca (a0 a1 a2 a3 a4 a5 a6 a7 : ClassId) : Nat → ClassId
  | 0 => a0 | 1 => a1 | 2 => a2 | 3 => a3 | 4 => a4 | 5 => a5 | 6 => a6 | _ => a7
def en_exb (g b : Nat) : Nat → Nat
  | 0 => g | _ => b
/-- the world at the law's entry -/
theorem en_world {s : State} {b : Nat} (hts : ∀ w ∈ lw_tbl, w.before #[Value.ref b] s = true) (hn : (Jvm.Cond.and given_1 narrow_1).before #[Value.ref b] s = true) : ∃ (ex : Nat → Nat) (cA : Nat → ClassId) (D : va_G), ex 1 = b ∧ en_Kw s.heap.size ex cA D s := by
  have hk : ∀ ci : Nat, ∃ (cC : ClassId) (iS : Nat → Nat), ∀ r, vwCl[ci]? = some r → u_Kn s r.1 r.2.1 r.2.2 cC iS := by
    intro ci
    cases h : vwCl[ci]? with
    | none => exact ⟨0, fun _ => 0, fun r hr => by cases hr⟩
    | some r =>
      obtain ⟨cC, iS, h1⟩ := u_known (ws := en_gt) (args := #[Value.ref b]) (s := s) (fun w hw => hts w (en_gt_lw hw)) (en_cl ci r h).1 (hts _ (en_gt_lw (en_inst ci r h)))
      exact ⟨cC, iS, fun r' hr => by cases hr; exact h1⟩
  obtain ⟨a0, k0, c0, f0, g0, e0⟩ := Cond.arrayClass_spec (hts _ (en_gt_lw (en_tb_mem en_w_int)))
  obtain ⟨a1, k1, c1, f1, g1, e1⟩ := Cond.arrayClass_spec (hts _ (en_gt_lw (en_tb_mem en_w_byte)))
  obtain ⟨a2, k2, c2, f2, g2, e2⟩ := Cond.arrayClass_spec (hts _ (en_gt_lw (en_tb_mem en_w_bool)))
  obtain ⟨a3, k3, c3, f3, g3, e3⟩ := Cond.arrayClass_spec (hts _ (en_gt_lw (en_tb_mem en_w_long)))
  obtain ⟨c4, a4, k4, d4, -, g4, e4, f4⟩ := Cond.arrayOver_spec (hts _ en_o_word)
  obtain ⟨c5, a5, k5, d5, -, g5, e5, f5⟩ := Cond.arrayOver_spec (hts _ en_o_stand)
  obtain ⟨c6, a6, k6, d6, -, g6, e6, f6⟩ := Cond.arrayOver_spec (hts _ en_o_sights)
  obtain ⟨c7, a7, k7, d7, -, g7, e7, f7⟩ := arrayOverA_spec (hts _ en_o_tab)
  have h7 : c7 = a0 := Option.some.inj (d7.symm.trans f0)
  subst h7
  have hgr : ∃ g, (Term.static "PackWeeks$Word" "GRID" "LPackWeeks$Word;").eval #[Value.ref b] s none [] s = some (.ref g) := by
    have h : (Cond.exactly (.static "PackWeeks$Word" "GRID" "LPackWeeks$Word;") "PackWeeks$Word").before #[Value.ref b] s = true := flat_of_before _ hn _ (by decide +kernel)
    cases hv : (Term.static "PackWeeks$Word" "GRID" "LPackWeeks$Word;").eval #[Value.ref b] s none [] s with
    | none => simp [Cond.before, Cond.holds, Cond.value, hv] at h
    | some w =>
      cases w with
      | ref g => exact ⟨g, rfl⟩
      | null =>
        simp only [Cond.before, Cond.holds, Cond.value, hv] at h
        cases hf : s.vm.findClass "PackWeeks$Word" <;> rw [hf] at h <;> simp at h
      | _ => simp [Cond.before, Cond.holds, Cond.value, hv] at h
  obtain ⟨g, hg⟩ := hgr
  refine ⟨en_exb g b, en_ca c7 a1 a2 a3 a4 a5 a6 a7, (fun ci => (hk ci).choose, fun ci => (hk ci).choose_spec.choose), rfl, ⟨fun ci r hr => (hk ci).choose_spec.choose_spec r hr, fun k q hq => ?_⟩, va_Zof (hts _ en_o_grid) (hts _ en_o_wini) hg (fun a ha hb => by omega), ⟨va_AO.of (hts _ en_o_word), va_AO.of (hts _ en_o_stand), va_AO.of (hts _ en_o_sights)⟩, fun w hw q hq h0 => ?_, ⟨k7, g7, e7⟩, k0, c0, g0, e0⟩
  · match k, hq with
    | 0, h => cases h; exact ⟨en_arrOf g0 e0, f0⟩
    | 1, h => cases h; exact ⟨en_arrOf g1 e1, f1⟩
    | 2, h => cases h; exact ⟨en_arrOf g2 e2, f2⟩
    | 3, h => cases h; exact ⟨en_arrOf g3 e3, f3⟩
    | 4, h => cases h; exact ⟨en_arrOf g4 e4, k4, c4, g4, e4, d4, f4⟩
    | 5, h => cases h; exact ⟨en_arrOf g5 e5, k5, c5, g5, e5, d5, f5⟩
    | 6, h => cases h; exact ⟨en_arrOf g6 e6, k6, c6, g6, e6, d6, f6⟩
    | 7, h => cases h; exact ⟨en_arrOf g7 e7, f7⟩
    | k + 8, h => cases h
  · have hm := List.all_eq_true.mp en_ML_ok w hw
    unfold en_mok at hm
    rw [hq] at hm
    dsimp only at hm
    obtain ⟨j, hj⟩ : ∃ j, w.2.2.2.1 = j + 1 := ⟨w.2.2.2.1 - 1, by omega⟩
    rw [hj] at hm
    have hm : (match en_nth lw_tbl w.2.2.2.2 with
      | some v => decide (v = .methodLinkNest (en_cn w.1) w.2.1 q.1 "PackWeeks")
      | none => false) = true := hm
    split at hm
    · rename_i v hv
      rw [en_nth_eq] at hv
      have e := of_decide_eq_true hm
      subst e
      exact va_Nw.of rfl (hts _ (List.mem_of_getElem? hv))
    · cases hm
end ENL
