section ENQ
set_option maxRecDepth 100000 in
theorem tx_z1 : Cond.laysStatic Bundle.tN "UNASSIGNED_STACK" Bundle.steD ∈ lw_tbl := List.mem_of_getElem? (i := 1322) (by decide +kernel : lw_tbl[1322]? = some (Cond.laysStatic Bundle.tN "UNASSIGNED_STACK" Bundle.steD))
set_option maxRecDepth 100000 in
theorem tx_z2 : Cond.laysStatic Bundle.tN "SUPPRESSED_SENTINEL" Bundle.listD ∈ lw_tbl := List.mem_of_getElem? (i := 1324) (by decide +kernel : lw_tbl[1324]? = some (Cond.laysStatic Bundle.tN "SUPPRESSED_SENTINEL" Bundle.listD))
set_option maxRecDepth 100000 in
theorem tx_z3 : Cond.initialized Bundle.tN ∈ lw_tbl := List.mem_of_getElem? (i := 143) (by decide +kernel : lw_tbl[143]? = some (Cond.initialized Bundle.tN))
set_option maxRecDepth 100000 in
theorem tx_z4 : Cond.castable tx_N tx_N ∈ lw_tbl := List.mem_of_getElem? (i := 1297) (by decide +kernel : lw_tbl[1297]? = some (Cond.castable tx_N tx_N))
set_option maxRecDepth 100000 in
theorem tx_z5 : Cond.declares (Bundle.initS tx_R) ∈ lw_tbl := List.mem_of_getElem? (i := 1299) (by decide +kernel : lw_tbl[1299]? = some (Cond.declares (Bundle.initS tx_R)))
set_option maxRecDepth 100000 in
theorem tx_z6 : Cond.declares (Bundle.initS "java/lang/Exception") ∈ lw_tbl := List.mem_of_getElem? (i := 1301) (by decide +kernel : lw_tbl[1301]? = some (Cond.declares (Bundle.initS "java/lang/Exception")))
set_option maxRecDepth 100000 in
theorem tx_z7 : Cond.declares (Bundle.initS Bundle.tN) ∈ lw_tbl := List.mem_of_getElem? (i := 1303) (by decide +kernel : lw_tbl[1303]? = some (Cond.declares (Bundle.initS Bundle.tN)))
set_option maxRecDepth 100000 in
theorem tx_y0 : Cond.stringRef "PackWeeks" 145 "no such thing, or nothing such of it" ∈ lw_tbl := List.mem_of_getElem? (i := 1334) (by decide +kernel : lw_tbl[1334]? = some (Cond.stringRef "PackWeeks" 145 "no such thing, or nothing such of it"))
set_option maxRecDepth 100000 in
theorem tx_y1 : Cond.stringRef "PackWeeks" 169 "no such crew, or nothing such of it" ∈ lw_tbl := List.mem_of_getElem? (i := 1370) (by decide +kernel : lw_tbl[1370]? = some (Cond.stringRef "PackWeeks" 169 "no such crew, or nothing such of it"))
set_option maxRecDepth 100000 in
theorem tx_y2 : Cond.stringRef "PackWeeks" 243 "no two crews" ∈ lw_tbl := List.mem_of_getElem? (i := 1379) (by decide +kernel : lw_tbl[1379]? = some (Cond.stringRef "PackWeeks" 243 "no two crews"))
theorem tx_kof {s : State} {b is : Nat} {tx : String} (hts : ∀ w ∈ lw_tbl, w.before #[Value.ref b] s = true) (hn : (Jvm.Cond.and given_1 narrow_1).before #[Value.ref b] s = true) (hw : Cond.stringRef "PackWeeks" is tx ∈ lw_tbl) : ∃ sa, tx_K s.heap.size is tx sa s := by
  have hU : (Cond.isRef (.static Bundle.tN "UNASSIGNED_STACK" Bundle.steD)).before #[Value.ref b] s = true := flat_of_before _ hn _ (by decide +kernel)
  have hN : (Cond.isRef (.static Bundle.tN "SUPPRESSED_SENTINEL" Bundle.listD)).before #[Value.ref b] s = true := flat_of_before _ hn _ (by decide +kernel)
  obtain ⟨cur, kX, hc1, -⟩ := Cond.instantiable_spec (hts _ (en_gt_lw (en_tb_mem en_inst_9)))
  obtain ⟨k, cf, i, a, -, -, -, -, -, hev⟩ := Cond.stringRef_spec hc1 (hts _ hw)
  refine ⟨a, ⟨vx_Zqof (hts _ tx_z1) (hts _ tx_z3) hU (fun q h1 h2 => by omega), vx_Zqof (hts _ tx_z2) (hts _ tx_z3) hN (fun q h1 h2 => by omega)⟩, vk_R.of (hts _ hw) hev, fun w hw9 => ?_⟩
  refine va_Nw.of (tx_NW_on w hw9) (hts w ?_)
  simp only [tx_NW, List.mem_cons, List.not_mem_nil, or_false] at hw9
  rcases hw9 with rfl | rfl | rfl | rfl
  · exact tx_z4
  · exact tx_z5
  · exact tx_z6
  · exact tx_z7
noncomputable def tx_All (s : State) : Prop := (∃ sa, tx_K s.heap.size 145 "no such thing, or nothing such of it" sa s) ∧ (∃ sa, tx_K s.heap.size 169 "no such crew, or nothing such of it" sa s) ∧ (∃ sa, tx_K s.heap.size 243 "no two crews" sa s)
theorem tx_start {s : State} {b : Nat} (hts : ∀ w ∈ lw_tbl, w.before #[Value.ref b] s = true) (hn : (Jvm.Cond.and given_1 narrow_1).before #[Value.ref b] s = true) : tx_All s := ⟨tx_kof hts hn tx_y0, tx_kof hts hn tx_y1, tx_kof hts hn tx_y2⟩
end ENQ
