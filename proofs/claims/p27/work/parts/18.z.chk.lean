section ENE
noncomputable def en_chk1 (q : en_M) (g : Nat → Option en_I) (pc : Nat) : Bool := match g pc with
  | some e => en_ok q pc e
  | none => true
noncomputable def en_chk (mi : Nat) : Bool := match en_nth en_inf mi, en_nth en_tab mi with
  | some q, some g => Nat.beq (en_ml mi) q.2.2.1 && (Nat.ble g.2 q.2.1.data.toList.length && fz_walk (fz_f q g.1) q.2.1.data.toList 0)
  | none, _ => true
  | _, _ => false
set_option maxRecDepth 100000 in
theorem en_chk_0 : [0, 1, 2, 3, 4, 5, 6, 7].all en_chk = true := by decide +kernel
set_option maxRecDepth 100000 in
theorem en_chk_1 : [8, 9, 10, 11, 12, 13, 14, 15].all en_chk = true := by decide +kernel
set_option maxRecDepth 100000 in
theorem en_chk_2 : [16, 17, 18, 19, 20, 21, 22, 23].all en_chk = true := by decide +kernel
set_option maxRecDepth 100000 in
theorem en_chk_3 : [24, 25, 26, 27, 28, 29, 30, 31].all en_chk = true := by decide +kernel
set_option maxRecDepth 100000 in
theorem en_chk_4 : [32, 33, 34, 35, 36, 37, 38, 39].all en_chk = true := by decide +kernel
set_option maxRecDepth 100000 in
theorem en_chk_5 : [40, 41, 42, 43, 44, 45, 46, 47].all en_chk = true := by decide +kernel
set_option maxRecDepth 100000 in
theorem en_chk_6 : [48, 49, 50, 51, 52, 53, 54, 55].all en_chk = true := by decide +kernel
set_option maxRecDepth 100000 in
theorem en_chk_7 : [56, 57, 58, 59, 60, 61, 62, 63].all en_chk = true := by decide +kernel
set_option maxRecDepth 100000 in
theorem en_chk_8 : [64, 65, 66, 67, 68, 69, 70, 71].all en_chk = true := by decide +kernel
set_option maxRecDepth 100000 in
theorem en_chk_9 : [72, 73, 74, 75, 76, 77, 78, 79].all en_chk = true := by decide +kernel
set_option maxRecDepth 100000 in
theorem en_chk_10 : [80, 81, 82, 83, 84, 85, 86, 87].all en_chk = true := by decide +kernel
set_option maxRecDepth 100000 in
theorem en_chk_11 : [88, 89, 90, 91, 92, 93, 94, 95].all en_chk = true := by decide +kernel
set_option maxRecDepth 100000 in
theorem en_chk_12 : [96, 97, 98, 99, 100, 101, 102, 103].all en_chk = true := by decide +kernel
set_option maxRecDepth 100000 in
theorem en_chk_13 : [104, 105, 106, 107, 108, 109, 110, 111].all en_chk = true := by decide +kernel
set_option maxRecDepth 100000 in
theorem en_chk_14 : [112, 113, 114, 115, 116, 117, 118, 119].all en_chk = true := by decide +kernel
set_option maxRecDepth 100000 in
theorem en_chk_15 : [120, 121, 122, 123, 124, 125, 126, 127].all en_chk = true := by decide +kernel
set_option maxRecDepth 100000 in
theorem en_chk_16 : [128, 129, 130, 131, 132, 133, 134, 135].all en_chk = true := by decide +kernel
set_option maxRecDepth 100000 in
theorem en_chk_17 : [136, 137, 138, 139, 140, 141, 142, 143].all en_chk = true := by decide +kernel
set_option maxRecDepth 100000 in
theorem en_chk_18 : [144, 145, 146, 147, 148, 149, 150, 151].all en_chk = true := by decide +kernel
set_option maxRecDepth 100000 in
theorem en_chk_19 : [152, 153, 154, 155, 156, 157, 158, 159].all en_chk = true := by decide +kernel
set_option maxRecDepth 100000 in
theorem en_chk_20 : [160, 161, 162, 163, 164, 165, 166, 167].all en_chk = true := by decide +kernel
set_option maxRecDepth 100000 in
theorem en_chk_21 : [168, 169, 170, 171, 172, 173, 174, 175].all en_chk = true := by decide +kernel
set_option maxRecDepth 100000 in
theorem en_chk_22 : [176, 177, 178, 179, 180, 181, 182, 183].all en_chk = true := by decide +kernel
set_option maxRecDepth 100000 in
theorem en_chk_23 : [184, 185, 186, 187, 188, 189, 190, 191].all en_chk = true := by decide +kernel
set_option maxRecDepth 100000 in
theorem en_chk_24 : [192, 193, 194, 195, 196, 197, 198, 199].all en_chk = true := by decide +kernel
set_option maxRecDepth 100000 in
theorem en_chk_25 : [200, 201, 202, 203, 204, 205, 206, 207].all en_chk = true := by decide +kernel
set_option maxRecDepth 100000 in
theorem en_chk_26 : [208, 209, 210, 211, 212, 213, 214, 215].all en_chk = true := by decide +kernel
set_option maxRecDepth 100000 in
theorem en_chk_27 : [216, 217, 218, 219, 220, 221, 222, 223].all en_chk = true := by decide +kernel
set_option maxRecDepth 100000 in
theorem en_chk_28 : [224, 225, 226, 227, 228, 229, 230, 231].all en_chk = true := by decide +kernel
set_option maxRecDepth 100000 in
theorem en_chk_29 : [232, 233, 234, 235, 236, 237, 238, 239].all en_chk = true := by decide +kernel
set_option maxRecDepth 100000 in
theorem en_chk_30 : [240, 241, 242, 243, 244, 245, 246, 247].all en_chk = true := by decide +kernel
set_option maxRecDepth 100000 in
theorem en_chk_31 : [248, 249, 250, 251, 252, 253, 254, 255].all en_chk = true := by decide +kernel
set_option maxRecDepth 100000 in
theorem en_chk_32 : [256, 257, 258, 259, 260, 261, 262, 263].all en_chk = true := by decide +kernel
set_option maxRecDepth 100000 in
theorem en_chk_33 : [264, 265, 266, 267, 268, 269, 270, 271].all en_chk = true := by decide +kernel
set_option maxRecDepth 100000 in
theorem en_chk_34 : [272, 273, 274, 275, 276, 277, 278, 279].all en_chk = true := by decide +kernel
set_option maxRecDepth 100000 in
theorem en_chk_35 : [280, 281, 282, 283, 284, 285, 286, 287].all en_chk = true := by decide +kernel
set_option maxRecDepth 100000 in
theorem en_chk_36 : [288].all en_chk = true := by decide +kernel
theorem en_inf_len : en_inf.length = 289 := by unfold en_inf; rw [List.length_map]; decide +kernel
theorem en_chk_all : ∀ mi, mi < 289 → en_chk mi = true := by
  intro mi h
  by_cases h0 : mi < 8
  · exact List.all_eq_true.mp en_chk_0 mi (by simp only [List.mem_cons, List.not_mem_nil, or_false]; omega)
  by_cases h1 : mi < 16
  · exact List.all_eq_true.mp en_chk_1 mi (by simp only [List.mem_cons, List.not_mem_nil, or_false]; omega)
  by_cases h2 : mi < 24
  · exact List.all_eq_true.mp en_chk_2 mi (by simp only [List.mem_cons, List.not_mem_nil, or_false]; omega)
  by_cases h3 : mi < 32
  · exact List.all_eq_true.mp en_chk_3 mi (by simp only [List.mem_cons, List.not_mem_nil, or_false]; omega)
  by_cases h4 : mi < 40
  · exact List.all_eq_true.mp en_chk_4 mi (by simp only [List.mem_cons, List.not_mem_nil, or_false]; omega)
  by_cases h5 : mi < 48
  · exact List.all_eq_true.mp en_chk_5 mi (by simp only [List.mem_cons, List.not_mem_nil, or_false]; omega)
  by_cases h6 : mi < 56
  · exact List.all_eq_true.mp en_chk_6 mi (by simp only [List.mem_cons, List.not_mem_nil, or_false]; omega)
  by_cases h7 : mi < 64
  · exact List.all_eq_true.mp en_chk_7 mi (by simp only [List.mem_cons, List.not_mem_nil, or_false]; omega)
  by_cases h8 : mi < 72
  · exact List.all_eq_true.mp en_chk_8 mi (by simp only [List.mem_cons, List.not_mem_nil, or_false]; omega)
  by_cases h9 : mi < 80
  · exact List.all_eq_true.mp en_chk_9 mi (by simp only [List.mem_cons, List.not_mem_nil, or_false]; omega)
  by_cases h10 : mi < 88
  · exact List.all_eq_true.mp en_chk_10 mi (by simp only [List.mem_cons, List.not_mem_nil, or_false]; omega)
  by_cases h11 : mi < 96
  · exact List.all_eq_true.mp en_chk_11 mi (by simp only [List.mem_cons, List.not_mem_nil, or_false]; omega)
  by_cases h12 : mi < 104
  · exact List.all_eq_true.mp en_chk_12 mi (by simp only [List.mem_cons, List.not_mem_nil, or_false]; omega)
  by_cases h13 : mi < 112
  · exact List.all_eq_true.mp en_chk_13 mi (by simp only [List.mem_cons, List.not_mem_nil, or_false]; omega)
  by_cases h14 : mi < 120
  · exact List.all_eq_true.mp en_chk_14 mi (by simp only [List.mem_cons, List.not_mem_nil, or_false]; omega)
  by_cases h15 : mi < 128
  · exact List.all_eq_true.mp en_chk_15 mi (by simp only [List.mem_cons, List.not_mem_nil, or_false]; omega)
  by_cases h16 : mi < 136
  · exact List.all_eq_true.mp en_chk_16 mi (by simp only [List.mem_cons, List.not_mem_nil, or_false]; omega)
  by_cases h17 : mi < 144
  · exact List.all_eq_true.mp en_chk_17 mi (by simp only [List.mem_cons, List.not_mem_nil, or_false]; omega)
  by_cases h18 : mi < 152
  · exact List.all_eq_true.mp en_chk_18 mi (by simp only [List.mem_cons, List.not_mem_nil, or_false]; omega)
  by_cases h19 : mi < 160
  · exact List.all_eq_true.mp en_chk_19 mi (by simp only [List.mem_cons, List.not_mem_nil, or_false]; omega)
  by_cases h20 : mi < 168
  · exact List.all_eq_true.mp en_chk_20 mi (by simp only [List.mem_cons, List.not_mem_nil, or_false]; omega)
  by_cases h21 : mi < 176
  · exact List.all_eq_true.mp en_chk_21 mi (by simp only [List.mem_cons, List.not_mem_nil, or_false]; omega)
  by_cases h22 : mi < 184
  · exact List.all_eq_true.mp en_chk_22 mi (by simp only [List.mem_cons, List.not_mem_nil, or_false]; omega)
  by_cases h23 : mi < 192
  · exact List.all_eq_true.mp en_chk_23 mi (by simp only [List.mem_cons, List.not_mem_nil, or_false]; omega)
  by_cases h24 : mi < 200
  · exact List.all_eq_true.mp en_chk_24 mi (by simp only [List.mem_cons, List.not_mem_nil, or_false]; omega)
  by_cases h25 : mi < 208
  · exact List.all_eq_true.mp en_chk_25 mi (by simp only [List.mem_cons, List.not_mem_nil, or_false]; omega)
  by_cases h26 : mi < 216
  · exact List.all_eq_true.mp en_chk_26 mi (by simp only [List.mem_cons, List.not_mem_nil, or_false]; omega)
  by_cases h27 : mi < 224
  · exact List.all_eq_true.mp en_chk_27 mi (by simp only [List.mem_cons, List.not_mem_nil, or_false]; omega)
  by_cases h28 : mi < 232
  · exact List.all_eq_true.mp en_chk_28 mi (by simp only [List.mem_cons, List.not_mem_nil, or_false]; omega)
  by_cases h29 : mi < 240
  · exact List.all_eq_true.mp en_chk_29 mi (by simp only [List.mem_cons, List.not_mem_nil, or_false]; omega)
  by_cases h30 : mi < 248
  · exact List.all_eq_true.mp en_chk_30 mi (by simp only [List.mem_cons, List.not_mem_nil, or_false]; omega)
  by_cases h31 : mi < 256
  · exact List.all_eq_true.mp en_chk_31 mi (by simp only [List.mem_cons, List.not_mem_nil, or_false]; omega)
  by_cases h32 : mi < 264
  · exact List.all_eq_true.mp en_chk_32 mi (by simp only [List.mem_cons, List.not_mem_nil, or_false]; omega)
  by_cases h33 : mi < 272
  · exact List.all_eq_true.mp en_chk_33 mi (by simp only [List.mem_cons, List.not_mem_nil, or_false]; omega)
  by_cases h34 : mi < 280
  · exact List.all_eq_true.mp en_chk_34 mi (by simp only [List.mem_cons, List.not_mem_nil, or_false]; omega)
  by_cases h35 : mi < 288
  · exact List.all_eq_true.mp en_chk_35 mi (by simp only [List.mem_cons, List.not_mem_nil, or_false]; omega)
  by_cases h36 : mi < 289
  · exact List.all_eq_true.mp en_chk_36 mi (by simp only [List.mem_cons, List.not_mem_nil, or_false]; omega)
  omega
theorem en_chk_at {mi : Nat} {q : en_M} (hq : en_nth en_inf mi = some q) : ∃ g, en_nth en_tab mi = some g ∧ en_ml mi = q.2.2.1 ∧ ∀ pc e, pc < g.2 → g.1 pc = some e → en_ok q pc e = true := by
  have hl : mi < 289 := by
    rw [en_nth_eq] at hq
    have := (List.getElem?_eq_some_iff.mp hq).1
    rw [en_inf_len] at this
    exact this
  have h := en_chk_all mi hl
  unfold en_chk at h
  rw [hq] at h
  cases hg : en_nth en_tab mi with
  | none => rw [hg] at h; cases h
  | some g =>
    rw [hg] at h
    dsimp only at h
    rw [Bool.and_eq_true, Bool.and_eq_true] at h
    exact ⟨g, rfl, Nat.eq_of_beq_eq_true h.1, fz_at h.2.1 h.2.2⟩
theorem en_ml_ok : ∀ mi q, en_nth en_inf mi = some q → en_ml mi = q.2.2.1 := fun mi q hq => by
  obtain ⟨g, -, h, -⟩ := en_chk_at hq
  exact h
theorem en_code_ok : ∀ mi q, en_nth en_inf mi = some q → ∀ pc e, en_code mi pc = some e → en_ok q pc e = true := fun mi q hq pc e he => by
  obtain ⟨g, hg, -, h⟩ := en_chk_at hq
  unfold en_code at he
  rw [hg] at he
  dsimp only at he
  cases hb : Nat.blt pc g.2 with
  | false => rw [hb] at he; cases he
  | true =>
    rw [hb] at he
    exact h pc e (Nat.le_of_ble_eq_true hb) he
noncomputable def en_qlaw : en_M := (x, code, 7, ret, 1, 0, 14)
set_option maxRecDepth 100000 in
theorem en_lwlen : Nat.ble 1273 en_qlaw.2.1.data.toList.length = true := by decide +kernel
set_option maxRecDepth 100000 in
theorem en_lwalk : fz_walk (fz_f en_qlaw kc_law) en_qlaw.2.1.data.toList 0 = true := by decide +kernel
theorem en_lawc_ok : ∀ pc e, en_lawc pc = some e → en_ok en_qlaw pc e = true := by
  intro pc e he
  unfold en_lawc at he
  cases hb : Nat.blt pc 1273 with
  | false => rw [hb] at he; cases he
  | true =>
    rw [hb] at he
    have hl : pc < 1273 := Nat.le_of_ble_eq_true hb
    exact fz_at en_lwlen en_lwalk pc e hl he
end ENE
