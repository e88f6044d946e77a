section ENC
noncomputable def en_dec (cc : ByteArray) (pc : Nat) (e : en_I) : Bool := match decode cc pc with
  | .ok v => decide (v.1 = e.1) && decide (e.2.1 = pc + v.2)
  | .error _ => false
theorem en_dec_ok {cc : ByteArray} {pc : Nat} {e : en_I} (h : en_dec cc pc e = true) : ∃ k, decode cc pc = .ok (e.1, k) ∧ e.2.1 = pc + k := by
  unfold en_dec at h
  split at h
  · rename_i v hv
    simp only [Bool.and_eq_true, decide_eq_true_eq] at h
    exact ⟨v.2, by rw [hv, ← h.1], h.2⟩
  · cases h
theorem en_dec_k {cc : ByteArray} {pc nx k : Nat} {i : Instr} (h : ∃ k, decode cc pc = .ok (i, k) ∧ nx = pc + k) (hk : nx = pc + k) : decode cc pc = .ok (i, k) := by
  obtain ⟨j, h1, h2⟩ := h
  rw [h1, show j = k by omega]
noncomputable def en_mcall (on i x1 : Nat) : Bool := en_ML.any (fun w => decide (w.1 = on) && (decide (w.2.1 = i) && decide (w.2.2.1 = x1)))
noncomputable def en_mcallV (on i x1 : Nat) : Bool := en_ML.any (fun w => decide (w.1 = on) && (decide (w.2.1 = i) && (decide (w.2.2.1 = x1) && decide (w.2.2.2.1 = 0))))
noncomputable def en_minf (x1 : Nat) (g : en_M → Bool) : Bool := match en_nth en_inf x1 with
  | some q => g q
  | none => false
/-- an entry of a method's table is what the code holds there, and what it links is in the tables -/
noncomputable def en_okm (q : en_M) (pc : Nat) (e : en_I) : Bool := match e.1 with
  | .iconst i => decide (e.2.1 = pc + 1) && decide (Int32.ofInt i = nI e.2.2.1)
  | .bipush i => decide (e.2.1 = pc + 2) && decide ((Int8.ofInt i).toInt32 = nI e.2.2.1)
  | .sipush i => decide (e.2.1 = pc + 3) && decide ((Int16.ofInt i).toInt32 = nI e.2.2.1)
  | .ldc i => decide (e.2.1 = pc + 2) && en_KL.any (fun w => decide (w.1 = q.2.2.2.2.2.2) && (decide (w.2.1 = i) && decide (w.2.2.1 = e.2.2.1)))
  | .ldc_w i => decide (e.2.1 = pc + 3) && en_KL.any (fun w => decide (w.1 = q.2.2.2.2.2.2) && (decide (w.2.1 = i) && decide (w.2.2.1 = e.2.2.1)))
  | .lconst i => decide (e.2.1 = pc + 1) && decide (Int64.ofNat i.val = lN e.2.2.1)
  | .ldc2_w i => decide (e.2.1 = pc + 3) && en_LL.any (fun w => decide (w.1 = q.2.2.2.2.2.2) && (decide (w.2.1 = i) && decide (w.2.2.1 = e.2.2.1)))
  | .iload _ | .lload _ | .aload _ => decide (e.2.1 = pc + 2)
  | .istore i | .astore i => decide (e.2.1 = pc + 2) && decide (i < q.2.2.1)
  | .lstore i => decide (e.2.1 = pc + 2) && decide (i + 1 < q.2.2.1)
  | .istore_n i | .astore_n i => decide (e.2.1 = pc + 1) && decide (i.val < q.2.2.1)
  | .lstore_n i => decide (e.2.1 = pc + 1) && decide (i.val + 1 < q.2.2.1)
  | .iinc i j => decide (e.2.1 = pc + 3) && (decide (Int32.ofInt j = nI e.2.2.1) && decide (i < q.2.2.1))
  | .ifCond _ j | .if_icmp _ j | .if_acmp _ j | .ifnull j | .goto j => decide (e.2.1 = pc + 3) && decide ((pc : Int) + j = (e.2.2.1 : Int))
  | .tableswitch _ _ _ _ => true
  | .getfield i => decide (e.2.1 = pc + 3) && bif Nat.beq (e.2.2.2 % 16) 11 then en_WL.any (fun w => decide (w.1 = q.2.2.2.2.2.2) && (decide (w.2.1 = i) && decide (w.2.2.1 = e.2.2.1))) else en_GL.any (fun w => decide (w.1 = q.2.2.2.2.2.2) && (decide (w.2.1 = i) && (decide (w.2.2.1 = e.2.2.2 % 16) && decide (w.2.2.2.1 = e.2.2.1))))
  | .putfield i => decide (e.2.1 = pc + 3) && en_PL.any (fun w => decide (w.1 = q.2.2.2.2.2.2) && (decide (w.2.1 = i) && (decide (w.2.2.1 = e.2.2.2 % 16) && (decide (w.2.2.2.1 = e.2.2.1) && (decide (w.2.2.2.2.1 = e.2.2.2 / 16 % 4) && (decide (w.2.2.2.2.2.1 = 0) || decide (q.1.name = "<init>")))))))
  | .getstatic i => decide (e.2.1 = pc + 3) && en_SL.any (fun w => decide (w.1 = q.2.2.2.2.2.2) && (decide (w.2.1 = i) && decide (w.2.2.1 = e.2.2.1)))
  | .new i => decide (e.2.1 = pc + 3) && en_NL.any (fun w => decide (w.1 = q.2.2.2.2.2.2) && (decide (w.2.1 = i) && decide (w.2.2.1 = e.2.2.1)))
  | .newarray a => decide (e.2.1 = pc + 2) && (match a with | .int => decide (e.2.2.1 = 0) | .byte => decide (e.2.2.1 = 1) | .boolean => decide (e.2.2.1 = 2) | .long => decide (e.2.2.1 = 3) | _ => false)
  | .anewarray i => decide (e.2.1 = pc + 3) && en_AL.any (fun w => decide (w.1 = q.2.2.2.2.2.2) && (decide (w.2.1 = i) && decide (w.2.2.1 = e.2.2.1)))
  | .multianewarray i j => decide (e.2.1 = pc + 4) && (decide (j = 2) && en_XL.any (fun w => decide (w.1 = q.2.2.2.2.2.2) && decide (w.2.1 = i)))
  | .invokestatic i => decide (e.2.1 = pc + 3) && (bif Nat.beq e.2.2.1 9991 then en_QL.any (fun w => decide (w.1 = q.2.2.2.2.2.2) && (decide (w.2.1 = i) && decide (w.2.2.1 = 1))) else bif Nat.beq e.2.2.1 9992 then en_QL.any (fun w => decide (w.1 = q.2.2.2.2.2.2) && (decide (w.2.1 = i) && decide (w.2.2.1 = 2))) else en_mcall q.2.2.2.2.2.2 i e.2.2.1 && en_minf e.2.2.1 (fun y => decide (y.2.2.2.2.2.1 = 0) && decide (y.2.2.2.2.1 = e.2.2.2)))
  | .invokevirtual i => decide (e.2.1 = pc + 3) && (en_mcallV q.2.2.2.2.2.2 i e.2.2.1 && en_minf e.2.2.1 (fun y => decide (y.2.2.2.2.2.1 = 1) && (decide (y.2.2.2.2.1 + 1 = e.2.2.2 % 16) && decide (y.2.2.2.2.2.2 = e.2.2.2 / 16))))
  | .invokespecial i => decide (e.2.1 = pc + 3) && (bif Nat.beq e.2.2.1 9999 then en_OL.any (fun w => decide (w.1 = q.2.2.2.2.2.2) && decide (w.2.1 = i)) else en_mcall q.2.2.2.2.2.2 i e.2.2.1 && en_minf e.2.2.1 (fun y => decide (2 ≤ y.2.2.2.2.2.1) && decide (y.2.2.2.2.1 + 1 = e.2.2.2)))
  | .return_ => decide (e.2.1 = pc + 1) && decide (q.2.2.2.1 = none)
  | .ireturn => decide (e.2.1 = pc + 1) && (decide (e.2.2.1 = 0) && decide (q.2.2.2.1 = some .int) || decide (e.2.2.1 = 1) && decide (q.2.2.2.1 = some .boolean))
  | .lreturn => decide (e.2.1 = pc + 1) && decide (q.2.2.2.1 = some .long)
  | .areturn => decide (e.2.1 = pc + 1) && decide (q.2.2.2.1 = some (.object "PackWeeks$Word"))
  | _ => decide (e.2.1 = pc + 1)
noncomputable def en_ok (q : en_M) (pc : Nat) (e : en_I) : Bool := en_dec q.2.1 pc e && en_okm q pc e
theorem en_mcall_ok {on i x1 : Nat} {q : en_M} {s : State} {ba : Nat} {ex : Nat → Nat} {cA : Nat → ClassId} {D : va_G} (h : en_mcall on i x1 = true) (hq : en_nth en_inf x1 = some q) (hK : en_Kw ba ex cA D s) : Cond.methodLink (en_cn on) i q.1 ∈ en_gt ∨ va_Nw (.methodLinkNest (en_cn on) i q.1 "PackWeeks") s := by
  unfold en_mcall at h
  obtain ⟨w, hw, h⟩ := List.any_eq_true.mp h
  simp only [Bool.and_eq_true, decide_eq_true_eq] at h
  obtain ⟨rfl, rfl, rfl⟩ := h
  by_cases h0 : w.2.2.2.1 = 0
  · have hm := List.all_eq_true.mp en_ML_ok w hw
    unfold en_mok at hm
    rw [hq] at hm
    dsimp only at hm
    rw [h0] at hm
    exact Or.inl (en_tb_mem hm)
  · exact Or.inr (hK.2.2.2.1 w hw q hq h0)
theorem en_mcallV_ok {on i x1 : Nat} {q : en_M} (h : en_mcallV on i x1 = true) (hq : en_nth en_inf x1 = some q) : Cond.methodLink (en_cn on) i q.1 ∈ en_gt := by
  unfold en_mcallV at h
  obtain ⟨w, hw, h⟩ := List.any_eq_true.mp h
  simp only [Bool.and_eq_true, decide_eq_true_eq] at h
  obtain ⟨rfl, rfl, rfl, h0⟩ := h
  have hm := List.all_eq_true.mp en_ML_ok w hw
  unfold en_mok at hm
  rw [hq] at hm
  dsimp only at hm
  rw [h0] at hm
  exact en_tb_mem hm
theorem en_minf_ok {x1 : Nat} {g : en_M → Bool} (h : en_minf x1 g = true) : ∃ q, en_nth en_inf x1 = some q ∧ g q = true := by
  unfold en_minf at h
  split at h
  · exact ⟨_, by assumption, h⟩
  · cases h
theorem en_sok_ok {w : Nat × Nat × Nat × Nat} {ba : Nat} {ex : Nat → Nat} {U : State} {H : Heap} (h : en_sok w = true) (hW : en_Wd ba ex U H) : ∃ C nm d : String, Cond.fieldLink (en_cn w.1) w.2.1 C nm d ∈ en_gt ∧ va_Z C nm d (.ref (ex w.2.2.1)) (fun q => ba ≤ q) U H := by
  unfold en_sok at h
  cases h1 : Nat.beq w.2.2.1 44 with
  | true =>
    rw [h1] at h
    rw [Nat.eq_of_beq_eq_true h1]
    exact ⟨_, _, _, en_tb_mem h, hW.2.1⟩
  | false =>
    rw [h1] at h
    dsimp only [cond] at h
    cases h2 : Nat.beq w.2.2.1 45 with
    | true =>
      rw [h2] at h
      rw [Nat.eq_of_beq_eq_true h2]
      exact ⟨_, _, _, en_tb_mem h, hW.2.2.1⟩
    | false =>
      rw [h2] at h
      dsimp only [cond] at h
      rw [Bool.and_eq_true] at h
      have h3 := Nat.le_of_ble_eq_true h.1
      have h := h.2
      split at h
      · rename_i nm hn
        have := hW.1 _ _ hn
        rw [show 2 + (w.2.2.1 - 2) = w.2.2.1 by omega] at this
        exact ⟨_, _, _, en_tb_mem h, this⟩
      · cases h
theorem en_gok_ok {w : Nat × Nat × Nat × Nat × Nat} (h : en_gok w = true) : ∃ r, vwCl[w.2.2.1]? = some r ∧ w.2.2.2.1 < r.2.2 ∧ Cond.fieldLink (en_cn w.1) w.2.1 (r.2.1 w.2.2.2.1).1 (r.2.1 w.2.2.2.1).2.1 (r.2.1 w.2.2.2.1).2.2.1 ∈ en_gt := by
  unfold en_gok at h
  split at h
  · rename_i r hr
    simp only [Bool.and_eq_true] at h
    exact ⟨r, hr, Nat.le_of_ble_eq_true h.1, en_tb_mem h.2⟩
  · cases h
theorem en_pok_ok {w : Nat × Nat × Nat × Nat × Nat × Nat × Nat} (h : en_pok w = true) : ∃ r ty, vwCl[w.2.2.1]? = some r ∧ w.2.2.2.1 < r.2.2 ∧ Cond.fieldLink (en_cn w.1) w.2.1 (r.2.1 w.2.2.2.1).1 (r.2.1 w.2.2.2.1).2.1 (r.2.1 w.2.2.2.1).2.2.1 ∈ en_gt ∧ parseFieldDescriptor (r.2.1 w.2.2.2.1).2.2.1 = some ty ∧ en_fk w.2.2.2.2.1 ty = true ∧
    (w.2.2.2.2.2.1 = 0 → (r.2.1 w.2.2.2.1).2.2.2 = false) ∧ (w.2.2.2.2.2.1 ≠ 0 → (r.2.1 w.2.2.2.1).2.2.2 = true ∧ (r.2.1 w.2.2.2.1).1 = en_cn w.1) := by
  unfold en_pok at h
  split at h
  · rename_i r hr
    simp only [Bool.and_eq_true] at h
    obtain ⟨h1, h2, h3, h4⟩ := h
    split at h3
    · rename_i ty hty
      refine ⟨r, ty, hr, Nat.le_of_ble_eq_true h1, en_tb_mem h2, hty, h3, fun h0 => ?_, fun h0 => ?_⟩
      · rw [h0] at h4
        exact Bool.eq_false_iff.mpr (by simpa using h4)
      · obtain ⟨k, hk⟩ : ∃ k, w.2.2.2.2.2.1 = k + 1 := ⟨w.2.2.2.2.2.1 - 1, by omega⟩
        rw [hk] at h4
        simp only [Bool.and_eq_true, decide_eq_true_eq] at h4
        exact h4
    · cases h3
  · cases h
theorem en_nok_ok {w : Nat × Nat × Nat × Nat × Nat × Nat} (h : en_nok w = true) : ∃ r, vwCl[w.2.2.1]? = some r ∧ Cond.classLink (en_cn w.1) w.2.1 r.1 ∈ en_gt ∧ Cond.instantiable r.1 r.2.2 ∈ en_gt ∧ Cond.initialized r.1 ∈ en_gt := by
  unfold en_nok at h
  split at h
  · rename_i r hr
    simp only [Bool.and_eq_true] at h
    exact ⟨r, hr, en_tb_mem h.1, en_tb_mem h.2.1, en_tb_mem h.2.2⟩
  · cases h
end ENC
