section ENX
theorem en_met_ch {q : en_M} {l : Launch} {ba : Nat} {ex : Nat → Nat} {cA : Nat → ClassId} {D : va_G} (hi : en_nth en_inf 0 = some q) : en_Met l ba ex cA D 20 q [.inr (.inr (.inl (some 0)))] en_h1 1 (none, en_tD, 383, 17127) := by
  have hq := en_mi hi
  have hsum : en_sum [.inr (.inr (.inl (some 0)))] ≤ q.2.2.1 := by
    rw [← en_ml_ok 0 q hi]
    decide
  have hcode := en_code_ok 0 q hi
  have hf := en_call_sound en_ml_ok en_code_ok l ba ex cA D 19
  refine en_ofWF (cc := q.2.1) (maxL := q.2.2.1) (ret := q.2.2.2.1) hq.2.2.1 rfl ?_
  intro p e s m args below meth c s₁ B hml hv
  obtain ⟨⟨vs, rfl, hvs⟩, hP, hK⟩ := hv
  have hts : ∀ w ∈ en_gt, w.before vs.toArray s = true := fun w hw => atoms_spec (ws := en_ws q) B.pre w (List.mem_cons_of_mem _ hw)
  have hown : s.vm.findClass q.1.cls = some m.cls := findClass_of_methodNamed B.named
  rw [hq.2.1] at hown
  rw [lg_entry_eq]
  have hle : (lg_sl vs).length ≤ q.2.2.1 := by rw [en_args_len hvs, ← en_sum_eq]; exact hsum
  have hl := lv_entry vs hle
  have Cx : en_Cx p (headSpec (en_ws q) (en_rm (19 + 1) (383 - 1) 17127)).room s m vs.toArray meth c ba ex cA D q.2.2.1 1 383 17127 q 19 := ⟨B.exec, B.bytes, hml, rfl, hown, hts, hK, B.notSynchronized, B.returns, (name_of_methodNamed B.named B.method).1, Nat.le_refl _, Nat.le_refl _, Nat.le_refl _, Nat.le_refl _⟩
  have TD := en_sound (l := l) (e := e) (below := below) (Q := MQ below (en_Qc ba ex cA D (none, en_tD, 383, 17127)) vs.toArray s (383 - 1) 17127 (fun x => ba ≤ x)) (oc := none) (stop := fun _ => false) Cx (fun L h => by cases h) hf hcode 200 130 _ _ _ _ _ _ (by decide) (en_isR_ok en_sD) (fun r' hr => by cases hr; exact ⟨rfl, rfl, rfl⟩) (fun S hS => by cases hS)
  have TC := en_sound (l := l) (e := e) (below := below) (Q := MQ below (en_Qc ba ex cA D (none, en_tD, 383, 17127)) vs.toArray s (383 - 1) 17127 (fun x => ba ≤ x)) (oc := none) (stop := fun pc => Nat.beq pc 130) Cx (fun L h => by cases h) hf hcode 200 119 _ _ _ _ _ _ (by decide) (en_isS_ok en_sC) (fun r' hr => by cases hr) (fun S hS => by cases hS; exact TD)
  have TB := en_sound (l := l) (e := e) (below := below) (Q := MQ below (en_Qc ba ex cA D (none, en_tD, 383, 17127)) vs.toArray s (383 - 1) 17127 (fun x => ba ≤ x)) (oc := none) (stop := fun pc => Nat.beq pc 119) Cx (fun L h => by cases h) hf hcode 200 108 _ _ _ _ _ _ (by decide) (en_isS_ok en_sB) (fun r' hr => by cases hr) (fun S hS => by cases hS; exact TC)
  have TA := en_sound (l := l) (e := e) (below := below) (Q := MQ below (en_Qc ba ex cA D (none, en_tD, 383, 17127)) vs.toArray s (383 - 1) 17127 (fun x => ba ≤ x)) (oc := none) (stop := fun pc => Nat.beq pc 108) Cx (fun L h => by cases h) hf hcode 200 0 _ _ _ _ _ _ (by decide) (en_isS_ok en_sA) (fun r' hr => by cases hr) (fun S hS => by cases hS; exact TB)
  exact TA.2.2 s.heap [] _ [] ⟨_, hl, en_args_ok 0 hvs⟩ trivial hP va_S.rf
noncomputable def en_fn : en_F := fun mi as t n => @ite _ (mi = 0 ∧ as = [.inr (.inr (.inl (some 0)))] ∧ t = en_h1 ∧ n = 1) (Classical.propDecidable _) (some (none, en_tD, 383, 17127)) none
theorem en_fn_hf (l : Launch) (ba : Nat) (ex : Nat → Nat) (cA : Nat → ClassId) (D : va_G) : en_hf l ba ex cA D 20 en_fn := by
  intro mi as t n r q9 h hq
  unfold en_fn at h
  by_cases hc : mi = 0 ∧ as = [.inr (.inr (.inl (some 0)))] ∧ t = en_h1 ∧ n = 1
  · rw [if_pos hc] at h
    obtain ⟨rfl, rfl, rfl, rfl⟩ := hc
    cases h
    exact en_met_ch hq
  · rw [if_neg hc] at h
    cases h
theorem en_fn_at : en_fn 0 [.inr (.inr (.inl (some 0)))] en_h1 1 = some (none, en_tD, 383, 17127) := if_pos ⟨rfl, rfl, rfl, rfl⟩
theorem en_h0_free : en_free en_h0 0 = true := by decide +kernel
theorem en_df9 : en_len (en_df 9) = 14 := by decide +kernel
theorem en_to8 : en_ex none en_fn en_lawc (fun pc => Nat.beq pc 8) (0, [(0, .inr (.inr (.inr (.inl 2))))], [], en_h0, 0, 0) (fun o => o = .inr (8, [(1, .inr (.inr (.inl (some 0)))), (0, .inr (.inr (.inr (.inl 2))))], [], en_tD, 383, 17141)) := by
  refine ex_go (e := (.new 8, 3, 9, 0)) (S := (3, [(0, .inr (.inr (.inr (.inl 2))))], [.inr (.inr (.inl (some 0)))], en_h1, 1, 14)) rfl (fun k => ?_) rfl ?_
  · show en_new 9 (en_df 9) 3 _ _ en_h0 0 0 k = _
    unfold en_new
    rw [en_h0_free, en_df9]
    rfl
  refine ex_go (S := (4, [(0, .inr (.inr (.inr (.inl 2))))], [.inr (.inr (.inl (some 0))), .inr (.inr (.inl (some 0)))], en_h1, 1, 14)) rfl (fun _ => rfl) rfl ?_
  refine ex_inv (ok := en_isref) (na := 1) (x1 := 0) (as := [.inr (.inr (.inl (some 0)))]) (rest := [.inr (.inr (.inl (some 0)))]) rfl (fun _ => rfl) rfl rfl en_fn_at (by decide) rfl ?_
  show en_ex _ _ _ _ (7, [(0, .inr (.inr (.inr (.inl 2))))], [.inr (.inr (.inl (some 0)))], en_tD, 383, 17141) _
  exact ex_stop (S := (8, [(1, .inr (.inr (.inl (some 0)))), (0, .inr (.inr (.inr (.inl 2))))], [], en_tD, 383, 17141)) rfl (fun _ => rfl) rfl rfl
end ENX
