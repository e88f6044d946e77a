section AI9
noncomputable def en_k0 : en_K := fun pc ls st t n sl => some (.inr (pc, ls, st, t, n, sl))
/-- what a step gives, behind which goes k -/
noncomputable def en_bk (o : Option en_O) (k : en_K) : Option en_O := match o with
  | some (.inl r) => some (.inl r)
  | some (.inr S) => k S.1 S.2.1 S.2.2.1 S.2.2.2.1 S.2.2.2.2.1 S.2.2.2.2.2
  | none => none
variable (nx : Nat) (ls : en_L) (st : List en_V) (t : en_H) (n sl : Nat) (k : en_K)
theorem en_load_bk (d i : Nat) : en_load d i nx ls st t n sl k = en_bk (en_load d i nx ls st t n sl en_k0) k := by
  unfold en_load
  try simp only [cond_eq_ite]
  repeat' split
  all_goals first | rfl | (simp_all; done) | (exfalso; simp_all; done)
theorem en_store_bk (d i : Nat) : en_store d i nx ls st t n sl k = en_bk (en_store d i nx ls st t n sl en_k0) k := by
  unfold en_store
  try simp only [cond_eq_ite]
  repeat' split
  all_goals first | rfl | (simp_all; done) | (exfalso; simp_all; done)
theorem en_iinc_bk (i x : Nat) : en_iinc i x nx ls st t n sl k = en_bk (en_iinc i x nx ls st t n sl en_k0) k := by
  unfold en_iinc
  try simp only [cond_eq_ite]
  repeat' split
  all_goals first | rfl | (simp_all; done) | (exfalso; simp_all; done)
theorem en_bin_bk (g : en_V → en_V → Option en_V) : en_bin g nx ls st t n sl k = en_bk (en_bin g nx ls st t n sl en_k0) k := by
  unfold en_bin
  try simp only [cond_eq_ite]
  repeat' split
  all_goals first | rfl | (simp_all; done) | (exfalso; simp_all; done)
theorem en_mm_bk (g : en_V → en_V → Option en_V) : en_mm g nx ls st t n sl k = en_bk (en_mm g nx ls st t n sl en_k0) k := by
  unfold en_mm
  try simp only [cond_eq_ite]
  repeat' split
  all_goals first | rfl | (simp_all; done) | (exfalso; simp_all; done)
theorem en_jump_bk (r : Option Bool) (tg : Nat) : en_jump r tg nx ls st t n sl k = en_bk (en_jump r tg nx ls st t n sl en_k0) k := by
  unfold en_jump
  try simp only [cond_eq_ite]
  repeat' split
  all_goals first | rfl | (simp_all; done) | (exfalso; simp_all; done)
theorem en_getf_bk (x1 x2 : Nat) : en_getf x1 x2 nx ls st t n sl k = en_bk (en_getf x1 x2 nx ls st t n sl en_k0) k := by
  unfold en_getf
  try simp only [cond_eq_ite]
  repeat' split
  all_goals first | rfl | (simp_all; done) | (exfalso; simp_all; done)
theorem en_putf_bk (x1 ci kd : Nat) : en_putf x1 ci kd nx ls st t n sl k = en_bk (en_putf x1 ci kd nx ls st t n sl en_k0) k := by
  unfold en_putf
  try simp only [cond_eq_ite]
  repeat' split
  all_goals first | rfl | (simp_all; done) | (exfalso; simp_all; done)
theorem en_aget_bk (oc : Option (List en_V)) (c : Nat → Bool) : en_aget oc c nx ls st t n sl k = en_bk (en_aget oc c nx ls st t n sl en_k0) k := by
  unfold en_aget
  try simp only [cond_eq_ite]
  repeat' split
  all_goals first | rfl | (simp_all; done) | (exfalso; simp_all; done)
theorem en_aput_bk (d : Nat) : en_aput d nx ls st t n sl k = en_bk (en_aput d nx ls st t n sl en_k0) k := by
  unfold en_aput
  try simp only [cond_eq_ite]
  repeat' split
  all_goals first | rfl | (simp_all; done) | (exfalso; simp_all; done)
theorem en_alen_bk (oc : Option (List en_V)) : en_alen oc nx ls st t n sl k = en_bk (en_alen oc nx ls st t n sl en_k0) k := by
  unfold en_alen
  try simp only [cond_eq_ite]
  repeat' split
  all_goals first | rfl | (simp_all; done) | (exfalso; simp_all; done)
theorem en_new_bk (ci : Nat) (fs : List en_V) : en_new ci fs nx ls st t n sl k = en_bk (en_new ci fs nx ls st t n sl en_k0) k := by
  unfold en_new
  try simp only [cond_eq_ite]
  repeat' split
  all_goals first | rfl | (simp_all; done) | (exfalso; simp_all; done)
theorem en_newa_bk (c : Nat) (z : en_V) : en_newa c z nx ls st t n sl k = en_bk (en_newa c z nx ls st t n sl en_k0) k := by
  unfold en_newa
  try simp only [cond_eq_ite]
  repeat' split
  all_goals first | rfl | (simp_all; done) | (exfalso; simp_all; done)
theorem en_multi_bk  : en_multi  nx ls st t n sl k = en_bk (en_multi  nx ls st t n sl en_k0) k := by
  unfold en_multi
  try simp only [cond_eq_ite]
  repeat' split
  all_goals first | rfl | (simp_all; done) | (exfalso; simp_all; done)
theorem en_inv_bk (ok : List en_V → Bool) (f : en_F) (mi na : Nat) : en_inv ok f mi na nx ls st t n sl k = en_bk (en_inv ok f mi na nx ls st t n sl en_k0) k := by
  unfold en_inv
  try simp only [cond_eq_ite]
  repeat' split
  all_goals first | rfl | (simp_all; done) | (exfalso; simp_all; done)
theorem en_oinit_bk  : en_oinit  nx ls st t n sl k = en_bk (en_oinit  nx ls st t n sl en_k0) k := by
  unfold en_oinit
  try simp only [cond_eq_ite]
  repeat' split
  all_goals first | rfl | (simp_all; done) | (exfalso; simp_all; done)
theorem en_dup_bk  : en_dup  nx ls st t n sl k = en_bk (en_dup  nx ls st t n sl en_k0) k := by
  unfold en_dup
  try simp only [cond_eq_ite]
  repeat' split
  all_goals first | rfl | (simp_all; done) | (exfalso; simp_all; done)
theorem en_dup2_bk  : en_dup2  nx ls st t n sl k = en_bk (en_dup2  nx ls st t n sl en_k0) k := by
  unfold en_dup2
  try simp only [cond_eq_ite]
  repeat' split
  all_goals first | rfl | (simp_all; done) | (exfalso; simp_all; done)
theorem en_pop_bk  : en_pop  nx ls st t n sl k = en_bk (en_pop  nx ls st t n sl en_k0) k := by
  unfold en_pop
  try simp only [cond_eq_ite]
  repeat' split
  all_goals first | rfl | (simp_all; done) | (exfalso; simp_all; done)
theorem en_pop2_bk  : en_pop2  nx ls st t n sl k = en_bk (en_pop2  nx ls st t n sl en_k0) k := by
  unfold en_pop2
  try simp only [cond_eq_ite]
  repeat' split
  all_goals first | rfl | (simp_all; done) | (exfalso; simp_all; done)
theorem en_i2l_bk  : en_i2l  nx ls st t n sl k = en_bk (en_i2l  nx ls st t n sl en_k0) k := by
  unfold en_i2l
  try simp only [cond_eq_ite]
  repeat' split
  all_goals first | rfl | (simp_all; done) | (exfalso; simp_all; done)
theorem en_i2b_bk  : en_i2b  nx ls st t n sl k = en_bk (en_i2b  nx ls st t n sl en_k0) k := by
  unfold en_i2b
  try simp only [cond_eq_ite]
  repeat' split
  all_goals first | rfl | (simp_all; done) | (exfalso; simp_all; done)
theorem en_l2i_bk  : en_l2i  nx ls st t n sl k = en_bk (en_l2i  nx ls st t n sl en_k0) k := by
  unfold en_l2i
  try simp only [cond_eq_ite]
  repeat' split
  all_goals first | rfl | (simp_all; done) | (exfalso; simp_all; done)
theorem en_cmp1_bk (q : ClassFile.Cond) (tg : Nat) : en_cmp1 q tg nx ls st t n sl k = en_bk (en_cmp1 q tg nx ls st t n sl en_k0) k := by
  unfold en_cmp1
  split
  · exact en_jump_bk _ _ _ _ _ _ _ _ _
  all_goals first | rfl | (split; all_goals first | rfl | (simp_all; done) | (exfalso; simp_all; done))
theorem en_cmp2_bk (q : ClassFile.Cond) (tg : Nat) : en_cmp2 q tg nx ls st t n sl k = en_bk (en_cmp2 q tg nx ls st t n sl en_k0) k := by
  unfold en_cmp2
  split
  · exact en_jump_bk _ _ _ _ _ _ _ _ _
  all_goals first | rfl | (split; all_goals first | rfl | (simp_all; done) | (exfalso; simp_all; done))
theorem en_acne_bk (tg : Nat) : en_acne tg nx ls st t n sl k = en_bk (en_acne tg nx ls st t n sl en_k0) k := by
  unfold en_acne
  split
  · exact en_jump_bk _ _ _ _ _ _ _ _ _
  all_goals first | rfl | (split; all_goals first | rfl | (simp_all; done) | (exfalso; simp_all; done))
theorem en_aceq_bk (tg : Nat) : en_aceq tg nx ls st t n sl k = en_bk (en_aceq tg nx ls st t n sl en_k0) k := by
  unfold en_aceq
  split
  · exact en_jump_bk _ _ _ _ _ _ _ _ _
  all_goals first | rfl | (split; all_goals first | rfl | (simp_all; done) | (exfalso; simp_all; done))
theorem en_ifnull_bk (tg : Nat) : en_ifnull tg nx ls st t n sl k = en_bk (en_ifnull tg nx ls st t n sl en_k0) k := by
  unfold en_ifnull
  split
  · exact en_jump_bk _ _ _ _ _ _ _ _ _
  all_goals first | rfl | (split; all_goals first | rfl | (simp_all; done) | (exfalso; simp_all; done))
theorem en_switch_bk (pc : Nat) (df lo hi : Int) (os : Array Int) : en_switch pc df lo hi os ls st t n sl k = en_bk (en_switch pc df lo hi os ls st t n sl en_k0) k := by
  unfold en_switch
  repeat' split
  all_goals first | rfl | (simp_all; done) | (exfalso; simp_all; done)
theorem en_step_bk (df : Nat → List en_V) (oc : Option (List en_V)) (f : en_F) (pc : Nat) (e : en_I) : en_step df oc f pc e ls st t n sl k = en_bk (en_step df oc f pc e ls st t n sl en_k0) k := by
  obtain ⟨ins, nx, x1, x2⟩ := e
  unfold en_step en_disp
  cases ins <;> dsimp only <;> first
    | rfl
    | exact en_load_bk _ _ _ _ _ _ _ _ _
    | exact en_store_bk _ _ _ _ _ _ _ _ _
    | exact en_iinc_bk _ _ _ _ _ _ _ _ _
    | exact en_bin_bk _ _ _ _ _ _ _ _
    | exact en_i2l_bk _ _ _ _ _ _ _
    | exact en_l2i_bk _ _ _ _ _ _ _
    | exact en_i2b_bk _ _ _ _ _ _ _
    | exact en_dup_bk _ _ _ _ _ _ _
    | exact en_dup2_bk _ _ _ _ _ _ _
    | exact en_pop_bk _ _ _ _ _ _ _
    | exact en_pop2_bk _ _ _ _ _ _ _
    | exact en_cmp1_bk _ _ _ _ _ _ _ _ _
    | exact en_cmp2_bk _ _ _ _ _ _ _ _ _
    | exact en_ifnull_bk _ _ _ _ _ _ _ _
    | exact en_switch_bk _ _ _ _ _ _ _ _ _ _ _
    | exact en_getf_bk _ _ _ _ _ _ _ _ _
    | exact en_putf_bk _ _ _ _ _ _ _ _ _ _
    | exact en_aget_bk _ _ _ _ _ _ _ _ _
    | exact en_aput_bk _ _ _ _ _ _ _ _
    | exact en_alen_bk _ _ _ _ _ _ _ _
    | exact en_new_bk _ _ _ _ _ _ _ _ _
    | exact en_newa_bk _ _ _ _ _ _ _ _ _
    | exact en_multi_bk _ _ _ _ _ _ _
    | exact en_inv_bk _ _ _ _ _ _ _ _ _ _ _
    | (rename_i c j; cases c <;> first | exact en_aceq_bk _ _ _ _ _ _ _ _ | exact en_acne_bk _ _ _ _ _ _ _ _ | rfl)
    | (cases h1 : Nat.beq x1 9991 <;> dsimp only [cond] <;> first | exact en_mm_bk _ _ _ _ _ _ _ _ | (cases h2 : Nat.beq x1 9992 <;> dsimp only [cond] <;> first | exact en_mm_bk _ _ _ _ _ _ _ _ | exact en_inv_bk _ _ _ _ _ _ _ _ _ _ _))
    | (cases h1 : Nat.beq x1 9999 <;> dsimp only [cond] <;> first | exact en_oinit_bk _ _ _ _ _ _ _ | exact en_inv_bk _ _ _ _ _ _ _ _ _ _ _)
    | (unfold en_ret1; repeat' split; all_goals first | rfl | (simp_all; done) | (rename_i a; cases (Nat.beq (en_kd a) _ && _) <;> rfl))
    | (cases st <;> rfl)
end AI9
section AI10
variable {oc : Option (List en_V)} {f : en_F} {code : Nat → Option en_I} {stop : Nat → Bool}
theorem en_run_succ (fuel pc : Nat) (ls : en_L) (st : List en_V) (t : en_H) (n sl : Nat) : en_run en_df oc f code stop (fuel + 1) pc ls st t n sl = (match code pc with
    | some e => en_bk (en_step en_df oc f pc e ls st t n sl en_k0) (fun pc' ls' st' t' n' sl' => bif stop pc' then some (.inr (pc', ls', st', t', n', sl')) else en_run en_df oc f code stop fuel pc' ls' st' t' n' sl')
    | none => none) := by
  show (match code pc with
    | some e => en_step en_df oc f pc e ls st t n sl (fun pc' ls' st' t' n' sl' => bif stop pc' then some (.inr (pc', ls', st', t', n', sl')) else en_run en_df oc f code stop fuel pc' ls' st' t' n' sl')
    | none => none) = _
  cases code pc with
  | none => rfl
  | some e => exact en_step_bk _ _ _ _ _ _ _ _ _ _ _
theorem en_run_more : ∀ (fuel pc : Nat) (ls : en_L) (st : List en_V) (t : en_H) (n sl : Nat) (o : en_O), en_run en_df oc f code stop fuel pc ls st t n sl = some o → en_run en_df oc f code stop (fuel + 1) pc ls st t n sl = some o
  | 0, _, _, _, _, _, _, _, h => by cases h
  | fuel + 1, pc, ls, st, t, n, sl, o, h => by
    rw [en_run_succ] at h
    rw [en_run_succ]
    cases hc : code pc with
    | none => rw [hc] at h; cases h
    | some e =>
      rw [hc] at h
      dsimp only at h ⊢
      cases hs : en_step en_df oc f pc e ls st t n sl en_k0 with
      | none => rw [hs] at h; cases h
      | some q =>
        rw [hs] at h
        cases q with
        | inl r => exact h
        | inr S =>
          have h : (bif stop S.1 then _ else en_run en_df oc f code stop fuel S.1 S.2.1 S.2.2.1 S.2.2.2.1 S.2.2.2.2.1 S.2.2.2.2.2) = some o := h
          show (bif stop S.1 then _ else en_run en_df oc f code stop (fuel + 1) S.1 S.2.1 S.2.2.1 S.2.2.2.1 S.2.2.2.2.1 S.2.2.2.2.2) = some o
          cases hp : stop S.1 with
          | true => rw [hp] at h; exact h
          | false =>
            rw [hp] at h
            exact en_run_more fuel _ _ _ _ _ _ _ h
theorem en_run_add {fuel pc : Nat} {ls : en_L} {st : List en_V} {t : en_H} {n sl : Nat} {o : en_O} (h : en_run en_df oc f code stop fuel pc ls st t n sl = some o) : ∀ j, en_run en_df oc f code stop (fuel + j) pc ls st t n sl = some o
  | 0 => h
  | j + 1 => en_run_more _ _ _ _ _ _ _ _ (en_run_add h j)
theorem en_run_one {a b pc : Nat} {ls : en_L} {st : List en_V} {t : en_H} {n sl : Nat} {o o' : en_O} (h : en_run en_df oc f code stop a pc ls st t n sl = some o) (h' : en_run en_df oc f code stop b pc ls st t n sl = some o') : o = o' := by
  have h1 := en_run_add h b
  have h2 := en_run_add h' a
  rw [Nat.add_comm b a, h1] at h2
  exact Option.some.inj h2
/-- the calls of at most d frames that come to an end -/
noncomputable def en_ud (g : en_F) (mi : Nat) (as : List en_V) (t : en_H) (n : Nat) (r : en_R) : Prop := Nat.ble (en_sum as) (en_ml mi) = true ∧ ∃ fuel, en_run en_df none g (en_code mi) (fun _ => false) fuel 0 (en_args as 0) [] t n 0 = some (.inl r)
noncomputable def en_u (d : Nat) : en_F := Nat.rec (motive := fun _ => en_F) (fun _ _ _ _ => none) (fun _ g mi as t n => @dite (Option en_R) (∃ r, en_ud g mi as t n r) (Classical.propDecidable _) (fun h => some h.choose) (fun _ => none)) d
theorem en_u_at {d mi : Nat} {as : List en_V} {t : en_H} {n : Nat} {r : en_R} (h : en_ud (en_u d) mi as t n r) : en_u (d + 1) mi as t n = some r := by
  have hx : ∃ r, en_ud (en_u d) mi as t n r := ⟨r, h⟩
  show @dite (Option en_R) (∃ r, en_ud (en_u d) mi as t n r) (Classical.propDecidable _) (fun h => some h.choose) (fun _ => none) = some r
  rw [dif_pos hx]
  obtain ⟨-, f1, h1⟩ := hx.choose_spec
  obtain ⟨-, f2, h2⟩ := h
  have e := en_run_one h1 h2
  cases e
  rfl
theorem en_u_ex {d mi : Nat} {as : List en_V} {t : en_H} {n : Nat} {P : en_R → Prop} (hs : Nat.ble (en_sum as) (en_ml mi) = true) (h : en_ex none (en_u d) (en_code mi) (fun _ => false) (0, en_args as 0, [], t, n, 0) (fun o => ∃ r, o = .inl r ∧ P r)) : ∃ r, en_u (d + 1) mi as t n = some r ∧ P r := by
  obtain ⟨fuel, o, h1, r, rfl, h2⟩ := h
  exact ⟨r, en_u_at ⟨hs, fuel, h1⟩, h2⟩
theorem en_u_hf (l : Launch) (ba : Nat) (ex : Nat → Nat) (cA : Nat → ClassId) (D : va_G) : ∀ d, en_hf l ba ex cA D d (en_u d)
  | 0 => fun mi as t n r q h hq => by cases h
  | d + 1 => fun mi as t n r q h hq => by
    have h : @dite (Option en_R) (∃ r, en_ud (en_u d) mi as t n r) (Classical.propDecidable _) (fun h => some h.choose) (fun _ => none) = some r := h
    by_cases hx : ∃ r, en_ud (en_u d) mi as t n r
    · rw [dif_pos hx] at h
      have hd := hx.choose_spec
      rw [Option.some.inj h] at hd
      obtain ⟨h1, fuel, h2⟩ := hd
      exact en_met (en_mi hq) (en_code_ok mi q hq) (en_u_hf l ba ex cA D d) fuel (by rw [← en_ml_ok mi q hq]; exact Nat.le_of_ble_eq_true h1) h2
    · rw [dif_neg hx] at h
      cases h
end AI10
