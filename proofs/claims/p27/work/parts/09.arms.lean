section EN9
theorem en_lay_gt {C : String} {T : u_T} {N : Nat} (h : ∀ w ∈ u_ws C T N, w ∈ lw_tbl) : ∀ w ∈ u_ws C T N, w ∈ en_gt := fun w hw => List.mem_filter.mpr ⟨h w hw, by
  obtain ⟨k, -, rfl⟩ := List.mem_map.mp hw
  unfold u_lay
  split <;> rfl⟩
noncomputable def en_dv : FieldType → en_V
  | .long => .inr (.inl 0)
  | .object _ => .inr (.inr (.inl none))
  | .array _ => .inr (.inr (.inl none))
  | _ => .inl 0
noncomputable def en_dvok : FieldType → Bool
  | .int | .boolean | .long | .object _ | .array _ => true
  | _ => false
theorem en_dv_rv (ba : Nat) (ex : Nat → Nat) {ty : FieldType} (h : en_dvok ty = true) : en_rv ba ex (en_dv ty) (defaultValue ty) := by
  cases ty <;> first | rfl | cases h
theorem en_dv_rvs (ba : Nat) (ex : Nat → Nat) (ty : Nat → FieldType) : ∀ (l : List Nat), (∀ k ∈ l, en_dvok (ty k) = true) → en_rvs ba ex (l.map (fun k => en_dv (ty k))) (l.map (fun k => defaultValue (ty k)))
  | [], _ => trivial
  | k :: l, h => ⟨en_dv_rv ba ex (h k List.mem_cons_self), en_dv_rvs ba ex ty l (fun j hj => h j (List.mem_cons_of_mem _ hj))⟩
/-- what holds of each of our classes -/
noncomputable def en_Cl (ci : Nat) (r : vw_C) : Prop := (∀ w ∈ u_ws r.1 r.2.1 r.2.2, w ∈ en_gt) ∧ (∃ ty : Nat → FieldType, (∀ k, k < r.2.2 → parseFieldDescriptor (r.2.1 k).2.2.1 = some (ty k)) ∧ en_df ci = (List.range r.2.2).map (fun k => en_dv (ty k)) ∧ ∀ k ∈ List.range r.2.2, en_dvok (ty k) = true) ∧ (∀ a, a < r.2.2 → ∀ b, b < r.2.2 → a ≠ b → (r.2.1 a).2.1 ≠ (r.2.1 b).2.1)
theorem en_cl_0 : en_Cl 0 (RX0, TX0, 3) := ⟨en_lay_gt inX0, ⟨tyX0, tyX0_ok, by decide +kernel, by decide +kernel⟩, nmX0⟩
theorem en_cl_1 : en_Cl 1 (RX1, TX1, 17) := ⟨en_lay_gt inX1, ⟨tyX1, tyX1_ok, by decide +kernel, by decide +kernel⟩, nmX1⟩
theorem en_cl_2 : en_Cl 2 (RX2, TX2, 3) := ⟨en_lay_gt inX2, ⟨tyX2, tyX2_ok, by decide +kernel, by decide +kernel⟩, nmX2⟩
theorem en_cl_3 : en_Cl 3 (RX3, TX3, 8) := ⟨en_lay_gt inX3, ⟨tyX3, tyX3_ok, by decide +kernel, by decide +kernel⟩, nmX3⟩
theorem en_cl_4 : en_Cl 4 (RX4, TX4, 11) := ⟨en_lay_gt inX4, ⟨tyX4, tyX4_ok, by decide +kernel, by decide +kernel⟩, nmX4⟩
theorem en_cl_5 : en_Cl 5 (RX5, TX5, 6) := ⟨en_lay_gt inX5, ⟨tyX5, tyX5_ok, by decide +kernel, by decide +kernel⟩, nmX5⟩
theorem en_cl_6 : en_Cl 6 (RX6, TX6, 5) := ⟨en_lay_gt inX6, ⟨tyX6, tyX6_ok, by decide +kernel, by decide +kernel⟩, nmX6⟩
theorem en_cl_7 : en_Cl 7 (RX7, TX7, 7) := ⟨en_lay_gt inX7, ⟨tyX7, tyX7_ok, by decide +kernel, by decide +kernel⟩, nmX7⟩
theorem en_cl_8 : en_Cl 8 (RX8, TX8, 9) := ⟨en_lay_gt inX8, ⟨tyX8, tyX8_ok, by decide +kernel, by decide +kernel⟩, nmX8⟩
theorem en_cl_9 : en_Cl 9 (RX10, TX10, 14) := ⟨en_lay_gt inX10, ⟨tyX10, tyX10_ok, by decide +kernel, by decide +kernel⟩, nmX10⟩
theorem en_cl_10 : en_Cl 10 (RX11, TX11, 41) := ⟨en_lay_gt inX11, ⟨tyX11, tyX11_ok, by decide +kernel, by decide +kernel⟩, nmX11⟩
theorem en_cl : ∀ (ci : Nat) (r : vw_C), vwCl[ci]? = some r → en_Cl ci r := by
  intro ci r h
  match ci, h with
  | 0, h => cases h; exact en_cl_0
  | 1, h => cases h; exact en_cl_1
  | 2, h => cases h; exact en_cl_2
  | 3, h => cases h; exact en_cl_3
  | 4, h => cases h; exact en_cl_4
  | 5, h => cases h; exact en_cl_5
  | 6, h => cases h; exact en_cl_6
  | 7, h => cases h; exact en_cl_7
  | 8, h => cases h; exact en_cl_8
  | 9, h => cases h; exact en_cl_9
  | 10, h => cases h; exact en_cl_10
  | k + 11, h => simp [vwCl] at h
theorem en_cl_lt {ci : Nat} {r : vw_C} (h : vwCl[ci]? = some r) : ci ≠ 99 := by
  intro q
  subst q
  simp [vwCl] at h
theorem en_fits {ba : Nat} {ex : Nat → Nat} {kd : Nat} {ty : FieldType} {v : en_V} {w : Value} (h1 : en_fk kd ty = true) (h2 : en_fit kd v = true) (h : en_rv ba ex v w) : narrow ty w = w ∧ fits ty w = true := by
  unfold en_fk at h1
  split at h1
  · obtain ⟨x, rfl⟩ := en_kd0 h (Nat.eq_of_beq_eq_true h2)
    exact ⟨rfl, rfl⟩
  · obtain ⟨x, rfl⟩ := en_kd1 h (Nat.eq_of_beq_eq_true h2)
    exact ⟨rfl, rfl⟩
  · rcases en_kd2 h (Nat.eq_of_beq_eq_true h2) with rfl | ⟨x, rfl⟩ <;> exact ⟨rfl, rfl⟩
  · rcases en_kd2 h (Nat.eq_of_beq_eq_true h2) with rfl | ⟨x, rfl⟩ <;> exact ⟨rfl, rfl⟩
  · match v, h2, h with
    | .inl 0, _, h => have h : w = .int (nI 0) := h; subst h; exact ⟨by decide, by decide⟩
    | .inl 1, _, h => have h : w = .int (nI 1) := h; subst h; exact ⟨by decide, by decide⟩
    | .inl (x + 2), h2, _ =>
      have h2 : Nat.ble (x + 2) 1 = true := h2
      have := Nat.le_of_ble_eq_true h2
      omega
    | .inr _, h2, _ => cases h2
  · cases h1
theorem en_rvs_rep {ba : Nat} {ex : Nat → Nat} {a : en_V} {v : Value} (k : Nat) (h : en_rv ba ex a v) : en_rvs ba ex (List.replicate k a) (List.replicate k v) := by
  induction k with
  | zero => exact trivial
  | succ k ih => exact ⟨h, ih⟩
theorem en_arrV_congr {c : ClassId} {N : Nat} {f g : Nat → Value} (h : ∀ j, j < N → f j = g j) : arrV c N f = arrV c N g := by
  have e : (Array.ofFn (n := N) fun j => f j.val) = Array.ofFn (n := N) fun j => g j.val := by
    congr 1
    funext j
    exact h j.val j.isLt
  unfold arrV
  rw [e]
theorem en_ty {cA : Nat → ClassId} {D : va_G} {s : State} (h : va_K D vwCl (en_tys cA) s) (k : Nat) {ty : FieldType} (hk : (en_tys cA)[k]? = some (cA k, ty)) : ArrOfT s (cA k) ty ∧ va_RA s (cA k) ty := h.2 k _ hk
section
variable {p : Program} {l : Launch} {e : Env} {R : Room} {s : State} {m : MethodId} {args : Array Value} {below : List Frame} {meth : Method} {c : Code} {Q : State → Prop}
variable {ba : Nat} {ex : Nat → Nat} {cA : Nat → ClassId} {D : va_G} {nL n0 N SL : Nat} {cc : ByteArray} {pc nx : Nat} {ls : en_L} {st : List en_V} {t : en_H} {n sl : Nat}
theorem en_a_getf {a k i : Nat} {q : Nat × List en_V} {v : en_V} {r : vw_C} {own : String} (hx : p.tables.exec = Jvm.exec) (hb : c.code = cc) (hown : s.vm.findClass own = some m.cls) (hts : ∀ w ∈ en_gt, w.before args s = true) (hK : en_Kw ba ex cA D s) (hT : en_T p l e R s m args below meth c Q ba ex cA D nL n0 N SL (pc + 3, ls, v :: st, t, n, sl)) (hg : en_get t a = some (.inr q)) (hr : vwCl[q.1]? = some r) (hk : k < r.2.2) (hl : Cond.fieldLink own i (r.2.1 k).1 (r.2.1 k).2.1 (r.2.1 k).2.2.1 ∈ en_gt) (hv : q.2[k]? = some v) (hd : decode cc pc = .ok (.getfield i, 3)) : en_T p l e R s m args below meth c Q ba ex cA D nL n0 N SL (pc, ls, .inr (.inr (.inl (some a))) :: st, t, n, sl) := by
  refine en_pure hT (fun H locs la vs hl' hv' hP K => ?_)
  obtain ⟨w, ws, rfl, h1, h2⟩ := en_rvs_cons hv'
  have h1 : w = .ref (ba + a) := h1
  subst h1
  obtain ⟨fs, r', g1, g2, g3⟩ := hP.obj hg (en_cl_lt hr)
  cases hr.symm.trans g2
  obtain ⟨x, e1, e2⟩ := en_rvs_get g1 hv
  exact va_get (ws := [(ba + a, .inr (q.1, fs))]) (T := r.2.1) (N := r.2.2) (C := r.1) (cl := vwCl) hx hb hts (en_cl _ _ hr).1 hown hK.1 (fun k x hx => by
    match k, hx with
    | 0, hx => cases hx; exact ⟨r, hr, g3⟩
    | k + 1, hx => simp at hx) 0 rfl hr k hk (hts _ hl) (fun x h => h) e1 hd (K la _ hl' ⟨e2, h2⟩)
theorem en_a_putf {a k i kd : Nat} {q : Nat × List en_V} {v : en_V} {r : vw_C} {own : String} {ty : FieldType} (hx : p.tables.exec = Jvm.exec) (hb : c.code = cc) (hown : s.vm.findClass own = some m.cls) (hts : ∀ w ∈ en_gt, w.before args s = true) (hK : en_Kw ba ex cA D s) (hT : en_T p l e R s m args below meth c Q ba ex cA D nL n0 N SL (pc + 3, ls, st, en_set t a (.inr (q.1, en_upd q.2 k v)), n, sl)) (hg : en_get t a = some (.inr q)) (hr : vwCl[q.1]? = some r) (hk : k < r.2.2) (hl : Cond.fieldLink own i (r.2.1 k).1 (r.2.1 k).2.1 (r.2.1 k).2.2.1 ∈ en_gt) (hty : parseFieldDescriptor (r.2.1 k).2.2.1 = some ty) (hfk : en_fk kd ty = true) (hfit : en_fit kd v = true) (hlen : k < q.2.length) (hf : (r.2.1 k).2.2.2 = false ∨ ((r.2.1 k).2.2.2 = true ∧ meth.name = "<init>" ∧ (r.2.1 k).1 = own)) (hd : decode cc pc = .ok (.putfield i, 3)) : en_T p l e R s m args below meth c Q ba ex cA D nL n0 N SL (pc, ls, v :: .inr (.inr (.inl (some a))) :: st, t, n, sl) := by
  refine ⟨hT.1, hT.2.1, fun H locs la vs hl' hv' hP hS => ?_⟩
  obtain ⟨w, ws, rfl, h1, hw1⟩ := en_rvs_cons hv'
  obtain ⟨w2, ws, rfl, h2, hw2⟩ := en_rvs_cons hw1
  have h2 : w2 = .ref (ba + a) := h2
  subst h2
  obtain ⟨fs, r', g1, g2, g3⟩ := hP.obj hg (en_cl_lt hr)
  cases hr.symm.trans g2
  obtain ⟨hin, ⟨ty0, hty0, -⟩, hnm⟩ := en_cl _ _ hr
  have hap := va_apart (own := own) (C := r.1) (T := r.2.1) (N := r.2.2) hts hin ty0 hty0 hnm hK.1 hr
  obtain ⟨cell, q1, q2, q3, q4⟩ := g3
  obtain ⟨hSl, hfc, kC, hkC, hkind⟩ := hK.1.1 _ _ hr
  obtain ⟨cf, kf, fi, f, hi, hsl⟩ := hSl k hk
  have hst := (u_facts hfc hkC (u_lays hts hin hk) hi).1
  obtain ⟨f1, f2⟩ := en_fits hfk hfit h1
  have hfsl : k < fs.length := by rw [en_rvs_len g1]; exact hlen
  have fin : ∀ H' : Heap, H'[ba + a]? = some (cell.setSlot f.slot w) → H'.size = H.size → (∀ x, x ≠ ba + a → H'[x]? = H[x]?) → W p l e R s m args below meth c H' (locs ++ [⟨ba + a, f.slot⟩]) (n - n0) sl Q (F0 m (pc + 3) la ws) := fun H' e1 e2 e3 => by
    rw [hsl] at e1
    refine hT.2.2 H' _ la ws hl' hw2 (hP.set hg ⟨fs.set k w, r, ?_, hr, ?_⟩ e2 e3) (hS.put e2 e3 (Nat.le_add_right _ _))
    · show en_rvs ba ex (en_upd q.2 k v) _
      rw [en_upd_eq]
      exact en_rvs_set k g1 h1
    · exact t_OB.to (V := updV (vp_V fs) k w) ⟨_, e1, q2, q3, t_set q4 hap hk w⟩ (fun j _ => vp_updV_set hfsl w j)
  rcases hf with hf | ⟨hf, hname, hdecl⟩
  · have hlay := hts _ (hin _ (u_in_lay hk))
    unfold u_lay at hlay
    rw [if_neg (by rw [hf]; decide)] at hlay
    exact W.putK hx hb (f := f) ⟨hown, hts _ hl, ⟨_, _, _, hi⟩, hst⟩ (by rw [q2]; exact u_store hfc hkC hkind hlay hi hty f1 f2) q1 q3 (by rw [hsl]; exact k2_hasslot (q4 k hk)) rfl rfl hd fin
  · have hlay := hts _ (hin _ (u_in_lay hk))
    unfold u_lay at hlay
    rw [if_pos hf] at hlay
    have hcf : m.cls = cf := by
      obtain ⟨_, _, c', _, _, _, -, -, hf', -, -, -, hown2, -⟩ := Cond.laysFinal_spec hlay
      have e1 : c' = cf := by have := hi.symm.trans hf'; simp at this; exact this.1.symm
      rw [hdecl] at hown2
      rw [← e1]
      exact Option.some.inj (hown.symm.trans hown2)
    exact W.putFinK hx hb hown (hts _ hl) hi hst hcf hname (by rw [q2]; exact u_fits hfc hkC hkind (Or.inr hlay) hi hty f1 f2) q1 q3 (by rw [hsl]; exact k2_hasslot (q4 k hk)) rfl rfl hd fin
/-- an array's cell, and the place i of it -/
theorem en_arr_at {a i : Nat} {q : Nat × List en_V} {v : en_V} {H : Heap} (hP : en_P ba ex cA D t n H) (hg : en_get t a = some (.inl q)) (hi : i < 2147483648) (hv : q.2[i]? = some v) : ∃ (fs : List Value) (w : Value), H[ba + a]? = some (arrV (cA q.1) fs.length (vp_V fs)) ∧ en_rv ba ex v w ∧ ¬ (nI i < 0 ∨ (arrV (cA q.1) fs.length (vp_V fs)).slots.size ≤ (nI i).toNatClampNeg) ∧ (arrV (cA q.1) fs.length (vp_V fs)).slots[(nI i).toNatClampNeg]? = some w ∧ en_rvs ba ex q.2 fs := by
  obtain ⟨fs, g1, g2⟩ := hP.arr hg
  obtain ⟨w, e1, e2⟩ := en_rvs_get g1 hv
  have hl : i < fs.length := (List.getElem?_eq_some_iff.mp e1).1
  refine ⟨fs, w, g2, e2, ?_, ?_, g1⟩
  · rw [arrV_size, nI_clamp hi]
    rintro (h | h)
    · exact nI_pos hi h
    · omega
  · rw [nI_clamp hi, arrV_read _ _ hl]
    unfold vp_V
    rw [List.getD_eq_getElem?_getD, e1]
    rfl
theorem en_a_aget {a i : Nat} {q : Nat × List en_V} {v : en_V} (hT : en_T p l e R s m args below meth c Q ba ex cA D nL n0 N SL (nx, ls, v :: st, t, n, sl)) (hg : en_get t a = some (.inl q)) (hi : i < 2147483648) (hv : q.2[i]? = some v)
    (h : ∀ (H : Heap) (locs : List Loc) (la : Array Slot) (vs fs : List Value) (w : Value), H[ba + a]? = some (arrV (cA q.1) fs.length (vp_V fs)) → ¬ (nI i < 0 ∨ (arrV (cA q.1) fs.length (vp_V fs)).slots.size ≤ (nI i).toNatClampNeg) → (arrV (cA q.1) fs.length (vp_V fs)).slots[(nI i).toNatClampNeg]? = some w → W p l e R s m args below meth c H locs (n - n0) sl Q (F0 m nx la (w :: vs)) → W p l e R s m args below meth c H locs (n - n0) sl Q (F0 m pc la (.int (nI i) :: .ref (ba + a) :: vs))) : en_T p l e R s m args below meth c Q ba ex cA D nL n0 N SL (pc, ls, .inl i :: .inr (.inr (.inl (some a))) :: st, t, n, sl) := by
  refine en_pure hT (fun H locs la vs hl' hv' hP K => ?_)
  obtain ⟨w1, ws, rfl, h1, hw1⟩ := en_rvs_cons hv'
  obtain ⟨w2, ws, rfl, h2, hw2⟩ := en_rvs_cons hw1
  have h1 : w1 = .int (nI i) := h1
  have h2 : w2 = .ref (ba + a) := h2
  subst h1
  subst h2
  obtain ⟨fs, w, f1, f2, f3, f4, -⟩ := en_arr_at hP hg hi hv
  exact h H locs la ws fs w f1 f3 f4 (K la _ hl' ⟨f2, hw2⟩)
theorem en_a_aput {a i : Nat} {q : Nat × List en_V} {v : en_V} (hT : en_T p l e R s m args below meth c Q ba ex cA D nL n0 N SL (nx, ls, st, en_set t a (.inl (q.1, en_upd q.2 i v)), n, sl)) (hg : en_get t a = some (.inl q)) (hi : i < 2147483648) (hlen : i < q.2.length)
    (h : ∀ (H : Heap) (locs : List Loc) (la : Array Slot) (vs fs : List Value) (w : Value), en_P ba ex cA D t n H → H[ba + a]? = some (arrV (cA q.1) fs.length (vp_V fs)) → ¬ (nI i < 0 ∨ (arrV (cA q.1) fs.length (vp_V fs)).slots.size ≤ (nI i).toNatClampNeg) → en_rv ba ex v w →
      (∀ (w' : Value), en_rv ba ex v w' → ∀ H' : Heap, H'[ba + a]? = some ((arrV (cA q.1) fs.length (vp_V fs)).setSlot (nI i).toNatClampNeg w') → H'.size = H.size → (∀ x, x ≠ ba + a → H'[x]? = H[x]?) → W p l e R s m args below meth c H' (locs ++ [⟨ba + a, (nI i).toNatClampNeg⟩]) (n - n0) sl Q (F0 m nx la vs)) → W p l e R s m args below meth c H locs (n - n0) sl Q (F0 m pc la (w :: .int (nI i) :: .ref (ba + a) :: vs))) : en_T p l e R s m args below meth c Q ba ex cA D nL n0 N SL (pc, ls, v :: .inl i :: .inr (.inr (.inl (some a))) :: st, t, n, sl) := by
  refine ⟨hT.1, hT.2.1, fun H locs la vs hl' hv' hP hS => ?_⟩
  obtain ⟨w, ws, rfl, h0, hw1⟩ := en_rvs_cons hv'
  obtain ⟨w1, ws, rfl, h1, hw2⟩ := en_rvs_cons hw1
  obtain ⟨w2, ws, rfl, h2, hw3⟩ := en_rvs_cons hw2
  have h1 : w1 = .int (nI i) := h1
  have h2 : w2 = .ref (ba + a) := h2
  subst h1
  subst h2
  obtain ⟨x, hx⟩ : ∃ x, q.2[i]? = some x := ⟨q.2[i], by simp [hlen]⟩
  obtain ⟨fs, -, f1, -, f3, -, f5⟩ := en_arr_at hP hg hi hx
  have hfl : i < fs.length := by rw [en_rvs_len f5]; exact hlen
  refine h H locs la ws fs w hP f1 f3 h0 (fun w' h0' H' e1 e2 e3 => hT.2.2 H' _ la ws hl' hw3 (hP.set hg ⟨fs.set i w', ?_, ?_⟩ e2 e3) (hS.put e2 e3 (Nat.le_add_right _ _)))
  · show en_rvs ba ex (en_upd q.2 i v) _
    rw [en_upd_eq]
    exact en_rvs_set i f5 h0'
  · rw [e1, nI_clamp hi, arrV_store, List.length_set]
    exact congrArg some (en_arrV_congr (fun j _ => vp_updV_set hfl w' j))
theorem en_a_alen {a : Nat} {q : Nat × List en_V} {ty : FieldType} (hx : p.tables.exec = Jvm.exec) (hb : c.code = cc) (hK : en_Kw ba ex cA D s) (hT : en_T p l e R s m args below meth c Q ba ex cA D nL n0 N SL (pc + 1, ls, .inl q.2.length :: st, t, n, sl)) (hg : en_get t a = some (.inl q)) (hty : (en_tys cA)[q.1]? = some (cA q.1, ty)) (hd : decode cc pc = .ok (.arraylength, 1)) : en_T p l e R s m args below meth c Q ba ex cA D nL n0 N SL (pc, ls, .inr (.inr (.inl (some a))) :: st, t, n, sl) := by
  refine en_pure hT (fun H locs la vs hl' hv' hP K => ?_)
  obtain ⟨w, ws, rfl, h1, h2⟩ := en_rvs_cons hv'
  have h1 : w = .ref (ba + a) := h1
  subst h1
  obtain ⟨fs, g1, g2⟩ := hP.arr hg
  exact W.alen (n := nI q.2.length) hx hb g2 ((en_ty hK.1 q.1 hty).1 fs.length (vp_V fs)) (by rw [arrV_size, en_rvs_len g1]; rfl) rfl rfl hd (K la _ hl' ⟨rfl, h2⟩)
theorem en_a_new {ci i : Nat} {c0 : en_C} {r : vw_C} {own : String} (hx : p.tables.exec = Jvm.exec) (hb : c.code = cc) (hown : s.vm.findClass own = some m.cls) (hts : ∀ w ∈ en_gt, w.before args s = true) (hK : en_Kw ba ex cA D s) (hn0 : n0 ≤ n) (hRc : N - n0 ≤ R.cells) (hRs : SL ≤ R.slots) (hT : en_T p l e R s m args below meth c Q ba ex cA D nL n0 N SL (pc + 3, ls, .inr (.inr (.inl (some n))) :: st, en_set t n (.inr (ci, en_df ci)), n + 1, sl + r.2.2)) (hg : en_get t n = some c0) (hr : vwCl[ci]? = some r)
    (h1 : Cond.classLink own i r.1 ∈ en_gt) (h2 : Cond.instantiable r.1 r.2.2 ∈ en_gt) (h3 : Cond.initialized r.1 ∈ en_gt) (hd : decode cc pc = .ok (.new i, 3)) : en_T p l e R s m args below meth c Q ba ex cA D nL n0 N SL (pc, ls, st, t, n, sl) := by
  have hN : n + 1 ≤ N := hT.1
  have hSL : sl + r.2.2 ≤ SL := hT.2.1
  refine ⟨by show n ≤ N; omega, by show sl ≤ SL; omega, fun H locs la vs hl' hv' hP hS => ?_⟩
  obtain ⟨hin, ⟨ty0, hty0, hdf, hok⟩, hnm⟩ := en_cl _ _ hr
  have hKn := hK.1.1 _ _ hr
  refine W.newcK hx hb hown (hts _ h1) (hts _ h2) (hts _ h3) rfl hd (by show n - n0 + 1 ≤ _; omega) (Nat.le_trans hSL hRs) hKn.2.1 hP.1 fun H1 kC hkC e1 z1 o1 => ?_
  have hS1 : va_S (fun q => ba ≤ q) s.heap H1 locs := ⟨Nat.le_trans hS.1 (by rw [z1, hP.1]; omega), fun x g1 g2 => (o1 x (by rw [← hP.1]; exact Nat.lt_of_lt_of_le g1 hS.1)).trans (hS.2.1 x g1 g2), hS.2.2⟩
  have K := hT.2.2 H1 locs la (.ref (ba + n) :: vs) hl' ⟨rfl, hv'⟩ (hP.push hg ⟨(List.range r.2.2).map (fun k => defaultValue (ty0 k)), r, by
      show en_rvs ba ex (en_df ci) _
      rw [hdf]
      exact en_dv_rvs ba ex ty0 _ hok, hr, (u_born ty0 hts hin hKn hkC e1 hty0).to (fun j hj => by unfold vp_V; rw [List.getD_eq_getElem?_getD, List.getElem?_map, List.getElem?_range hj]; rfl)⟩ (by rw [z1, hP.1]) (by rw [hP.1]; exact o1)) hS1
  have e : n + 1 - n0 = n - n0 + 1 := by omega
  dsimp only at K
  rw [e] at K
  exact K
theorem en_a_newa {cd i : Nat} {c0 : en_C} {at0 : ArrayType} {ty : FieldType} {m9 : Nat} (hx : p.tables.exec = Jvm.exec) (hb : c.code = cc) (hts : ∀ w ∈ en_gt, w.before args s = true) (hK : en_Kw ba ex cA D s) (hn0 : n0 ≤ n) (hRc : N - n0 ≤ R.cells) (hRs : SL ≤ R.slots) (hT : en_T p l e R s m args below meth c Q ba ex cA D nL n0 N SL (pc + 2, ls, .inr (.inr (.inl (some n))) :: st, en_set t n (.inl (cd, en_rep m9 (en_dv ty))), n + 1, sl + m9)) (hg : en_get t n = some c0) (hm : m9 ≤ 60000)
    (hat : newarray.typeOf at0 = ty) (hcb : componentBytes ty ≤ 8) (hdv : en_rv ba ex (en_dv ty) (defaultValue ty)) (hty : (en_tys cA)[cd]? = some (cA cd, ty)) (hra : va_RA s (cA cd) ty → s.vm.findClass ("[" ++ ty.toString) = some (cA cd)) (h1 : Cond.arrayClass ty ∈ en_gt) (hd : decode cc pc = .ok (.newarray at0, 2)) : en_T p l e R s m args below meth c Q ba ex cA D nL n0 N SL (pc, ls, .inl m9 :: st, t, n, sl) := by
  have hN : n + 1 ≤ N := hT.1
  have hSL : sl + m9 ≤ SL := hT.2.1
  refine ⟨by show n ≤ N; omega, by show sl ≤ SL; omega, fun H locs la vs hl' hv' hP hS => ?_⟩
  obtain ⟨w, ws, rfl, h2, hw1⟩ := en_rvs_cons hv'
  have h2 : w = .int (nI m9) := h2
  subst h2
  subst hat
  have hm31 : m9 < 2 ^ 31 := by omega
  refine va_newaK hx hb (hts _ h1) rfl hd rfl (nI_pos hm31) (nI_clamp hm31) (Nat.le_trans (Nat.mul_le_mul hm hcb) (by decide)) (by show n - n0 + 1 ≤ _; omega) (Nat.le_trans hSL hRs) hP.1 fun H1 cB e1 z1 o1 hAr hNm => ?_
  have ec : cB = cA cd := Option.some.inj (hNm.symm.trans (hra (en_ty hK.1 cd hty).2))
  subst ec
  have hS1 : va_S (fun q => ba ≤ q) s.heap H1 locs := ⟨Nat.le_trans hS.1 (by rw [z1, hP.1]; omega), fun x g1 g2 => (o1 x (by rw [← hP.1]; exact Nat.lt_of_lt_of_le g1 hS.1)).trans (hS.2.1 x g1 g2), hS.2.2⟩
  have K := hT.2.2 H1 locs la (.ref (ba + n) :: ws) hl' ⟨rfl, hw1⟩ (hP.push hg ⟨List.replicate m9 (defaultValue (newarray.typeOf at0)), by
      show en_rvs ba ex (en_rep m9 _) _
      rw [en_rep_eq]
      exact en_rvs_rep m9 hdv, by
      rw [e1, List.length_replicate]
      exact congrArg some (en_arrV_congr (fun j hj => by unfold vp_V; rw [List.getD_eq_getElem?_getD, List.getElem?_replicate, if_pos hj]; rfl))⟩ (by rw [z1, hP.1]) (by rw [hP.1]; exact o1)) hS1
  have e : n + 1 - n0 = n - n0 + 1 := by omega
  dsimp only at K
  rw [e] at K
  exact K
theorem en_a_anew {cd i : Nat} {c0 : en_C} {C own : String} {m9 : Nat} (hx : p.tables.exec = Jvm.exec) (hb : c.code = cc) (hown : s.vm.findClass own = some m.cls) (hts : ∀ w ∈ en_gt, w.before args s = true) (hK : en_Kw ba ex cA D s) (hn0 : n0 ≤ n) (hRc : N - n0 ≤ R.cells) (hRs : SL ≤ R.slots) (hT : en_T p l e R s m args below meth c Q ba ex cA D nL n0 N SL (pc + 3, ls, .inr (.inr (.inl (some n))) :: st, en_set t n (.inl (cd, en_rep m9 (.inr (.inr (.inl none))))), n + 1, sl + m9)) (hg : en_get t n = some c0) (hm : m9 ≤ 60000)
    (hty : (en_tys cA)[cd]? = some (cA cd, .object C)) (hao : va_AO C s) (h1 : Cond.classLink own i C ∈ en_gt) (hd : decode cc pc = .ok (.anewarray i, 3)) : en_T p l e R s m args below meth c Q ba ex cA D nL n0 N SL (pc, ls, .inl m9 :: st, t, n, sl) := by
  have hN : n + 1 ≤ N := hT.1
  have hSL : sl + m9 ≤ SL := hT.2.1
  refine ⟨by show n ≤ N; omega, by show sl ≤ SL; omega, fun H locs la vs hl' hv' hP hS => ?_⟩
  obtain ⟨w, ws, rfl, h2, hw1⟩ := en_rvs_cons hv'
  have h2 : w = .int (nI m9) := h2
  subst h2
  have hm31 : m9 < 2 ^ 31 := by omega
  have hcl : (nI m9).toNatClampNeg = m9 := nI_clamp hm31
  refine W.anew hx hb hown (hts _ h1) (va_AO.use hao) rfl hd rfl (nI_pos hm31) (by rw [hcl]; omega) (by show n - n0 + 1 ≤ _; omega) (by rw [hcl]; exact Nat.le_trans hSL hRs) fun cB kA comp f1 f2 f3 f4 => ?_
  rw [hcl]
  obtain ⟨-, -, -, -, -, hNm⟩ := (en_ty hK.1 cd hty).2
  have ec : cB = cA cd := Option.some.inj (f1.symm.trans hNm)
  subst ec
  generalize hH1 : H.push ({ cls := cA cd, slots := Array.replicate m9 .null, vm := .none } : Cell) = H1
  have z1 : H1.size = H.size + 1 := by rw [← hH1, Array.size_push]
  have e1 : H1[H.size]? = some (arrV (cA cd) m9 (fun _ => .null)) := by rw [← hH1, Array.getElem?_push_size, ← arrV_new]
  have o1 : ∀ q : Nat, q < H.size → H1[q]? = H[q]? := fun q hq => by rw [← hH1, Array.getElem?_push, if_neg (Nat.ne_of_lt hq)]
  have hS1 : va_S (fun q => ba ≤ q) s.heap H1 locs := ⟨Nat.le_trans hS.1 (by rw [z1]; omega), fun x g1 g2 => (o1 x (Nat.lt_of_lt_of_le g1 hS.1)).trans (hS.2.1 x g1 g2), hS.2.2⟩
  have K := hT.2.2 H1 locs la (.ref (ba + n) :: ws) hl' ⟨rfl, hw1⟩ (hP.push hg ⟨List.replicate m9 .null, by
      show en_rvs ba ex (en_rep m9 _) _
      rw [en_rep_eq]
      exact en_rvs_rep m9 rfl, by
      rw [← hP.1, e1, List.length_replicate]
      exact congrArg some (en_arrV_congr (fun j hj => by unfold vp_V; rw [List.getD_eq_getElem?_getD, List.getElem?_replicate, if_pos hj]; rfl))⟩ z1 o1) hS1
  have e : n + 1 - n0 = n - n0 + 1 := by omega
  dsimp only at K
  rw [e] at K
  rw [hP.1]
  exact K
end
end EN9
