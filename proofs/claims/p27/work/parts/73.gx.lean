section GX1
/-! ### rows over the reference's heap by its slots -/
noncomputable abbrev gx_r (c : Nat) : en_V := .inr (.inr (.inl (some c)))
variable {oc : Option (List en_V)} {f : en_F} {code : Nat → Option en_I} {stop : Nat → Bool} {P : en_O → Prop}
variable {pc nx : Nat} {ls : en_L} {st : List en_V} {t : en_H} {n sl : Nat}
theorem gx_get {i x1 x2 : Nat} {v : en_V} (hc : code pc = some (.getfield i, nx, x1, x2)) (hG : ai_HG ah_G t) (hx : Nat.beq 10 (x2 % 16) = true) (hv : ai_hv t 383 x1 = some v) (hp : stop nx = false) (h : en_ex oc f code stop (nx, ls, v :: st, t, n, sl) P) : en_ex oc f code stop (pc, ls, gx_r 383 :: st, t, n, sl) P := by
  obtain ⟨vs, h1, h2, -⟩ := hG 383 ah_383 rfl
  rw [ai_hv_mk h1] at hv
  exact ex_getf (q := (10, vs)) hc h1 hx (by rw [en_nth_eq]; exact hv) hp h
theorem gx_ref {i x1 x2 c : Nat} (hc : code pc = some (.getfield i, nx, x1, x2)) (hG : ai_HG ah_G t) (hx : Nat.beq 10 (x2 % 16) = true) (hlt : Nat.blt x1 41 = true) (hr : ai_run ah_383.2.2.2 x1 = some (.inr (.inr [c + 100]))) (hp : stop nx = false) (h : en_ex oc f code stop (nx, ls, gx_r c :: st, t, n, sl) P) : en_ex oc f code stop (pc, ls, gx_r 383 :: st, t, n, sl) P := by
  obtain ⟨vs, o1, o2⟩ := ha_fld (c := c) hG (Nat.le_of_ble_eq_true hlt) hr
  exact ex_getf (q := (10, vs)) hc o1 hx o2 hp h
theorem gx_put {i x1 x2 v : Nat} {p : Nat × Nat} (hc : code pc = some (.putfield i, nx, x1, x2)) (hG : ai_HG ah_G t) (hx : (Nat.beq 10 (x2 % 16) && en_fit (x2 / 16 % 4) (.inl v) && Nat.blt x1 41) = true) (hr : ai_run ah_383.2.2.2 x1 = some (.inl p)) (hb : ai_rh (.inl p) (.inl v)) (hp : stop nx = false) (h : ∀ t' : en_H, ai_HG ah_G t' → ai_hv t' 383 x1 = some (.inl v) → (∀ c j, ¬ (c = 383 ∧ j = x1) → ai_hv t' c j = ai_hv t c j) → en_ex oc f code stop (nx, ls, st, t', n, sl) P) : en_ex oc f code stop (pc, ls, .inl v :: gx_r 383 :: st, t, n, sl) P := by
  obtain ⟨vs, h1, h2, -⟩ := hG 383 ah_383 rfl
  have h2 : vs.length = 41 := h2
  have h1 : en_get t 383 = some (ai_mk ah_383 vs) := h1
  have hlt : x1 < vs.length := by
    rw [h2]
    rw [Bool.and_eq_true] at hx
    exact Nat.le_of_ble_eq_true hx.2
  have hv := ai_set_hv (v := .inl v) h1 hlt
  refine ex_go (S := (nx, ls, st, en_set t 383 (ai_mk ah_383 (en_upd vs x1 (.inl v))), n, sl)) hc (fun k => ?_) hp (h _ (ai_set_HG hG rfl h1 hlt hr hb) ((hv 383 x1).trans (if_pos ⟨rfl, rfl⟩)) (fun c j hn => (hv c j).trans (if_neg hn)))
  show (match en_get t 383 with
    | some (.inr q) => bif Nat.beq q.1 (x2 % 16) && en_fit (x2 / 16 % 4) (.inl v) && Nat.blt x1 (en_len q.2) then k nx ls st (en_set t 383 (.inr (q.1, en_upd q.2 x1 (.inl v)))) n sl else none
    | _ => none) = _
  rw [show en_get t 383 = some (.inr (10, vs)) from h1]
  dsimp only
  rw [en_len_eq, h2, hx]
  rfl
theorem gx_mk {g : ai_g} {vs : List en_V} (h : g.1 = true) : ai_mk g vs = .inl (g.2.1, vs) := by
  unfold ai_mk
  rw [h]
theorem gx_ag {ins : Instr} {x1 x2 c i : Nat} {g : ai_g} {v : en_V} {cb : Nat → Bool} (hc : code pc = some (ins, nx, x1, x2)) (hi : ∀ k : en_K, en_step en_df oc f pc (ins, nx, x1, x2) ls (.inl i :: gx_r c :: st) t n sl k = en_aget oc cb nx ls (.inl i :: gx_r c :: st) t n sl k) (hG : ai_HG ah_G t) (hg : ah_G c = some g) (hk : (g.1 && cb g.2.1) = true) (hv : ai_hv t c i = some v) (hb : i < 2147483648) (hp : stop nx = false) (h : en_ex oc f code stop (nx, ls, v :: st, t, n, sl) P) : en_ex oc f code stop (pc, ls, .inl i :: gx_r c :: st, t, n, sl) P := by
  obtain ⟨vs, h1, h2, -⟩ := hG c g hg
  rw [Bool.and_eq_true] at hk
  have hv2 := hv
  rw [ai_hv_mk h1] at hv2
  rw [gx_mk hk.1] at h1
  exact ex_aget (q := (g.2.1, vs)) (v := v) (cb := cb) hc hi h1 (by rw [Bool.and_eq_true]; exact ⟨hk.2, Nat.ble_eq_true_of_le hb⟩) (by rw [en_nth_eq]; exact hv2) hp h
theorem gx_apv {ins : Instr} {x1 x2 c i d : Nat} {v : en_V} {g : ai_g} {p : ai_h} (hc : code pc = some (ins, nx, x1, x2)) (hi : ∀ k : en_K, en_step en_df oc f pc (ins, nx, x1, x2) ls (v :: .inl i :: gx_r c :: st) t n sl k = en_aput d nx ls (v :: .inl i :: gx_r c :: st) t n sl k) (hG : ai_HG ah_G t) (hg : ah_G c = some g) (hk : (g.1 && Nat.ble g.2.2.1 2147483648) = true) (hf : en_afit t d g.2.1 v = true) (hb : i < g.2.2.1) (hr : ai_run g.2.2.2 i = some p) (hv : ai_rh p v) (hp : stop nx = false) (h : ∀ t' : en_H, ai_HG ah_G t' → ai_hv t' c i = some v → (∀ c' j, ¬ (c' = c ∧ j = i) → ai_hv t' c' j = ai_hv t c' j) → en_ex oc f code stop (nx, ls, st, t', n, sl) P) : en_ex oc f code stop (pc, ls, v :: .inl i :: gx_r c :: st, t, n, sl) P := by
  obtain ⟨vs, h1, h2, -⟩ := hG c g hg
  rw [Bool.and_eq_true] at hk
  have hlt : i < vs.length := by omega
  have h3 := Nat.le_of_ble_eq_true hk.2
  have hv2 := ai_set_hv (v := v) h1 hlt
  have h4 := h _ (ai_set_HG hG hg h1 hlt hr hv) ((hv2 c i).trans (if_pos ⟨rfl, rfl⟩)) (fun c' j hn => (hv2 c' j).trans (if_neg hn))
  rw [gx_mk hk.1] at h1 h4
  exact ex_aps (q := (g.2.1, vs)) (d := d) hc hi h1 (by rw [en_len_eq, hf, Bool.true_and, Bool.and_eq_true]; exact ⟨Nat.ble_eq_true_of_le (by first | decide | omega), Nat.ble_eq_true_of_le hlt⟩) hp h4
/-- an int into an array of ints -/
theorem gx_ap {ins : Instr} {x1 x2 c i v : Nat} {g : ai_g} {p : Nat × Nat} (hc : code pc = some (ins, nx, x1, x2)) (hi : ∀ k : en_K, en_step en_df oc f pc (ins, nx, x1, x2) ls (.inl v :: .inl i :: gx_r c :: st) t n sl k = en_aput 0 nx ls (.inl v :: .inl i :: gx_r c :: st) t n sl k) (hG : ai_HG ah_G t) (hg : ah_G c = some g) (hk : (g.1 && Nat.ble g.2.2.1 2147483648) = true) (hf : Nat.beq g.2.1 0 = true) (hb : i < g.2.2.1) (hr : ai_run g.2.2.2 i = some (.inl p)) (hv : ai_rh (.inl p) (.inl v)) (hp : stop nx = false) (h : ∀ t' : en_H, ai_HG ah_G t' → ai_hv t' c i = some (.inl v) → (∀ c' j, ¬ (c' = c ∧ j = i) → ai_hv t' c' j = ai_hv t c' j) → en_ex oc f code stop (nx, ls, st, t', n, sl) P) : en_ex oc f code stop (pc, ls, .inl v :: .inl i :: gx_r c :: st, t, n, sl) P :=
  gx_apv (d := 0) hc hi hG hg hk hf hb hr hv hp h
/-! calls -/
theorem gx_call1 {i x1 x2 : Nat} {as rest : List en_V} {v : en_V} {t' : en_H} (hc : code pc = some (.invokevirtual i, nx, x1, x2)) (htk : en_take (x2 % 16) st [] = some (gx_r 383 :: as, rest)) (hG : ai_HG ah_G t) (hq : Nat.beq 10 (x2 / 16) = true) (hsum : Nat.ble (en_sum rest) 8 = true) (hr : f x1 (gx_r 383 :: as) t n = some (some v, t', n, 0)) (hp : stop nx = false) (h : en_ex oc f code stop (nx, ls, v :: rest, t', n, sl) P) : en_ex oc f code stop (pc, ls, st, t, n, sl) P := by
  obtain ⟨vs, h1, h2, -⟩ := hG 383 ah_383 rfl
  exact ex_virt (q := (10, vs)) hc htk h1 hq hsum hr (Nat.le_refl _) hp h
theorem gx_call0 {i x1 x2 : Nat} {as rest : List en_V} {t' : en_H} (hc : code pc = some (.invokevirtual i, nx, x1, x2)) (htk : en_take (x2 % 16) st [] = some (gx_r 383 :: as, rest)) (hG : ai_HG ah_G t) (hq : Nat.beq 10 (x2 / 16) = true) (hsum : Nat.ble (en_sum rest) 8 = true) (hr : f x1 (gx_r 383 :: as) t n = some (none, t', n, 0)) (hp : stop nx = false) (h : en_ex oc f code stop (nx, ls, rest, t', n, sl) P) : en_ex oc f code stop (pc, ls, st, t, n, sl) P := by
  obtain ⟨vs, h1, h2, -⟩ := hG 383 ah_383 rfl
  exact ex_virt (q := (10, vs)) hc htk h1 hq hsum hr (Nat.le_refl _) hp h
/-! branches -/
noncomputable def gx_rel (c : ClassFile.Cond) (x y : Nat) : Prop := match c with
  | .eq => x = y
  | .ne => x ≠ y
  | .lt => x < y
  | .ge => y ≤ x
  | .gt => y < x
  | .le => x ≤ y
theorem gx_rel_t {c : ClassFile.Cond} {x y : Nat} (h : gx_rel c x y) : en_relp c x y = true := by
  cases c <;> simp only [gx_rel] at h <;> simp only [en_relp] <;> simp <;> omega
theorem gx_rel_f {c : ClassFile.Cond} {x y : Nat} (h : ¬ gx_rel c x y) : en_relp c x y = false := by
  cases c <;> simp only [gx_rel] at h <;> simp only [en_relp] <;> simp <;> omega
theorem gx_2t {c : ClassFile.Cond} {j : Int} {x1 x2 x y : Nat} (hc : code pc = some (.if_icmp c j, nx, x1, x2)) (hx : x < 2147483648) (hy : y < 2147483648) (hr : gx_rel c x y) (hp : stop x1 = false) (h : en_ex oc f code stop (x1, ls, st, t, n, sl) P) : en_ex oc f code stop (pc, ls, .inl y :: .inl x :: st, t, n, sl) P :=
  ex_cmp2 (r := true) hc (en_rel_t hx hy (gx_rel_t hr)) hp h
theorem gx_2f {c : ClassFile.Cond} {j : Int} {x1 x2 x y : Nat} (hc : code pc = some (.if_icmp c j, nx, x1, x2)) (hx : x < 2147483648) (hy : y < 2147483648) (hr : ¬ gx_rel c x y) (hp : stop nx = false) (h : en_ex oc f code stop (nx, ls, st, t, n, sl) P) : en_ex oc f code stop (pc, ls, .inl y :: .inl x :: st, t, n, sl) P :=
  ex_cmp2 (r := false) hc (en_rel_f hx hy (gx_rel_f hr)) hp h
theorem gx_1t {c : ClassFile.Cond} {j : Int} {x1 x2 x : Nat} (hc : code pc = some (.ifCond c j, nx, x1, x2)) (hx : x < 2147483648) (hr : gx_rel c x 0) (hp : stop x1 = false) (h : en_ex oc f code stop (x1, ls, st, t, n, sl) P) : en_ex oc f code stop (pc, ls, .inl x :: st, t, n, sl) P :=
  ex_cmp1 (r := true) hc (en_rel_t hx (by decide) (gx_rel_t hr)) hp h
theorem gx_1f {c : ClassFile.Cond} {j : Int} {x1 x2 x : Nat} (hc : code pc = some (.ifCond c j, nx, x1, x2)) (hx : x < 2147483648) (hr : ¬ gx_rel c x 0) (hp : stop nx = false) (h : en_ex oc f code stop (nx, ls, st, t, n, sl) P) : en_ex oc f code stop (pc, ls, .inl x :: st, t, n, sl) P :=
  ex_cmp1 (r := false) hc (en_rel_f hx (by decide) (gx_rel_f hr)) hp h
/-! arithmetic -/
theorem gx_isub {x1 x2 a b : Nat} (hc : code pc = some (.isub, nx, x1, x2)) (hab : b ≤ a) (ha : a < 2147483648) (hp : stop nx = false) (h : en_ex oc f code stop (nx, ls, .inl (a - b) :: st, t, n, sl) P) : en_ex oc f code stop (pc, ls, .inl b :: .inl a :: st, t, n, sl) P := by
  refine ex_go (S := (nx, ls, .inl (a - b) :: st, t, n, sl)) hc (fun k => ?_) hp h
  show (match en_ii en_isub (.inl a) (.inl b) with | some v => k nx ls (v :: st) t n sl | none => none) = _
  show (match (match en_isub a b with | some z => some (.inl z) | none => none) with | some v => k nx ls (v :: st) t n sl | none => none) = _
  rw [ha_sub hab ha]
theorem gx_imul {x1 x2 a b : Nat} (hc : code pc = some (.imul, nx, x1, x2)) (hab : a * b < 4294967296) (hp : stop nx = false) (h : en_ex oc f code stop (nx, ls, .inl (a * b) :: st, t, n, sl) P) : en_ex oc f code stop (pc, ls, .inl b :: .inl a :: st, t, n, sl) P := by
  refine ex_go (S := (nx, ls, .inl (a * b) :: st, t, n, sl)) hc (fun k => ?_) hp h
  show k nx ls (.inl (en_wrap (a * b)) :: st) t n sl = _
  unfold en_wrap
  rw [Nat.mod_eq_of_lt hab]
/-- a sum of any two ints -/
theorem gx_iaddw {x1 x2 a b : Nat} (hc : code pc = some (.iadd, nx, x1, x2)) (hp : stop nx = false) (h : ∀ z, z < 4294967296 → en_ex oc f code stop (nx, ls, .inl z :: st, t, n, sl) P) : en_ex oc f code stop (pc, ls, .inl b :: .inl a :: st, t, n, sl) P := by
  refine ex_go (S := (nx, ls, .inl (en_wrap (a + b)) :: st, t, n, sl)) hc (fun k => rfl) hp (h _ ?_)
  unfold en_wrap
  omega
/-- a difference of any two ints -/
theorem gx_isubw {x1 x2 a b : Nat} (hc : code pc = some (.isub, nx, x1, x2)) (hp : stop nx = false) (h : ∀ z, z < 4294967296 → en_ex oc f code stop (nx, ls, .inl z :: st, t, n, sl) P) : en_ex oc f code stop (pc, ls, .inl b :: .inl a :: st, t, n, sl) P := by
  refine ex_go (S := (nx, ls, .inl (nI a - nI b).toBitVec.toNat :: st, t, n, sl)) hc (fun k => rfl) hp (h _ ?_)
  exact (nI a - nI b).toBitVec.isLt
theorem gx_ishrw {x1 x2 a b : Nat} (hc : code pc = some (.ishr, nx, x1, x2)) (hp : stop nx = false) (h : ∀ z, z < 4294967296 → en_ex oc f code stop (nx, ls, .inl z :: st, t, n, sl) P) : en_ex oc f code stop (pc, ls, .inl b :: .inl a :: st, t, n, sl) P :=
  ex_go (S := (nx, ls, .inl (nI a >>> (nI b &&& 31)).toBitVec.toNat :: st, t, n, sl)) hc (fun k => rfl) hp (h _ (nI a >>> (nI b &&& 31)).toBitVec.isLt)
theorem gx_iand1 {x1 x2 a : Nat} (hc : code pc = some (.iand, nx, x1, x2)) (ha : a < 4294967296) (hp : stop nx = false) (h : ∀ z, z ≤ 1 → en_ex oc f code stop (nx, ls, .inl z :: st, t, n, sl) P) : en_ex oc f code stop (pc, ls, .inl 1 :: .inl a :: st, t, n, sl) P := by
  refine ex_go (S := (nx, ls, .inl (nI a &&& nI 1).toBitVec.toNat :: st, t, n, sl)) hc (fun k => rfl) hp (h _ ?_)
  obtain ⟨z, e, z1, z2, z3⟩ := ai_iand_ok (0, 4294967295) (2147483649, 2147483649) (2147483648, 2147483649) a 1 rfl ⟨ha, Nat.zero_le _, by unfold ai_off; omega⟩ ⟨by decide, by decide, by decide⟩
  have e2 : (some (.inl (nI a &&& nI 1).toBitVec.toNat) : Option en_V) = some (.inl z) := e
  rw [Sum.inl.inj (Option.some.inj e2)]
  unfold ai_off at z2 z3
  dsimp only at z2 z3
  omega
theorem gx_iinc {x1 x2 : Nat} {i k : Nat} {ins : Instr} {ls' : en_L} {x : Nat} (hc : code pc = some (ins, nx, x1, x2)) (hi : ∀ q : en_K, en_step en_df oc f pc (ins, nx, x1, x2) ls st t n sl q = q nx ((i, .inl (en_wrap (x + k))) :: ls') st t n sl) (hx : x + k < 4294967296) (hp : stop nx = false) (h : en_ex oc f code stop (nx, (i, .inl (x + k)) :: ls', st, t, n, sl) P) : en_ex oc f code stop (pc, ls, st, t, n, sl) P := by
  refine ex_go (S := (nx, (i, .inl (x + k)) :: ls', st, t, n, sl)) hc (fun q => ?_) hp h
  rw [hi]
  unfold en_wrap
  rw [Nat.mod_eq_of_lt hx]
theorem gx_lcmp {x1 x2 x y : Nat} (hc : code pc = some (.lcmp, nx, x1, x2)) (hp : stop nx = false) (h0 : (lN x).toInt = (lN y).toInt → en_ex oc f code stop (nx, ls, .inl 0 :: st, t, n, sl) P) (h1 : (lN y).toInt < (lN x).toInt → en_ex oc f code stop (nx, ls, .inl 1 :: st, t, n, sl) P) (h2 : (lN x).toInt < (lN y).toInt → en_ex oc f code stop (nx, ls, .inl 4294967295 :: st, t, n, sl) P) : en_ex oc f code stop (pc, ls, .inr (.inl y) :: .inr (.inl x) :: st, t, n, sl) P := by
  refine ex_go (S := (nx, ls, .inl (lg_cmp (lN x) (lN y)).toBitVec.toNat :: st, t, n, sl)) hc (fun _ => rfl) hp ?_
  unfold lg_cmp
  by_cases c1 : lN x > lN y
  · rw [if_pos c1]
    exact h1 (Int64.lt_iff_toInt_lt.mp c1)
  · rw [if_neg c1]
    by_cases c2 : lN x = lN y
    · rw [if_pos c2]
      exact h0 (by rw [c2])
    · rw [if_neg c2]
      refine h2 ?_
      have c1 : ¬ lN y < lN x := c1
      rw [Int64.lt_iff_toInt_lt] at c1
      have c3 : (lN x).toInt ≠ (lN y).toInt := fun e => c2 (Int64.toInt_inj.mp e)
      omega
theorem gx_i2l {x : Nat} (hx : x < 2147483648) : (lN (nI x).toInt64.toBitVec.toNat).toInt = (x : Int) := by
  rw [en_lN_tn, Int32.toInt_toInt64]
  have := en_nI_toInt x
  omega
theorem gx_l2i {m lo hi : Nat} (h2 : hi < 2147483648) (h3 : (lo : Int) ≤ (lN m).toInt) (h4 : (lN m).toInt ≤ (hi : Int)) : lo ≤ (lN m).toInt32.toBitVec.toNat ∧ (lN m).toInt32.toBitVec.toNat ≤ hi := by
  obtain ⟨z1, z2⟩ := ai_off_32 (lN m).toInt32
  rw [Int64.toInt_toInt32] at z2
  unfold ai_off at z2
  rw [Int.bmod_def] at z2
  split at z2 <;> omega
theorem gx_retb {v : Nat} (hc : code pc = some (.ireturn, nx, 1, 0)) (hb : v ≤ 1) (h : P (.inl (some (.inl v), t, n, sl))) : en_ex oc f code stop (pc, ls, [.inl v], t, n, sl) P := by
  refine ex_ret (r := (some (.inl v), t, n, sl)) hc (fun k => ?_) h
  show (bif Nat.beq (en_kd (Sum.inl v : en_V)) 0 && (bif Nat.beq 1 1 then en_fit 3 (Sum.inl v : en_V) else true) then (some (Sum.inl (some (Sum.inl v), t, n, sl)) : Option en_O) else none) = _
  rw [show en_fit 3 (.inl v) = true from Nat.ble_eq_true_of_le hb]
  rfl
/-! what the slots hold -/
theorem gx_sl {c i : Nat} {g : ai_g} {h : ai_h} (hG : ai_HG ah_G t) (hg : ah_G c = some g) (hi : i < g.2.2.1) (hr : ai_run g.2.2.2 i = some h) : ∃ v, ai_hv t c i = some v ∧ ai_rh h v := by
  obtain ⟨vs, h1, h2, h3⟩ := hG c g hg
  obtain ⟨v, hv⟩ : ∃ v, vs[i]? = some v := ⟨vs[i]'(by first | decide | omega), List.getElem?_eq_getElem (by first | decide | omega)⟩
  obtain ⟨h', k1, k2⟩ := h3 i v hv
  rw [hr] at k1
  cases k1
  exact ⟨v, by rw [ai_hv_mk h1, hv], k2⟩
theorem gx_in {c i lo hi : Nat} {g : ai_g} (hG : ai_HG ah_G t) (hg : ah_G c = some g) (hb : Nat.blt i g.2.2.1 = true) (hr : ai_run g.2.2.2 i = some (.inl (lo + 2147483648, hi + 2147483648))) (hh : Nat.blt hi 2147483648 = true) : ∃ m, ai_hv t c i = some (.inl m) ∧ lo ≤ m ∧ m ≤ hi := by
  have hh : hi < 2147483648 := Nat.le_of_ble_eq_true hh
  obtain ⟨v, k1, m, rfl, m1, m2, m3⟩ := gx_sl hG hg (Nat.le_of_ble_eq_true hb) hr
  refine ⟨m, k1, ?_, ?_⟩ <;> unfold ai_off at m2 m3 <;> dsimp only at m2 m3 <;> omega
theorem gx_inb {c i lo hi : Nat} {g : ai_g} {p : Nat × Nat} (hG : ai_HG ah_G t) (hg : ah_G c = some g) (hb : i < g.2.2.1) (hr : ai_run g.2.2.2 i = some (.inl p)) (h1 : lo + 2147483648 ≤ p.1) (h2 : p.2 ≤ hi + 2147483648) (hh : Nat.blt hi 2147483648 = true) : ∃ m, ai_hv t c i = some (.inl m) ∧ lo ≤ m ∧ m ≤ hi := by
  have hh : hi < 2147483648 := Nat.le_of_ble_eq_true hh
  obtain ⟨v, k1, m, rfl, m1, m2, m3⟩ := gx_sl hG hg hb hr
  refine ⟨m, k1, ?_, ?_⟩ <;> unfold ai_off at m2 m3 <;> omega
theorem gx_any {c i : Nat} {g : ai_g} {p : Nat × Nat} (hG : ai_HG ah_G t) (hg : ah_G c = some g) (hb : Nat.blt i g.2.2.1 = true) (hr : ai_run g.2.2.2 i = some (.inl p)) : ∃ m, ai_hv t c i = some (.inl m) ∧ m < 4294967296 := by
  obtain ⟨v, k1, m, rfl, m1, m2, m3⟩ := gx_sl hG hg (Nat.le_of_ble_eq_true hb) hr
  exact ⟨m, k1, m1⟩
theorem gx_full {v : Nat} (h : v < 4294967296) : ai_rh (.inl (0, 4294967295)) (.inl v) := ⟨v, rfl, h, Nat.zero_le _, by unfold ai_off; omega⟩
theorem gx_blt {i m : Nat} (h : i < m) : Nat.blt i m = true := Nat.ble_eq_true_of_le h
theorem gx_nlt {i m : Nat} (h : m ≤ i) : Nat.blt i m = false := Bool.eq_false_iff.mpr (fun z => by have : i < m := Nat.le_of_ble_eq_true z; omega)
theorem gx_run1 {L i : Nat} {h : ai_h} {r : List (Nat × ai_h)} (hi : i < L) : ai_run ((L, h) :: r) i = some h := by
  show (bif Nat.blt i L then some h else ai_run r i) = _
  rw [gx_blt hi]
  rfl
theorem gx_run2 {L i : Nat} {h : ai_h} {r : List (Nat × ai_h)} (hi : L ≤ i) : ai_run ((L, h) :: r) i = ai_run r i := by
  show (bif Nat.blt i L then some h else ai_run r i) = _
  rw [gx_nlt hi]
  rfl
theorem gx_sort {i : Nat} (hG : ai_HG ah_G t) (hi : i < 1002) : ∃ m, ai_hv t 385 i = some (.inl m) ∧ m ≤ 4 ∧ (1000 ≤ i → m = 0) := by
  by_cases c : i < 1000
  · obtain ⟨m, k, -, h⟩ := gx_inb (c := 385) (lo := 0) (hi := 4) hG rfl hi (gx_run1 c) (by decide) (by decide) rfl
    exact ⟨m, k, h, fun z => by omega⟩
  · obtain ⟨m, k, -, h⟩ := gx_inb (c := 385) (lo := 0) (hi := 0) hG rfl hi ((gx_run2 (by first | decide | omega)).trans (gx_run1 hi)) (by decide) (by decide) rfl
    exact ⟨m, k, by omega, fun z => by omega⟩
theorem gx_place {i : Nat} (hG : ai_HG ah_G t) (hi : i < 1002) : ∃ m, ai_hv t 386 i = some (.inl m) ∧ m ≤ 1000 := by
  obtain ⟨m, k, -, h⟩ := gx_inb (c := 386) (lo := 0) (hi := 1000) hG rfl hi (gx_run1 hi) (by decide) (by decide) rfl
  exact ⟨m, k, h⟩
theorem gx_nof_394 {i : Nat} (hG : ai_HG ah_G t) (hi : i < 24) : ∃ m, ai_hv t 394 i = some (.inl m) ∧ m ≤ 20 := by
  obtain ⟨m, k, -, h⟩ := gx_inb (c := 394) (lo := 0) (hi := 20) hG rfl hi (gx_run1 hi) (by decide) (by decide) rfl
  exact ⟨m, k, h⟩
theorem gx_nof_395 {i : Nat} (hG : ai_HG ah_G t) (hi : i < 24) : ∃ m, ai_hv t 395 i = some (.inl m) ∧ m ≤ 20 := by
  obtain ⟨m, k, -, h⟩ := gx_inb (c := 395) (lo := 0) (hi := 20) hG rfl hi (gx_run1 hi) (by decide) (by decide) rfl
  exact ⟨m, k, h⟩
theorem gx_long {c i L : Nat} {g : ai_g} (hG : ai_HG ah_G t) (hg : ah_G c = some g) (hi : i < g.2.2.1) (hr : ai_run g.2.2.2 i = some (.inr (.inl L))) : ∃ m, ai_hv t c i = some (.inr (.inl m)) := by
  obtain ⟨v, k1, m, rfl⟩ := gx_sl hG hg hi hr
  exact ⟨m, k1⟩
theorem gx_long_387 {i : Nat} (hG : ai_HG ah_G t) (hi : i < 1002) : ∃ m, ai_hv t 387 i = some (.inr (.inl m)) := gx_long hG rfl hi (gx_run1 hi)
theorem gx_long_388 {i : Nat} (hG : ai_HG ah_G t) (hi : i < 42) : ∃ m, ai_hv t 388 i = some (.inr (.inl m)) := gx_long hG rfl hi (gx_run1 hi)
theorem gx_long_392 {i : Nat} (hG : ai_HG ah_G t) (hi : i < 24) : ∃ m, ai_hv t 392 i = some (.inr (.inl m)) := gx_long hG rfl hi (gx_run1 hi)
theorem gx_long_393 {i : Nat} (hG : ai_HG ah_G t) (hi : i < 24) : ∃ m, ai_hv t 393 i = some (.inr (.inl m)) := gx_long hG rfl hi (gx_run1 hi)
theorem gx_lrun_387 (i : Nat) (hi : i < 1002) : ai_run ah_387.2.2.2 i = some (.inr (.inl 0)) := gx_run1 hi
theorem gx_lrun_392 (i : Nat) (hi : i < 24) : ai_run ah_392.2.2.2 i = some (.inr (.inl 0)) := gx_run1 hi
theorem gx_lrun_393 (i : Nat) (hi : i < 24) : ai_run ah_393.2.2.2 i = some (.inr (.inl 0)) := gx_run1 hi
noncomputable def gx_chk (rs : List (Nat × ai_h)) (b st lo hi k : Nat) : Bool := match ai_run rs (b + st * k) with
  | some (.inl p) => Nat.beq p.1 lo && Nat.beq p.2 hi
  | _ => false
theorem gx_at {rs : List (Nat × ai_h)} {b st lo hi m i : Nat} (h : ha_all (gx_chk rs b st lo hi) m = true) (k : Nat) (hk : k < m) (e : i = b + st * k) : ai_run rs i = some (.inl (lo, hi)) := by
  have h2 := ha_all_ok h k hk
  unfold gx_chk at h2
  rw [← e] at h2
  split at h2
  · rename_i p hp
    rw [Bool.and_eq_true] at h2
    rw [hp, show p = (lo, hi) from Prod.ext (Nat.eq_of_beq_eq_true h2.1) (Nat.eq_of_beq_eq_true h2.2)]
  · cases h2
theorem px_run_flow {i : Nat} (k : Nat) (hk : k < 64) (e : i = 172 + 1 * k) : ai_run ah_389.2.2.2 i = some (.inl (2147483648, 2147483652)) := gx_at (by decide +kernel) k hk e
theorem px_run_thing {i : Nat} (k : Nat) (hk : k < 18) (e : i = 236 + 1 * k) : ai_run ah_389.2.2.2 i = some (.inl (2147483648, 2147483655)) := gx_at (by decide +kernel) k hk e
theorem px_run_lead0 {i : Nat} (k : Nat) (hk : k < 6) (e : i = 254 + 4 * k) : ai_run ah_389.2.2.2 i = some (.inl (2147483648, 2147483711)) := gx_at (by decide +kernel) k hk e
theorem px_run_lead1 {i : Nat} (k : Nat) (hk : k < 6) (e : i = 255 + 4 * k) : ai_run ah_389.2.2.2 i = some (.inl (2147483648, 2147483678)) := gx_at (by decide +kernel) k hk e
theorem px_run_lead2 {i : Nat} (k : Nat) (hk : k < 6) (e : i = 256 + 4 * k) : ai_run ah_389.2.2.2 i = some (.inl (2147483648, 2147483677)) := gx_at (by decide +kernel) k hk e
theorem px_run_lead3 {i : Nat} (k : Nat) (hk : k < 6) (e : i = 257 + 4 * k) : ai_run ah_389.2.2.2 i = some (.inl (2147483648, 2147483678)) := gx_at (by decide +kernel) k hk e
theorem px_run_crew0 {i : Nat} (k : Nat) (hk : k < 2) (e : i = 278 + 3 * k) : ai_run ah_389.2.2.2 i = some (.inl (2147483648, 2147483653)) := gx_at (by decide +kernel) k hk e
theorem px_run_crew1 {i : Nat} (k : Nat) (hk : k < 2) (e : i = 279 + 3 * k) : ai_run ah_389.2.2.2 i = some (.inl (2147483648, 2147483678)) := gx_at (by decide +kernel) k hk e
theorem px_run_crew2 {i : Nat} (k : Nat) (hk : k < 2) (e : i = 280 + 3 * k) : ai_run ah_389.2.2.2 i = some (.inl (2147483648, 2147493647)) := gx_at (by decide +kernel) k hk e
theorem px_run_gap {i : Nat} (k : Nat) (hk : k < 10) (e : i = 284 + 1 * k) : ai_run ah_389.2.2.2 i = some (.inl (2147483648, 2147483658)) := gx_at (by decide +kernel) k hk e
theorem px_run_sign {i : Nat} (k : Nat) (hk : k < 6) (e : i = 294 + 1 * k) : ai_run ah_389.2.2.2 i = some (.inl (2147483648, 2147483747)) := gx_at (by decide +kernel) k hk e
theorem px_run_load0 {i : Nat} (k : Nat) (hk : k < 6) (e : i = 300 + 2 * k) : ai_run ah_389.2.2.2 i = some (.inl (2147483648, 2147484647)) := gx_at (by decide +kernel) k hk e
theorem px_run_load1 {i : Nat} (k : Nat) (hk : k < 6) (e : i = 301 + 2 * k) : ai_run ah_389.2.2.2 i = some (.inl (2147483648, 2147483657)) := gx_at (by decide +kernel) k hk e
theorem px_run_law {i : Nat} (k : Nat) (hk : k < 3) (e : i = 169 + 1 * k) : ai_run ah_389.2.2.2 i = some (.inl (2147483647, 2147484747)) := gx_at (by decide +kernel) k hk e
/-! the parser's place and its fault -/
noncomputable def px_S (t : en_H) (a f : Nat) : Prop := ai_HG ah_G t ∧ ai_hv t 383 7 = some (.inl a) ∧ ai_hv t 383 8 = some (.inl f) ∧ a ≤ 1000 ∧ f ≤ 20000
noncomputable def px_F (t t' : en_H) : Prop := ∀ c i, ¬ (c = 383 ∧ (i = 7 ∨ i = 8)) → ai_hv t' c i = ai_hv t c i
noncomputable def px_sg (t : en_H) (a f w : Nat) : Prop := f = 0 ∧ ai_hv t 385 a = some (.inl 3) ∧ ∃ m, ai_hv t 387 a = some (.inr (.inl m)) ∧ (lN m).toInt = (lN (nI w).toInt64.toBitVec.toNat).toInt
noncomputable def px_wd (t : en_H) (a f w : Nat) : Prop := f = 0 ∧ ai_hv t 385 a = some (.inl 1) ∧ ∃ m m', ai_hv t 387 a = some (.inr (.inl m)) ∧ ai_hv t 388 w = some (.inr (.inl m')) ∧ (lN m).toInt = (lN m').toInt
theorem px_sg_kept {t t' : en_H} {a f w : Nat} (h : px_F t t') : px_sg t' a f w ↔ px_sg t a f w := by
  unfold px_sg
  rw [h 385 a (by first | decide | omega), h 387 a (by first | decide | omega)]
theorem px_F.rf (t : en_H) : px_F t t := fun _ _ _ => rfl
end GX1
