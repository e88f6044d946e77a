section SZK
variable {oc : Option (List en_V)} {f : en_F} {code : Nat → Option en_I} {stop : Nat → Bool} {P : en_O → Prop}
variable {pc nx : Nat} {ls : en_L} {st : List en_V} {t : en_H} {n sl : Nat}
theorem zk_n0 {y : Nat} (hy : y < 2147483648) (h0 : 0 < y) : ¬ nI y = 0 := by
  intro h
  have a := ai_off_int y
  rw [h, ai_off_nn hy] at a
  have z : (0 : Int32).toInt = 0 := by decide
  rw [z] at a
  omega
theorem zk_div {x y : Nat} (hx : x < 2147483648) (hy : y < 2147483648) (h0 : 0 < y) : en_idiv x y = some (x / y) := by
  unfold en_idiv
  rw [if_neg (zk_n0 hy h0)]
  obtain ⟨z1, z2⟩ := ai_off_32 (nI x / nI y)
  rw [ai_div_nn hx hy h0] at z2
  have hle : x / y ≤ x := Nat.div_le_self x y
  generalize x / y = k at hle z2 ⊢
  generalize (nI x / nI y).toBitVec.toNat = w at z1 z2 ⊢
  unfold ai_off at z2
  have : w = k := by omega
  rw [this]
theorem gx_idivn {x1 x2 a b : Nat} (hc : code pc = some (.idiv, nx, x1, x2)) (ha : a < 2147483648) (hb : b < 2147483648) (h0 : 0 < b) (hp : stop nx = false) (h : en_ex oc f code stop (nx, ls, .inl (a / b) :: st, t, n, sl) P) : en_ex oc f code stop (pc, ls, .inl b :: .inl a :: st, t, n, sl) P := by
  refine ex_go (S := (nx, ls, .inl (a / b) :: st, t, n, sl)) hc (fun k => ?_) hp h
  show (match (match en_idiv a b with | some z => some (.inl z) | none => none) with | some v => k nx ls (v :: st) t n sl | none => none) = _
  rw [zk_div ha hb h0]
theorem zk_max {a b : Nat} (ha : a < 2147483648) (hb : b < 2147483648) : en_imax a b = some (max a b) := by
  unfold en_imax
  by_cases h : a < b
  · rw [if_pos (by rw [ai_lt_off, ai_off_nn ha, ai_off_nn hb]; omega), ai_tn b (by first | decide | omega), Nat.max_eq_right (by first | decide | omega)]
  · rw [if_neg (by rw [ai_lt_off, ai_off_nn ha, ai_off_nn hb]; omega), ai_tn a (by first | decide | omega), Nat.max_eq_left (by first | decide | omega)]
theorem zk_min {a b : Nat} (ha : a < 2147483648) (hb : b < 2147483648) : en_imin a b = some (min a b) := by
  unfold en_imin
  by_cases h : b < a
  · rw [if_pos (by rw [ai_lt_off, ai_off_nn ha, ai_off_nn hb]; omega), ai_tn b (by first | decide | omega), Nat.min_eq_right (by first | decide | omega)]
  · rw [if_neg (by rw [ai_lt_off, ai_off_nn ha, ai_off_nn hb]; omega), ai_tn a (by first | decide | omega), Nat.min_eq_left (by first | decide | omega)]
theorem zk_maxn {b : Nat} (h1 : 2147483648 ≤ b) (h2 : b < 4294967296) : en_imax 0 b = some 0 := by
  unfold en_imax
  rw [if_neg (by rw [ai_lt_off, ai_off_nn (show 0 < 2147483648 by decide)]; unfold ai_off; omega), ai_tn 0 (by decide)]
theorem gx_imm {i a b m : Nat} {x1 x2 : Nat} (hc : code pc = some (.invokestatic i, nx, x1, x2)) (h1 : Nat.beq x1 9991 = true) (hm : en_imax a b = some m) (hsum : Nat.ble (en_sum st) 8 = true) (hp : stop nx = false) (h : en_ex oc f code stop (nx, ls, .inl m :: st, t, n, sl) P) : en_ex oc f code stop (pc, ls, .inl b :: .inl a :: st, t, n, sl) P := by
  refine ex_go (S := (nx, ls, .inl m :: st, t, n, sl)) hc (fun k => ?_) hp h
  show (bif Nat.beq x1 9991 then en_mm (en_ii en_imax) nx ls (.inl b :: .inl a :: st) t n sl k else bif Nat.beq x1 9992 then en_mm (en_ii en_imin) nx ls (.inl b :: .inl a :: st) t n sl k else en_inv (fun _ => true) f x1 x2 nx ls (.inl b :: .inl a :: st) t n sl k) = _
  rw [h1]
  show (bif Nat.ble (en_sum st) 8 then (match (match en_imax a b with | some z => (some (Sum.inl z) : Option en_V) | none => none) with | some v => k nx ls (v :: st) t n sl | none => none) else none) = _
  rw [hsum, hm]
  rfl
theorem gx_inn {i a b m : Nat} {x1 x2 : Nat} (hc : code pc = some (.invokestatic i, nx, x1, x2)) (h0 : Nat.beq x1 9991 = false) (h1 : Nat.beq x1 9992 = true) (hm : en_imin a b = some m) (hsum : Nat.ble (en_sum st) 8 = true) (hp : stop nx = false) (h : en_ex oc f code stop (nx, ls, .inl m :: st, t, n, sl) P) : en_ex oc f code stop (pc, ls, .inl b :: .inl a :: st, t, n, sl) P := by
  refine ex_go (S := (nx, ls, .inl m :: st, t, n, sl)) hc (fun k => ?_) hp h
  show (bif Nat.beq x1 9991 then en_mm (en_ii en_imax) nx ls (.inl b :: .inl a :: st) t n sl k else bif Nat.beq x1 9992 then en_mm (en_ii en_imin) nx ls (.inl b :: .inl a :: st) t n sl k else en_inv (fun _ => true) f x1 x2 nx ls (.inl b :: .inl a :: st) t n sl k) = _
  rw [h0, h1]
  show (bif Nat.ble (en_sum st) 8 then (match (match en_imin a b with | some z => (some (Sum.inl z) : Option en_V) | none => none) with | some v => k nx ls (v :: st) t n sl | none => none) else none) = _
  rw [hsum, hm]
  rfl
theorem gx_isubn {x1 x2 a b : Nat} (hc : code pc = some (.isub, nx, x1, x2)) (hab : a < b) (hb : b < 2147483648) (hp : stop nx = false) (h : ∀ z, 2147483648 ≤ z → z < 4294967296 → z + b = a + 4294967296 → en_ex oc f code stop (nx, ls, .inl z :: st, t, n, sl) P) : en_ex oc f code stop (pc, ls, .inl b :: .inl a :: st, t, n, sl) P := by
  refine ex_go (S := (nx, ls, .inl (nI a - nI b).toBitVec.toNat :: st, t, n, sl)) hc (fun k => rfl) hp ?_
  obtain ⟨z1, z2⟩ := ai_off_32 (nI a - nI b)
  have e1 : (nI a - nI b).toInt = Int.bmod ((nI a).toInt - (nI b).toInt) 4294967296 := Int32.toInt_sub _ _
  have a1 := ai_off_int a
  have a2 := ai_off_int b
  rw [ai_off_nn (by first | decide | omega)] at a1 a2
  rw [e1, Int.bmod_def] at z2
  unfold ai_off at z2
  exact h _ (by split at z2 <;> omega) z1 (by split at z2 <;> omega)
/-- counting down: one less, below 0 in the end -/
noncomputable def gz : Nat → Nat
  | 0 => 4294967295
  | k + 1 => k
theorem gz_eq {k : Nat} (h : k < 4294967296) : en_wrap (k + 4294967295) = gz k := by
  cases k with
  | zero => rfl
  | succ k =>
    show (k + 1 + 4294967295) % 4294967296 = k
    omega
theorem gz_lt {k : Nat} (h : k < 2147483648) : gz k < 4294967296 := by
  cases k with
  | zero => show 4294967295 < _; decide
  | succ k => show k < _; omega
theorem gx_iincz {x1 x2 : Nat} {i : Nat} {ins : Instr} {ls' : en_L} {x : Nat} (hc : code pc = some (ins, nx, x1, x2)) (hi : ∀ q : en_K, en_step en_df oc f pc (ins, nx, x1, x2) ls st t n sl q = q nx ((i, .inl (en_wrap (x + 4294967295))) :: ls') st t n sl) (hx : x < 4294967296) (hp : stop nx = false) (h : en_ex oc f code stop (nx, (i, .inl (gz x)) :: ls', st, t, n, sl) P) : en_ex oc f code stop (pc, ls, st, t, n, sl) P := by
  refine ex_go (S := (nx, (i, .inl (gz x)) :: ls', st, t, n, sl)) hc (fun q => ?_) hp h
  rw [hi, gz_eq hx]
theorem zk_sub1 {a : Nat} (h : a < 2147483648) : en_isub a 1 = some (gz a) := by
  cases a with
  | zero => decide
  | succ k =>
    rw [ha_sub (by first | decide | omega) h]
    rfl
theorem gx_isubz {x1 x2 a : Nat} (hc : code pc = some (.isub, nx, x1, x2)) (ha : a < 2147483648) (hp : stop nx = false) (h : en_ex oc f code stop (nx, ls, .inl (gz a) :: st, t, n, sl) P) : en_ex oc f code stop (pc, ls, .inl 1 :: .inl a :: st, t, n, sl) P := by
  refine ex_go (S := (nx, ls, .inl (gz a) :: st, t, n, sl)) hc (fun k => ?_) hp h
  show (match (match en_isub a 1 with | some z => some (.inl z) | none => none) with | some v => k nx ls (v :: st) t n sl | none => none) = _
  rw [zk_sub1 ha]
theorem gx_inn2 {c : ClassFile.Cond} {x y : Nat} {r : Bool} (h1 : 2147483648 ≤ x) (h2 : x < 4294967296) (hy : y < 2147483648) (hr : ai_rel c (0, 2147483647) (2147483648, 4294967295) = some r) : en_rel c (.inl x) (.inl y) = some r := by
  obtain ⟨b, hb, h3⟩ := ai_rel_ok (c := c) (p := (0, 2147483647)) (q := (2147483648, 4294967295)) (x := x) (y := y) ⟨h2, Nat.zero_le _, by unfold ai_off; show _ ≤ 2147483647; omega⟩ ⟨by omega, by unfold ai_off; show 2147483648 ≤ _; omega, by unfold ai_off; show _ ≤ 4294967295; omega⟩
  rw [hb, h3 r hr]
theorem gx_2nt {c : ClassFile.Cond} {j : Int} {x1 x2 x y : Nat} (hc : code pc = some (.if_icmp c j, nx, x1, x2)) (h1 : 2147483648 ≤ x) (h2 : x < 4294967296) (hy : y < 2147483648) (hr : ai_rel c (0, 2147483647) (2147483648, 4294967295) = some true) (hp : stop x1 = false) (h : en_ex oc f code stop (x1, ls, st, t, n, sl) P) : en_ex oc f code stop (pc, ls, .inl y :: .inl x :: st, t, n, sl) P :=
  ex_cmp2 (r := true) hc (gx_inn2 h1 h2 hy hr) hp h
theorem gx_2nf {c : ClassFile.Cond} {j : Int} {x1 x2 x y : Nat} (hc : code pc = some (.if_icmp c j, nx, x1, x2)) (h1 : 2147483648 ≤ x) (h2 : x < 4294967296) (hy : y < 2147483648) (hr : ai_rel c (0, 2147483647) (2147483648, 4294967295) = some false) (hp : stop nx = false) (h : en_ex oc f code stop (nx, ls, st, t, n, sl) P) : en_ex oc f code stop (pc, ls, .inl y :: .inl x :: st, t, n, sl) P :=
  ex_cmp2 (r := false) hc (gx_inn2 h1 h2 hy hr) hp h
theorem gx_decz {ins : Instr} {x1 x2 i a : Nat} (hc : code pc = some (ins, nx, x1, x2)) (hi : ∀ k : en_K, en_step en_df oc f pc (ins, nx, x1, x2) ls st t n sl k = en_iinc i 4294967295 nx ls st t n sl k) (hl : en_ld ls i = some (.inl a)) (hy : a < 4294967296) (hp : stop nx = false) (h : ∀ ls' : en_L, en_ld ls' i = some (.inl (gz a)) → (∀ j w, en_ld ls j = some w → en_keep1 i (j, w) = true → en_ld ls' j = some w) → en_ex oc f code stop (nx, ls', st, t, n, sl) P) : en_ex oc f code stop (pc, ls, st, t, n, sl) P := by
  refine ex_go (S := (nx, (i, .inl (gz a)) :: en_flt (en_keep1 i) ls, st, t, n, sl)) hc (fun k => ?_) hp (h _ ?_ ?_)
  · rw [hi]
    unfold en_iinc
    rw [hl]
    dsimp only
    rw [gz_eq hy]
  · show (bif Nat.beq i i then some (Sum.inl (gz a) : en_V) else _) = _
    rw [Nat.beq_refl]
    rfl
  · intro j w h1 h2
    show (bif Nat.beq i j then some (Sum.inl (gz a) : en_V) else en_ld (en_flt (en_keep1 i) ls) j) = some w
    cases hq : Nat.beq i j with
    | true =>
      have e := Nat.eq_of_beq_eq_true hq
      subst e
      have h2 : (bif Nat.beq i i then false else _) = true := h2
      rw [Nat.beq_refl] at h2
      cases h2
    | false => exact en_ld_flt h1 h2
/-! longs -/
theorem zk_lv {v : Int64} {r : Nat} (h : v.toInt = (r : Int)) : v.toBitVec.toNat = r := by
  have h4 := Int64.toInt_toBitVec v
  rw [BitVec.toInt_eq_toNat_cond] at h4
  have h5 := v.toBitVec.isLt
  split at h4 <;> omega
theorem zk_lN {a : Nat} (h : a < 9223372036854775808) : (lN a).toInt = (a : Int) := by
  have h4 := Int64.toInt_toBitVec (lN a)
  rw [sp_lN_bv, BitVec.toInt_eq_toNat_cond, BitVec.toNat_ofNat] at h4
  have h5 : a % 2 ^ 64 = a := Nat.mod_eq_of_lt (by first | decide | omega)
  rw [h5] at h4
  split at h4 <;> omega
theorem zk_ldiv {x y : Nat} (hx : x < 9223372036854775808) (hy : y < 9223372036854775808) (h0 : 0 < y) : en_ldiv x y = some (x / y) := by
  have h9 : ¬ lN y = 0 := by
    intro h
    have a := zk_lN hy
    rw [h] at a
    have z : (0 : Int64).toInt = 0 := by decide
    rw [z] at a
    omega
  unfold en_ldiv
  rw [if_neg h9]
  have h : (lN x / lN y).toInt = Int.bmod ((lN x).toInt.tdiv (lN y).toInt) 18446744073709551616 := Int64.toInt_div _ _
  rw [zk_lN hx, zk_lN hy, ← Int.ofNat_tdiv] at h
  have hle : x / y ≤ x := Nat.div_le_self x y
  have h2 : (lN x / lN y).toInt = ((x / y : Nat) : Int) := by
    rw [h]
    generalize x / y = k at hle
    rw [Int.bmod_def]
    omega
  rw [zk_lv h2]
theorem gx_ldivn {x1 x2 a b : Nat} (hc : code pc = some (.ldiv, nx, x1, x2)) (ha : a < 9223372036854775808) (hb : b < 9223372036854775808) (h0 : 0 < b) (hp : stop nx = false) (h : en_ex oc f code stop (nx, ls, .inr (.inl (a / b)) :: st, t, n, sl) P) : en_ex oc f code stop (pc, ls, .inr (.inl b) :: .inr (.inl a) :: st, t, n, sl) P := by
  refine ex_go (S := (nx, ls, .inr (.inl (a / b)) :: st, t, n, sl)) hc (fun k => ?_) hp h
  show (match (match en_ldiv a b with | some z => some (.inr (.inl z)) | none => none) with | some v => k nx ls (v :: st) t n sl | none => none) = _
  rw [zk_ldiv ha hb h0]
theorem zk_l2i {x : Nat} (h : x < 2147483648) : (lN x).toInt32.toBitVec.toNat = x := by
  have h1 := zk_lN (show x < 9223372036854775808 by omega)
  have := gx_l2i (m := x) (lo := x) (hi := x) h (by first | decide | omega) (by first | decide | omega)
  omega
end SZK
section SWA
theorem rh_one {c : Nat} {v : en_V} (h : ai_rh (.inr (.inr [c + 100])) v) : v = gx_r c := by
  obtain ⟨c', hc, h⟩ := h
  have hc : c' = c + 100 := List.mem_singleton.mp hc
  subst hc
  rcases h with ⟨h, -⟩ | ⟨h, -⟩ | ⟨j, h1, h2, -⟩ | ⟨k, h1, h2⟩ | ⟨s, k, h1, h2, -⟩
  · omega
  · omega
  · omega
  · rw [h2, show k = c by omega]
  · omega
theorem gx_slr {t : en_H} {c i k : Nat} {g : ai_g} (hG : ai_HG ah_G t) (hg : ah_G c = some g) (hi : i < g.2.2.1) (hr : ai_run g.2.2.2 i = some (.inr (.inr [k + 100]))) : ai_hv t c i = some (gx_r k) := by
  obtain ⟨v, h1, h2⟩ := gx_sl hG hg hi hr
  rw [h1, rh_one h2]
/-- the rows of the jumps, each in its place -/
noncomputable def JRw (t : en_H) (p : Nat) : Prop := ∀ i, i < 16 → ai_hv t (p + 49) i = some (gx_r (p + 50 + i))
theorem pc_isPlace191 (d n : Nat) {t0 : en_H} {x y o e : Nat} (g0 : ai_HG ah_G t0) (k0 : ai_hv t0 191 0 = some (.inl o)) (k1 : ai_hv t0 191 1 = some (.inl e)) (hxx : x < 4294967296) (hyy : y < 4294967296) (ho : o ≤ 8) (he : e ≤ 8) : ∃ r, en_u (d + 1) 18 [gx_r 191, .inl x, .inl y] t0 n = some r ∧ ∃ b, r = (some (.inl b), t0, n, 0) ∧ (b ≤ 1 ∧ (b = 1 ↔ x < o ∧ y < e)) := by
  refine en_u_ex rfl ?_
  show en_ex _ _ _ _ (0, [(0, gx_r 191), (1, .inl x), (2, .inl y)], [], t0, n, 0) _
  by_cases hx : 2147483648 ≤ x
  · refine ex_go (S := (1, [(0, gx_r 191), (1, .inl x), (2, .inl y)], [.inl x], t0, n, 0)) rfl (fun _ => rfl) rfl ?_
    refine gx_negt (c := .lt) rfl (by first | decide | omega) (by first | decide | omega) rfl rfl ?_
    refine ex_go (S := (29, [(0, gx_r 191), (1, .inl x), (2, .inl y)], [.inl 0], t0, n, 0)) rfl (fun _ => rfl) rfl ?_
    refine ex_ret (r := (some (.inl 0), t0, n, 0)) rfl (fun _ => rfl) ?_
    exact ⟨_, rfl, 0, rfl, by omega⟩
  · by_cases hy : 2147483648 ≤ y
    · refine ex_go (S := (1, [(0, gx_r 191), (1, .inl x), (2, .inl y)], [.inl x], t0, n, 0)) rfl (fun _ => rfl) rfl ?_
      by_cases hc1 : x < 0
      · refine gx_1t (c := .lt) rfl (by first | decide | omega) hc1 rfl ?_
        refine ex_go (S := (29, [(0, gx_r 191), (1, .inl x), (2, .inl y)], [.inl 0], t0, n, 0)) rfl (fun _ => rfl) rfl ?_
        refine ex_ret (r := (some (.inl 0), t0, n, 0)) rfl (fun _ => rfl) ?_
        exact ⟨_, rfl, 0, rfl, by omega⟩
      · refine gx_1f (c := .lt) rfl (by first | decide | omega) hc1 rfl ?_
        refine ex_go (S := (5, [(0, gx_r 191), (1, .inl x), (2, .inl y)], [.inl x], t0, n, 0)) rfl (fun _ => rfl) rfl ?_
        refine ex_go (S := (6, [(0, gx_r 191), (1, .inl x), (2, .inl y)], [gx_r 191, .inl x], t0, n, 0)) rfl (fun _ => rfl) rfl ?_
        refine gxo_get (a := 191) rfl g0 rfl rfl k0 rfl ?_
        by_cases hc2 : o ≤ x
        · refine gx_2t (c := .ge) rfl (by first | decide | omega) (by first | decide | omega) hc2 rfl ?_
          refine ex_go (S := (29, [(0, gx_r 191), (1, .inl x), (2, .inl y)], [.inl 0], t0, n, 0)) rfl (fun _ => rfl) rfl ?_
          refine ex_ret (r := (some (.inl 0), t0, n, 0)) rfl (fun _ => rfl) ?_
          exact ⟨_, rfl, 0, rfl, by omega⟩
        · refine gx_2f (c := .ge) rfl (by first | decide | omega) (by first | decide | omega) hc2 rfl ?_
          refine ex_go (S := (13, [(0, gx_r 191), (1, .inl x), (2, .inl y)], [.inl y], t0, n, 0)) rfl (fun _ => rfl) rfl ?_
          refine gx_negt (c := .lt) rfl (by first | decide | omega) (by first | decide | omega) rfl rfl ?_
          refine ex_go (S := (29, [(0, gx_r 191), (1, .inl x), (2, .inl y)], [.inl 0], t0, n, 0)) rfl (fun _ => rfl) rfl ?_
          refine ex_ret (r := (some (.inl 0), t0, n, 0)) rfl (fun _ => rfl) ?_
          exact ⟨_, rfl, 0, rfl, by omega⟩
    · refine ex_go (S := (1, [(0, gx_r 191), (1, .inl x), (2, .inl y)], [.inl x], t0, n, 0)) rfl (fun _ => rfl) rfl ?_
      by_cases hc1 : x < 0
      · refine gx_1t (c := .lt) rfl (by first | decide | omega) hc1 rfl ?_
        refine ex_go (S := (29, [(0, gx_r 191), (1, .inl x), (2, .inl y)], [.inl 0], t0, n, 0)) rfl (fun _ => rfl) rfl ?_
        refine ex_ret (r := (some (.inl 0), t0, n, 0)) rfl (fun _ => rfl) ?_
        exact ⟨_, rfl, 0, rfl, by omega⟩
      · refine gx_1f (c := .lt) rfl (by first | decide | omega) hc1 rfl ?_
        refine ex_go (S := (5, [(0, gx_r 191), (1, .inl x), (2, .inl y)], [.inl x], t0, n, 0)) rfl (fun _ => rfl) rfl ?_
        refine ex_go (S := (6, [(0, gx_r 191), (1, .inl x), (2, .inl y)], [gx_r 191, .inl x], t0, n, 0)) rfl (fun _ => rfl) rfl ?_
        refine gxo_get (a := 191) rfl g0 rfl rfl k0 rfl ?_
        by_cases hc2 : o ≤ x
        · refine gx_2t (c := .ge) rfl (by first | decide | omega) (by first | decide | omega) hc2 rfl ?_
          refine ex_go (S := (29, [(0, gx_r 191), (1, .inl x), (2, .inl y)], [.inl 0], t0, n, 0)) rfl (fun _ => rfl) rfl ?_
          refine ex_ret (r := (some (.inl 0), t0, n, 0)) rfl (fun _ => rfl) ?_
          exact ⟨_, rfl, 0, rfl, by omega⟩
        · refine gx_2f (c := .ge) rfl (by first | decide | omega) (by first | decide | omega) hc2 rfl ?_
          refine ex_go (S := (13, [(0, gx_r 191), (1, .inl x), (2, .inl y)], [.inl y], t0, n, 0)) rfl (fun _ => rfl) rfl ?_
          by_cases hc3 : y < 0
          · refine gx_1t (c := .lt) rfl (by first | decide | omega) hc3 rfl ?_
            refine ex_go (S := (29, [(0, gx_r 191), (1, .inl x), (2, .inl y)], [.inl 0], t0, n, 0)) rfl (fun _ => rfl) rfl ?_
            refine ex_ret (r := (some (.inl 0), t0, n, 0)) rfl (fun _ => rfl) ?_
            exact ⟨_, rfl, 0, rfl, by omega⟩
          · refine gx_1f (c := .lt) rfl (by first | decide | omega) hc3 rfl ?_
            refine ex_go (S := (17, [(0, gx_r 191), (1, .inl x), (2, .inl y)], [.inl y], t0, n, 0)) rfl (fun _ => rfl) rfl ?_
            refine ex_go (S := (18, [(0, gx_r 191), (1, .inl x), (2, .inl y)], [gx_r 191, .inl y], t0, n, 0)) rfl (fun _ => rfl) rfl ?_
            refine gxo_get (a := 191) rfl g0 rfl rfl k1 rfl ?_
            by_cases hc4 : e ≤ y
            · refine gx_2t (c := .ge) rfl (by first | decide | omega) (by first | decide | omega) hc4 rfl ?_
              refine ex_go (S := (29, [(0, gx_r 191), (1, .inl x), (2, .inl y)], [.inl 0], t0, n, 0)) rfl (fun _ => rfl) rfl ?_
              refine ex_ret (r := (some (.inl 0), t0, n, 0)) rfl (fun _ => rfl) ?_
              exact ⟨_, rfl, 0, rfl, by omega⟩
            · refine gx_2f (c := .ge) rfl (by first | decide | omega) (by first | decide | omega) hc4 rfl ?_
              refine ex_go (S := (25, [(0, gx_r 191), (1, .inl x), (2, .inl y)], [.inl 1], t0, n, 0)) rfl (fun _ => rfl) rfl ?_
              refine ex_go (S := (29, [(0, gx_r 191), (1, .inl x), (2, .inl y)], [.inl 1], t0, n, 0)) rfl (fun _ => rfl) rfl ?_
              refine ex_ret (r := (some (.inl 1), t0, n, 0)) rfl (fun _ => rfl) ?_
              exact ⟨_, rfl, 1, rfl, by omega⟩
theorem pc_isPlace257 (d n : Nat) {t0 : en_H} {x y o e : Nat} (g0 : ai_HG ah_G t0) (k0 : ai_hv t0 257 0 = some (.inl o)) (k1 : ai_hv t0 257 1 = some (.inl e)) (hxx : x < 4294967296) (hyy : y < 4294967296) (ho : o ≤ 8) (he : e ≤ 8) : ∃ r, en_u (d + 1) 18 [gx_r 257, .inl x, .inl y] t0 n = some r ∧ ∃ b, r = (some (.inl b), t0, n, 0) ∧ (b ≤ 1 ∧ (b = 1 ↔ x < o ∧ y < e)) := by
  refine en_u_ex rfl ?_
  show en_ex _ _ _ _ (0, [(0, gx_r 257), (1, .inl x), (2, .inl y)], [], t0, n, 0) _
  by_cases hx : 2147483648 ≤ x
  · refine ex_go (S := (1, [(0, gx_r 257), (1, .inl x), (2, .inl y)], [.inl x], t0, n, 0)) rfl (fun _ => rfl) rfl ?_
    refine gx_negt (c := .lt) rfl (by first | decide | omega) (by first | decide | omega) rfl rfl ?_
    refine ex_go (S := (29, [(0, gx_r 257), (1, .inl x), (2, .inl y)], [.inl 0], t0, n, 0)) rfl (fun _ => rfl) rfl ?_
    refine ex_ret (r := (some (.inl 0), t0, n, 0)) rfl (fun _ => rfl) ?_
    exact ⟨_, rfl, 0, rfl, by omega⟩
  · by_cases hy : 2147483648 ≤ y
    · refine ex_go (S := (1, [(0, gx_r 257), (1, .inl x), (2, .inl y)], [.inl x], t0, n, 0)) rfl (fun _ => rfl) rfl ?_
      by_cases hc1 : x < 0
      · refine gx_1t (c := .lt) rfl (by first | decide | omega) hc1 rfl ?_
        refine ex_go (S := (29, [(0, gx_r 257), (1, .inl x), (2, .inl y)], [.inl 0], t0, n, 0)) rfl (fun _ => rfl) rfl ?_
        refine ex_ret (r := (some (.inl 0), t0, n, 0)) rfl (fun _ => rfl) ?_
        exact ⟨_, rfl, 0, rfl, by omega⟩
      · refine gx_1f (c := .lt) rfl (by first | decide | omega) hc1 rfl ?_
        refine ex_go (S := (5, [(0, gx_r 257), (1, .inl x), (2, .inl y)], [.inl x], t0, n, 0)) rfl (fun _ => rfl) rfl ?_
        refine ex_go (S := (6, [(0, gx_r 257), (1, .inl x), (2, .inl y)], [gx_r 257, .inl x], t0, n, 0)) rfl (fun _ => rfl) rfl ?_
        refine gxo_get (a := 257) rfl g0 rfl rfl k0 rfl ?_
        by_cases hc2 : o ≤ x
        · refine gx_2t (c := .ge) rfl (by first | decide | omega) (by first | decide | omega) hc2 rfl ?_
          refine ex_go (S := (29, [(0, gx_r 257), (1, .inl x), (2, .inl y)], [.inl 0], t0, n, 0)) rfl (fun _ => rfl) rfl ?_
          refine ex_ret (r := (some (.inl 0), t0, n, 0)) rfl (fun _ => rfl) ?_
          exact ⟨_, rfl, 0, rfl, by omega⟩
        · refine gx_2f (c := .ge) rfl (by first | decide | omega) (by first | decide | omega) hc2 rfl ?_
          refine ex_go (S := (13, [(0, gx_r 257), (1, .inl x), (2, .inl y)], [.inl y], t0, n, 0)) rfl (fun _ => rfl) rfl ?_
          refine gx_negt (c := .lt) rfl (by first | decide | omega) (by first | decide | omega) rfl rfl ?_
          refine ex_go (S := (29, [(0, gx_r 257), (1, .inl x), (2, .inl y)], [.inl 0], t0, n, 0)) rfl (fun _ => rfl) rfl ?_
          refine ex_ret (r := (some (.inl 0), t0, n, 0)) rfl (fun _ => rfl) ?_
          exact ⟨_, rfl, 0, rfl, by omega⟩
    · refine ex_go (S := (1, [(0, gx_r 257), (1, .inl x), (2, .inl y)], [.inl x], t0, n, 0)) rfl (fun _ => rfl) rfl ?_
      by_cases hc1 : x < 0
      · refine gx_1t (c := .lt) rfl (by first | decide | omega) hc1 rfl ?_
        refine ex_go (S := (29, [(0, gx_r 257), (1, .inl x), (2, .inl y)], [.inl 0], t0, n, 0)) rfl (fun _ => rfl) rfl ?_
        refine ex_ret (r := (some (.inl 0), t0, n, 0)) rfl (fun _ => rfl) ?_
        exact ⟨_, rfl, 0, rfl, by omega⟩
      · refine gx_1f (c := .lt) rfl (by first | decide | omega) hc1 rfl ?_
        refine ex_go (S := (5, [(0, gx_r 257), (1, .inl x), (2, .inl y)], [.inl x], t0, n, 0)) rfl (fun _ => rfl) rfl ?_
        refine ex_go (S := (6, [(0, gx_r 257), (1, .inl x), (2, .inl y)], [gx_r 257, .inl x], t0, n, 0)) rfl (fun _ => rfl) rfl ?_
        refine gxo_get (a := 257) rfl g0 rfl rfl k0 rfl ?_
        by_cases hc2 : o ≤ x
        · refine gx_2t (c := .ge) rfl (by first | decide | omega) (by first | decide | omega) hc2 rfl ?_
          refine ex_go (S := (29, [(0, gx_r 257), (1, .inl x), (2, .inl y)], [.inl 0], t0, n, 0)) rfl (fun _ => rfl) rfl ?_
          refine ex_ret (r := (some (.inl 0), t0, n, 0)) rfl (fun _ => rfl) ?_
          exact ⟨_, rfl, 0, rfl, by omega⟩
        · refine gx_2f (c := .ge) rfl (by first | decide | omega) (by first | decide | omega) hc2 rfl ?_
          refine ex_go (S := (13, [(0, gx_r 257), (1, .inl x), (2, .inl y)], [.inl y], t0, n, 0)) rfl (fun _ => rfl) rfl ?_
          by_cases hc3 : y < 0
          · refine gx_1t (c := .lt) rfl (by first | decide | omega) hc3 rfl ?_
            refine ex_go (S := (29, [(0, gx_r 257), (1, .inl x), (2, .inl y)], [.inl 0], t0, n, 0)) rfl (fun _ => rfl) rfl ?_
            refine ex_ret (r := (some (.inl 0), t0, n, 0)) rfl (fun _ => rfl) ?_
            exact ⟨_, rfl, 0, rfl, by omega⟩
          · refine gx_1f (c := .lt) rfl (by first | decide | omega) hc3 rfl ?_
            refine ex_go (S := (17, [(0, gx_r 257), (1, .inl x), (2, .inl y)], [.inl y], t0, n, 0)) rfl (fun _ => rfl) rfl ?_
            refine ex_go (S := (18, [(0, gx_r 257), (1, .inl x), (2, .inl y)], [gx_r 257, .inl y], t0, n, 0)) rfl (fun _ => rfl) rfl ?_
            refine gxo_get (a := 257) rfl g0 rfl rfl k1 rfl ?_
            by_cases hc4 : e ≤ y
            · refine gx_2t (c := .ge) rfl (by first | decide | omega) (by first | decide | omega) hc4 rfl ?_
              refine ex_go (S := (29, [(0, gx_r 257), (1, .inl x), (2, .inl y)], [.inl 0], t0, n, 0)) rfl (fun _ => rfl) rfl ?_
              refine ex_ret (r := (some (.inl 0), t0, n, 0)) rfl (fun _ => rfl) ?_
              exact ⟨_, rfl, 0, rfl, by omega⟩
            · refine gx_2f (c := .ge) rfl (by first | decide | omega) (by first | decide | omega) hc4 rfl ?_
              refine ex_go (S := (25, [(0, gx_r 257), (1, .inl x), (2, .inl y)], [.inl 1], t0, n, 0)) rfl (fun _ => rfl) rfl ?_
              refine ex_go (S := (29, [(0, gx_r 257), (1, .inl x), (2, .inl y)], [.inl 1], t0, n, 0)) rfl (fun _ => rfl) rfl ?_
              refine ex_ret (r := (some (.inl 1), t0, n, 0)) rfl (fun _ => rfl) ?_
              exact ⟨_, rfl, 1, rfl, by omega⟩
theorem pc_placeOf2 (d n : Nat) {t0 : en_H} {x y : Nat} (hx : x < 10000) (hy : y < 10000) : ∃ r, en_u (d + 1) 19 [.inl x, .inl y] t0 n = some r ∧ r = (some (.inl (x + (8 * y))), t0, n, 0) := by
  refine en_u_ex rfl ?_
  show en_ex _ _ _ _ (0, [(0, .inl x), (1, .inl y)], [], t0, n, 0) _
  refine ex_go (S := (1, [(0, .inl x), (1, .inl y)], [.inl x], t0, n, 0)) rfl (fun _ => rfl) rfl ?_
  refine ex_go (S := (3, [(0, .inl x), (1, .inl y)], [.inl 8, .inl x], t0, n, 0)) rfl (fun _ => rfl) rfl ?_
  refine ex_go (S := (4, [(0, .inl x), (1, .inl y)], [.inl y, .inl 8, .inl x], t0, n, 0)) rfl (fun _ => rfl) rfl ?_
  refine gx_imul rfl (by first | decide | omega) rfl ?_
  refine ex_iadd rfl (by first | decide | omega) rfl ?_
  refine ex_ret (r := (some (.inl (x + (8 * y))), t0, n, 0)) rfl (fun _ => rfl) ?_
  exact ⟨_, rfl, rfl⟩
/-! ### the place beside, what a crew eats, a step -/
noncomputable def nb (O D p s : Nat) : Nat := if s = 0 then (if 8 ≤ p ∧ p % 8 < O ∧ p / 8 - 1 < D then p - 8 else p) else if s = 1 then (if p % 8 + 1 < O ∧ p / 8 < D then p + 1 else p) else if s = 2 then (if p % 8 < O ∧ p / 8 + 1 < D then p + 8 else p) else if s = 3 then (if 1 ≤ p % 8 ∧ p % 8 - 1 < O ∧ p / 8 < D then p - 1 else p) else p
theorem nb_0 {O D p : Nat} : nb O D p 0 = if 8 ≤ p ∧ p % 8 < O ∧ p / 8 - 1 < D then p - 8 else p := if_pos rfl
theorem nb_1 {O D p : Nat} : nb O D p 1 = if p % 8 + 1 < O ∧ p / 8 < D then p + 1 else p := (if_neg (by decide)).trans (if_pos rfl)
theorem nb_2 {O D p : Nat} : nb O D p 2 = if p % 8 < O ∧ p / 8 + 1 < D then p + 8 else p := (if_neg (by decide)).trans ((if_neg (by decide)).trans (if_pos rfl))
theorem nb_3 {O D p : Nat} : nb O D p 3 = if 1 ≤ p % 8 ∧ p % 8 - 1 < O ∧ p / 8 < D then p - 1 else p := (if_neg (by decide)).trans ((if_neg (by decide)).trans ((if_neg (by decide)).trans (if_pos rfl)))
theorem nb_4 {O D p : Nat} : nb O D p 4 = p := (if_neg (by decide)).trans ((if_neg (by decide)).trans ((if_neg (by decide)).trans (if_neg (by decide))))
theorem nb_lt {O D p s : Nat} (hp : p < 64) (hO : O ≤ 8) (hD : D ≤ 8) : nb O D p s < 64 := by
  unfold nb
  by_cases c0 : s = 0
  · rw [if_pos c0]; split <;> omega
  rw [if_neg c0]
  by_cases c1 : s = 1
  · rw [if_pos c1]; split <;> omega
  rw [if_neg c1]
  by_cases c2 : s = 2
  · rw [if_pos c2]; split <;> omega
  rw [if_neg c2]
  by_cases c3 : s = 3
  · rw [if_pos c3]; split <;> omega
  rw [if_neg c3]
  exact hp
theorem gz_or {k : Nat} : (k = 0 ∧ gz k = 4294967295) ∨ (1 ≤ k ∧ gz k = k - 1) := by
  cases k with
  | zero => exact Or.inl ⟨rfl, rfl⟩
  | succ k => exact Or.inr ⟨by omega, rfl⟩
theorem st_fit {t : en_H} {m : Nat} (h : m ≤ 1) : en_afit t 2 2 (.inl m) = true := by rcases (show m = 0 ∨ m = 1 by omega) with rfl | rfl <;> rfl
theorem wrap_lt {x : Nat} : en_wrap x < 4294967296 := Nat.mod_lt _ (by decide)
theorem zk_rem {x y : Nat} (hx : x < 2147483648) (hy : y < 2147483648) (h0 : 0 < y) : en_irem x y = some (x % y) := by
  have e1 : nI x / nI y = nI (x / y) := by
    have h := zk_div hx hy h0
    unfold en_idiv at h
    rw [if_neg (zk_n0 hy h0)] at h
    have h2 := Option.some.inj h
    rw [← h2, en_nI_tn]
  have e2 : nI (x / y) * nI y = nI (x / y * y) := by
    unfold nI
    exact (Int32.ofNat_mul _ _).symm
  have hm := Nat.div_add_mod x y
  rw [Nat.mul_comm] at hm
  have hs := ha_sub (x := x) (y := x / y * y) (by first | decide | omega) hx
  unfold en_isub at hs
  unfold en_irem
  rw [if_neg (zk_n0 hy h0), e1, e2, hs]
  congr 1
  omega
section
variable {oc : Option (List en_V)} {f : en_F} {code : Nat → Option en_I} {stop : Nat → Bool} {P : en_O → Prop}
variable {pc nx : Nat} {ls : en_L} {st : List en_V} {t : en_H} {n sl : Nat}
theorem gs_pop {x1 x2 : Nat} {v : en_V} (hc : code pc = some (.pop, nx, x1, x2)) (hv : en_cat v = 1) (hp : stop nx = false) (h : en_ex oc f code stop (nx, ls, st, t, n, sl) P) : en_ex oc f code stop (pc, ls, v :: st, t, n, sl) P := by
  refine ex_go (S := (nx, ls, st, t, n, sl)) hc (fun k => ?_) hp h
  show (bif Nat.beq (en_cat v) 1 then k nx ls st t n sl else none) = _
  rw [hv]
  rfl
theorem gx_iremn {x1 x2 a b : Nat} (hc : code pc = some (.irem, nx, x1, x2)) (ha : a < 2147483648) (hb : b < 2147483648) (h0 : 0 < b) (hp : stop nx = false) (h : en_ex oc f code stop (nx, ls, .inl (a % b) :: st, t, n, sl) P) : en_ex oc f code stop (pc, ls, .inl b :: .inl a :: st, t, n, sl) P := by
  refine ex_go (S := (nx, ls, .inl (a % b) :: st, t, n, sl)) hc (fun k => ?_) hp h
  show (match (match en_irem a b with | some z => some (.inl z) | none => none) with | some v => k nx ls (v :: st) t n sl | none => none) = _
  rw [zk_rem ha hb h0]
theorem gx_iaddm {x1 x2 a : Nat} (hc : code pc = some (.iadd, nx, x1, x2)) (ha : a < 4294967296) (hp : stop nx = false) (h : en_ex oc f code stop (nx, ls, .inl (gz a) :: st, t, n, sl) P) : en_ex oc f code stop (pc, ls, .inl 4294967295 :: .inl a :: st, t, n, sl) P := by
  refine ex_go (S := (nx, ls, .inl (gz a) :: st, t, n, sl)) hc (fun k => ?_) hp h
  show k nx ls (.inl (en_wrap (a + 4294967295)) :: st) t n sl = _
  rw [gz_eq ha]
theorem gs_iaddx {x1 x2 a b : Nat} (hc : code pc = some (.iadd, nx, x1, x2)) (hp : stop nx = false) (h : en_ex oc f code stop (nx, ls, .inl (en_wrap (a + b)) :: st, t, n, sl) P) : en_ex oc f code stop (pc, ls, .inl b :: .inl a :: st, t, n, sl) P :=
  ex_go (S := (nx, ls, .inl (en_wrap (a + b)) :: st, t, n, sl)) hc (fun k => rfl) hp h
end
end SWA
section SSG
/-- so many flows on -/
noncomputable def jmp (O D : Nat) (F : Nat → Nat) : Nat → Nat → Nat
  | 0, j => j
  | k + 1, j => nb O D (jmp O D F k j) (F (jmp O D F k j))
theorem jmp_lt {O D : Nat} {F : Nat → Nat} {j : Nat} (hO : O ≤ 8) (hD : D ≤ 8) (hj : j < 64) : ∀ k, jmp O D F k j < 64
  | 0 => hj
  | k + 1 => nb_lt (jmp_lt hO hD hj k) hO hD
theorem jmp_add {O D : Nat} {F : Nat → Nat} : ∀ (b a j : Nat), jmp O D F (a + b) j = jmp O D F b (jmp O D F a j)
  | 0, a, j => rfl
  | b + 1, a, j => by
    show nb O D (jmp O D F (a + b) j) (F (jmp O D F (a + b) j)) = nb O D (jmp O D F b (jmp O D F a j)) (F (jmp O D F b (jmp O D F a j)))
    rw [jmp_add b a j]
theorem sz_and7 : ∀ x, x < 64 → (nI x &&& nI 7).toBitVec.toNat = x % 8 := by decide +kernel
theorem sz_shr3 : ∀ x, x < 64 → (nI x >>> (nI 3 &&& 31)).toBitVec.toNat = x / 8 := by decide +kernel
theorem sz_bit : ∀ x, x < 64 → en_lshl 1 x = 2 ^ x := by decide +kernel
theorem sz_lN (x : Nat) : (lN x).toBitVec.toNat = x % 18446744073709551616 := by rw [sp_lN_bv, BitVec.toNat_ofNat]
theorem sz_lor {x y : Nat} (hx : x < 18446744073709551616) (hy : y < 18446744073709551616) : en_lor x y = x ||| y := by
  show (lN x ||| lN y).toBitVec.toNat = _
  rw [Int64.toBitVec_or, BitVec.toNat_or, sz_lN, sz_lN, Nat.mod_eq_of_lt hx, Nat.mod_eq_of_lt hy]
theorem sz_land {x y : Nat} (hx : x < 18446744073709551616) (hy : y < 18446744073709551616) : en_land x y = x &&& y := by
  show (lN x &&& lN y).toBitVec.toNat = _
  rw [Int64.toBitVec_and, BitVec.toNat_and, sz_lN, sz_lN, Nat.mod_eq_of_lt hx, Nat.mod_eq_of_lt hy]
theorem sz_or_lt {x y : Nat} (hx : x < 18446744073709551616) (hy : y < 18446744073709551616) : x ||| y < 18446744073709551616 := Nat.or_lt_two_pow (n := 64) hx hy
theorem sz_two {j : Nat} (h : j < 64) : 2 ^ j < 18446744073709551616 := Nat.pow_lt_pow_right (a := 2) (by decide) h
/-- which way a place is carried: 4, where it stays -/
noncomputable def fdir (O D : Nat) (F : Nat → Nat) (j : Nat) : Nat := if nb O D j (F j) = j then 4 else F j
/-- a set of places -/
noncomputable def bts (x : Nat) (P : Nat → Bool) : Prop := x < 18446744073709551616 ∧ ∀ j, j < 64 → x.testBit j = P j
theorem bts_at {x : Nat} {P : Nat → Bool} {j : Nat} (h : bts x P) (hj : j < 64) : x.testBit j = P j := h.2 j hj
theorem bts_mk {x : Nat} {P : Nat → Bool} (h1 : x < 18446744073709551616) (h2 : ∀ j, j < 64 → x.testBit j = P j) : bts x P := ⟨h1, h2⟩
theorem bts_or {x k : Nat} {P Q : Nat → Bool} (h : bts x P) (hk : k < 64) (e : ∀ j, j < 64 → Q j = (P j || decide (k = j))) : bts (x ||| 2 ^ k) Q := ⟨sz_or_lt h.1 (sz_two hk), fun j hj => by rw [Nat.testBit_or, h.2 j hj, Nat.testBit_two_pow, e j hj]⟩
noncomputable def inG (O D j : Nat) : Bool := decide (j % 8 < O) && decide (j / 8 < D)
/-- what settle makes of the cell p's grid and flows -/
noncomputable def NX (t : en_H) (p : Nat) : Prop := ∃ (O D : Nat) (F : Nat → Nat) (g : Nat) (fl : Nat → Nat), O ≤ 8 ∧ D ≤ 8 ∧ ai_hv t p 0 = some (.inl O) ∧ ai_hv t p 1 = some (.inl D) ∧ (∀ j, j < 64 → ai_hv t (p + 1) j = some (.inl (F j)) ∧ F j ≤ 4) ∧ (∀ j, j < 64 → ai_hv t (p + 2) j = some (.inl (nb O D j (F j)))) ∧ (ai_hv t p 16 = some (.inr (.inl g)) ∧ bts g (inG O D)) ∧ (∀ s, s < 5 → ai_hv t (p + 48) s = some (.inr (.inl (fl s))) ∧ bts (fl s) (fun j => inG O D j && decide (fdir O D F j = s))) ∧ (∀ i, i < 16 → ai_hv t (p + 49) i = some (gx_r (p + 50 + i))) ∧ ∀ i, i < 16 → ∀ j, j < 64 → ai_hv t (p + 50 + i) j = some (.inl (jmp O D F (2 ^ i) j))
theorem NX_keep {t t' : en_H} {p : Nat} (h : NX t p) (e : ∀ c i, (c = p ∧ (i ≤ 1 ∨ i = 16)) ∨ c = p + 1 ∨ c = p + 2 ∨ (p + 48 ≤ c ∧ c ≤ p + 65) → ai_hv t' c i = ai_hv t c i) : NX t' p := by
  obtain ⟨O, D, F, g, fl, hO, hD, k0, k1, kF, kN, ⟨kg, bg⟩, kf, kr, kj⟩ := h
  exact ⟨O, D, F, g, fl, hO, hD, (e _ _ (by first | decide | omega)).trans k0, (e _ _ (by first | decide | omega)).trans k1, fun j hj => ⟨(e _ _ (by first | decide | omega)).trans (kF j hj).1, (kF j hj).2⟩, fun j hj => (e _ _ (by first | decide | omega)).trans (kN j hj), ⟨(e _ _ (by first | decide | omega)).trans kg, bg⟩, fun s hs => ⟨(e _ _ (by first | decide | omega)).trans (kf s hs).1, (kf s hs).2⟩, fun i hi => (e _ _ (by first | decide | omega)).trans (kr i hi), fun i hi j hj => (e _ _ (by first | decide | omega)).trans (kj i hi j hj)⟩
theorem pz_over (d n : Nat) {t0 : en_H} {x : Nat} (hx : x < 64) : ∃ r, en_u (d + 1) 16 [.inl x] t0 n = some r ∧ r = (some (.inl (x % 8)), t0, n, 0) := by
  refine en_u_ex rfl ?_
  show en_ex _ _ _ _ (0, [(0, .inl x)], [], t0, n, 0) _
  refine ex_go (S := (1, [(0, .inl x)], [.inl x], t0, n, 0)) rfl (fun _ => rfl) rfl ?_
  refine ex_go (S := (3, [(0, .inl x)], [.inl 7, .inl x], t0, n, 0)) rfl (fun _ => rfl) rfl ?_
  refine ex_go (S := (4, [(0, .inl x)], [.inl ((nI x &&& nI 7).toBitVec.toNat)], t0, n, 0)) rfl (fun _ => rfl) rfl ?_
  rw [sz_and7 x hx]
  refine ex_ret (r := (some (.inl (x % 8)), t0, n, 0)) rfl (fun _ => rfl) ?_
  exact ⟨_, rfl, rfl⟩
theorem pz_down (d n : Nat) {t0 : en_H} {x : Nat} (hx : x < 64) : ∃ r, en_u (d + 1) 17 [.inl x] t0 n = some r ∧ r = (some (.inl (x / 8)), t0, n, 0) := by
  refine en_u_ex rfl ?_
  show en_ex _ _ _ _ (0, [(0, .inl x)], [], t0, n, 0) _
  refine ex_go (S := (1, [(0, .inl x)], [.inl x], t0, n, 0)) rfl (fun _ => rfl) rfl ?_
  refine ex_go (S := (2, [(0, .inl x)], [.inl 3, .inl x], t0, n, 0)) rfl (fun _ => rfl) rfl ?_
  refine ex_go (S := (3, [(0, .inl x)], [.inl ((nI x >>> (nI 3 &&& 31)).toBitVec.toNat)], t0, n, 0)) rfl (fun _ => rfl) rfl ?_
  rw [sz_shr3 x hx]
  refine ex_ret (r := (some (.inl (x / 8)), t0, n, 0)) rfl (fun _ => rfl) ?_
  exact ⟨_, rfl, rfl⟩
theorem pz_bit (d n : Nat) {t0 : en_H} {x : Nat} (hx : x < 64) : ∃ r, en_u (d + 1) 20 [.inl x] t0 n = some r ∧ r = (some (.inr (.inl (2 ^ x))), t0, n, 0) := by
  refine en_u_ex rfl ?_
  show en_ex _ _ _ _ (0, [(0, .inl x)], [], t0, n, 0) _
  refine ex_go (S := (1, [(0, .inl x)], [.inr (.inl 1)], t0, n, 0)) rfl (fun _ => rfl) rfl ?_
  refine ex_go (S := (2, [(0, .inl x)], [.inl x, .inr (.inl 1)], t0, n, 0)) rfl (fun _ => rfl) rfl ?_
  refine ex_go (S := (3, [(0, .inl x)], [.inr (.inl (en_lshl 1 x))], t0, n, 0)) rfl (fun _ => rfl) rfl ?_
  rw [sz_bit x hx]
  refine ex_ret (r := (some (.inr (.inl (2 ^ x))), t0, n, 0)) rfl (fun _ => rfl) ?_
  exact ⟨_, rfl, rfl⟩
theorem sc_nb191 (d n : Nat) {t0 : en_H} {O D q s : Nat} (g0 : ai_HG ah_G t0) (kO : ai_hv t0 191 0 = some (.inl O)) (kD : ai_hv t0 191 1 = some (.inl D)) (hO : O ≤ 8) (hD : D ≤ 8) (hq : q < 64) (hs : s ≤ 4) : ∃ r, en_u (d + 2) 15 [gx_r 191, .inl q, .inl s] t0 n = some r ∧ r = (some (.inl (nb O D q s)), t0, n, 0) := by
  have hz0 := gz_or (k := q / 8)
  have hz1 := gz_or (k := q % 8)
  rcases (show s = 0 ∨ s = 1 ∨ s = 2 ∨ s = 3 ∨ s = 4 by omega) with rfl | rfl | rfl | rfl | rfl
  · refine en_u_ex (d := d + 1) rfl ?_
    show en_ex _ _ _ _ (0, [(0, gx_r 191), (1, .inl q), (2, .inl 0)], [], t0, n, 0) _
    refine ex_go (S := (1, [(0, gx_r 191), (1, .inl q), (2, .inl 0)], [.inl q], t0, n, 0)) rfl (fun _ => rfl) rfl ?_
    obtain ⟨_, r21, rfl⟩ := pz_over (d) n (t0 := t0) (x := q) (by first | decide | omega)
    refine ex_stat rfl rfl rfl rfl rfl r21 (Nat.le_refl _) rfl ?_
    show en_ex _ _ _ _ (4, [(0, gx_r 191), (1, .inl q), (2, .inl 0)], [.inl (q % 8)], t0, n, 0) _
    refine ex_go (S := (5, [(0, gx_r 191), (1, .inl q), (2, .inl 0)], [.inl 0, .inl (q % 8)], t0, n, 0)) rfl (fun _ => rfl) rfl ?_
    refine ex_go (S := (6, [(0, gx_r 191), (1, .inl q), (2, .inl 0)], [.inl 1, .inl 0, .inl (q % 8)], t0, n, 0)) rfl (fun _ => rfl) rfl ?_
    refine ex_go (S := (13, [(0, gx_r 191), (1, .inl q), (2, .inl 0)], [.inl (q % 8)], t0, n, 0)) rfl (fun _ => rfl) rfl ?_
    refine ex_go (S := (14, [(0, gx_r 191), (1, .inl q), (2, .inl 0)], [.inl 0, .inl (q % 8)], t0, n, 0)) rfl (fun _ => rfl) rfl ?_
    refine ex_go (S := (15, [(0, gx_r 191), (1, .inl q), (2, .inl 0)], [.inl 3, .inl 0, .inl (q % 8)], t0, n, 0)) rfl (fun _ => rfl) rfl ?_
    refine ex_go (S := (22, [(0, gx_r 191), (1, .inl q), (2, .inl 0)], [.inl (q % 8)], t0, n, 0)) rfl (fun _ => rfl) rfl ?_
    refine ex_go (S := (23, [(0, gx_r 191), (1, .inl q), (2, .inl 0)], [.inl 0, .inl (q % 8)], t0, n, 0)) rfl (fun _ => rfl) rfl ?_
    refine ex_iadd rfl (by first | decide | omega) rfl ?_
    refine ex_go (S := (25, [(3, .inl ((q % 8) + 0)), (0, gx_r 191), (1, .inl q), (2, .inl 0)], [], t0, n, 0)) rfl (fun _ => rfl) rfl ?_
    refine ex_go (S := (26, [(3, .inl ((q % 8) + 0)), (0, gx_r 191), (1, .inl q), (2, .inl 0)], [.inl q], t0, n, 0)) rfl (fun _ => rfl) rfl ?_
    obtain ⟨_, r22, rfl⟩ := pz_down (d) n (t0 := t0) (x := q) (by first | decide | omega)
    refine ex_stat rfl rfl rfl rfl rfl r22 (Nat.le_refl _) rfl ?_
    show en_ex _ _ _ _ (29, [(3, .inl ((q % 8) + 0)), (0, gx_r 191), (1, .inl q), (2, .inl 0)], [.inl (q / 8)], t0, n, 0) _
    refine ex_go (S := (30, [(3, .inl ((q % 8) + 0)), (0, gx_r 191), (1, .inl q), (2, .inl 0)], [.inl 0, .inl (q / 8)], t0, n, 0)) rfl (fun _ => rfl) rfl ?_
    refine ex_go (S := (31, [(3, .inl ((q % 8) + 0)), (0, gx_r 191), (1, .inl q), (2, .inl 0)], [.inl 2, .inl 0, .inl (q / 8)], t0, n, 0)) rfl (fun _ => rfl) rfl ?_
    refine ex_go (S := (38, [(3, .inl ((q % 8) + 0)), (0, gx_r 191), (1, .inl q), (2, .inl 0)], [.inl (q / 8)], t0, n, 0)) rfl (fun _ => rfl) rfl ?_
    refine ex_go (S := (39, [(3, .inl ((q % 8) + 0)), (0, gx_r 191), (1, .inl q), (2, .inl 0)], [.inl 0, .inl (q / 8)], t0, n, 0)) rfl (fun _ => rfl) rfl ?_
    refine ex_go (S := (42, [(3, .inl ((q % 8) + 0)), (0, gx_r 191), (1, .inl q), (2, .inl 0)], [.inl (q / 8)], t0, n, 0)) rfl (fun _ => rfl) rfl ?_
    refine ex_go (S := (43, [(3, .inl ((q % 8) + 0)), (0, gx_r 191), (1, .inl q), (2, .inl 0)], [.inl 4294967295, .inl (q / 8)], t0, n, 0)) rfl (fun _ => rfl) rfl ?_
    refine ex_go (S := (47, [(3, .inl ((q % 8) + 0)), (0, gx_r 191), (1, .inl q), (2, .inl 0)], [.inl 4294967295, .inl (q / 8)], t0, n, 0)) rfl (fun _ => rfl) rfl ?_
    refine gx_iaddm rfl (by first | decide | omega) rfl ?_
    refine ex_go (S := (50, [(4, .inl (gz (q / 8))), (3, .inl ((q % 8) + 0)), (0, gx_r 191), (1, .inl q), (2, .inl 0)], [], t0, n, 0)) rfl (fun _ => rfl) rfl ?_
    refine ex_go (S := (51, [(4, .inl (gz (q / 8))), (3, .inl ((q % 8) + 0)), (0, gx_r 191), (1, .inl q), (2, .inl 0)], [gx_r 191], t0, n, 0)) rfl (fun _ => rfl) rfl ?_
    refine ex_go (S := (52, [(4, .inl (gz (q / 8))), (3, .inl ((q % 8) + 0)), (0, gx_r 191), (1, .inl q), (2, .inl 0)], [.inl ((q % 8) + 0), gx_r 191], t0, n, 0)) rfl (fun _ => rfl) rfl ?_
    refine ex_go (S := (54, [(4, .inl (gz (q / 8))), (3, .inl ((q % 8) + 0)), (0, gx_r 191), (1, .inl q), (2, .inl 0)], [.inl (gz (q / 8)), .inl ((q % 8) + 0), gx_r 191], t0, n, 0)) rfl (fun _ => rfl) rfl ?_
    obtain ⟨_, r123, b123, rfl, hb123, hi123⟩ := pc_isPlace191 d n (x := (q % 8) + 0) (y := gz (q / 8)) (o := O) (e := D) g0 kO kD (by first | decide | omega) (by first | decide | omega) hO hD
    refine gx_callo (a := 191) rfl rfl g0 rfl rfl rfl r123 rfl ?_
    show en_ex _ _ _ _ (57, [(4, .inl (gz (q / 8))), (3, .inl ((q % 8) + 0)), (0, gx_r 191), (1, .inl q), (2, .inl 0)], [.inl b123], t0, n, 0) _
    by_cases hc24 : b123 = 0
    · refine gx_1t (c := .eq) rfl (by first | decide | omega) hc24 rfl ?_
      refine ex_go (S := (70, [(4, .inl (gz (q / 8))), (3, .inl ((q % 8) + 0)), (0, gx_r 191), (1, .inl q), (2, .inl 0)], [.inl q], t0, n, 0)) rfl (fun _ => rfl) rfl ?_
      refine ex_ret (r := (some (.inl q), t0, n, 0)) rfl (fun _ => rfl) ?_
      have e9 : nb O D q 0 = q := by rw [nb_0]; split <;> omega
      exact ⟨_, rfl, by rw [e9]⟩
    · refine gx_1f (c := .eq) rfl (by first | decide | omega) hc24 rfl ?_
      refine ex_go (S := (61, [(4, .inl (gz (q / 8))), (3, .inl ((q % 8) + 0)), (0, gx_r 191), (1, .inl q), (2, .inl 0)], [.inl ((q % 8) + 0)], t0, n, 0)) rfl (fun _ => rfl) rfl ?_
      refine ex_go (S := (63, [(4, .inl (gz (q / 8))), (3, .inl ((q % 8) + 0)), (0, gx_r 191), (1, .inl q), (2, .inl 0)], [.inl (gz (q / 8)), .inl ((q % 8) + 0)], t0, n, 0)) rfl (fun _ => rfl) rfl ?_
      obtain ⟨_, r25, rfl⟩ := pc_placeOf2 d n (t0 := t0) (x := (q % 8) + 0) (y := gz (q / 8)) (by first | decide | omega) (by first | decide | omega)
      refine ex_stat rfl rfl rfl rfl rfl r25 (Nat.le_refl _) rfl ?_
      show en_ex _ _ _ _ (66, [(4, .inl (gz (q / 8))), (3, .inl ((q % 8) + 0)), (0, gx_r 191), (1, .inl q), (2, .inl 0)], [.inl (((q % 8) + 0) + (8 * (gz (q / 8))))], t0, n, 0) _
      refine ex_go (S := (70, [(4, .inl (gz (q / 8))), (3, .inl ((q % 8) + 0)), (0, gx_r 191), (1, .inl q), (2, .inl 0)], [.inl (((q % 8) + 0) + (8 * (gz (q / 8))))], t0, n, 0)) rfl (fun _ => rfl) rfl ?_
      refine ex_ret (r := (some (.inl (((q % 8) + 0) + (8 * (gz (q / 8))))), t0, n, 0)) rfl (fun _ => rfl) ?_
      have e9 : nb O D q 0 = ((q % 8) + 0) + (8 * (gz (q / 8))) := by rw [nb_0]; split <;> omega
      exact ⟨_, rfl, by rw [e9]⟩
  · refine en_u_ex (d := d + 1) rfl ?_
    show en_ex _ _ _ _ (0, [(0, gx_r 191), (1, .inl q), (2, .inl 1)], [], t0, n, 0) _
    refine ex_go (S := (1, [(0, gx_r 191), (1, .inl q), (2, .inl 1)], [.inl q], t0, n, 0)) rfl (fun _ => rfl) rfl ?_
    obtain ⟨_, r21, rfl⟩ := pz_over (d) n (t0 := t0) (x := q) (by first | decide | omega)
    refine ex_stat rfl rfl rfl rfl rfl r21 (Nat.le_refl _) rfl ?_
    show en_ex _ _ _ _ (4, [(0, gx_r 191), (1, .inl q), (2, .inl 1)], [.inl (q % 8)], t0, n, 0) _
    refine ex_go (S := (5, [(0, gx_r 191), (1, .inl q), (2, .inl 1)], [.inl 1, .inl (q % 8)], t0, n, 0)) rfl (fun _ => rfl) rfl ?_
    refine ex_go (S := (6, [(0, gx_r 191), (1, .inl q), (2, .inl 1)], [.inl 1, .inl 1, .inl (q % 8)], t0, n, 0)) rfl (fun _ => rfl) rfl ?_
    refine ex_go (S := (9, [(0, gx_r 191), (1, .inl q), (2, .inl 1)], [.inl (q % 8)], t0, n, 0)) rfl (fun _ => rfl) rfl ?_
    refine ex_go (S := (10, [(0, gx_r 191), (1, .inl q), (2, .inl 1)], [.inl 1, .inl (q % 8)], t0, n, 0)) rfl (fun _ => rfl) rfl ?_
    refine ex_go (S := (23, [(0, gx_r 191), (1, .inl q), (2, .inl 1)], [.inl 1, .inl (q % 8)], t0, n, 0)) rfl (fun _ => rfl) rfl ?_
    refine ex_iadd rfl (by first | decide | omega) rfl ?_
    refine ex_go (S := (25, [(3, .inl ((q % 8) + 1)), (0, gx_r 191), (1, .inl q), (2, .inl 1)], [], t0, n, 0)) rfl (fun _ => rfl) rfl ?_
    refine ex_go (S := (26, [(3, .inl ((q % 8) + 1)), (0, gx_r 191), (1, .inl q), (2, .inl 1)], [.inl q], t0, n, 0)) rfl (fun _ => rfl) rfl ?_
    obtain ⟨_, r22, rfl⟩ := pz_down (d) n (t0 := t0) (x := q) (by first | decide | omega)
    refine ex_stat rfl rfl rfl rfl rfl r22 (Nat.le_refl _) rfl ?_
    show en_ex _ _ _ _ (29, [(3, .inl ((q % 8) + 1)), (0, gx_r 191), (1, .inl q), (2, .inl 1)], [.inl (q / 8)], t0, n, 0) _
    refine ex_go (S := (30, [(3, .inl ((q % 8) + 1)), (0, gx_r 191), (1, .inl q), (2, .inl 1)], [.inl 1, .inl (q / 8)], t0, n, 0)) rfl (fun _ => rfl) rfl ?_
    refine ex_go (S := (31, [(3, .inl ((q % 8) + 1)), (0, gx_r 191), (1, .inl q), (2, .inl 1)], [.inl 2, .inl 1, .inl (q / 8)], t0, n, 0)) rfl (fun _ => rfl) rfl ?_
    refine ex_go (S := (38, [(3, .inl ((q % 8) + 1)), (0, gx_r 191), (1, .inl q), (2, .inl 1)], [.inl (q / 8)], t0, n, 0)) rfl (fun _ => rfl) rfl ?_
    refine ex_go (S := (39, [(3, .inl ((q % 8) + 1)), (0, gx_r 191), (1, .inl q), (2, .inl 1)], [.inl 1, .inl (q / 8)], t0, n, 0)) rfl (fun _ => rfl) rfl ?_
    refine ex_go (S := (46, [(3, .inl ((q % 8) + 1)), (0, gx_r 191), (1, .inl q), (2, .inl 1)], [.inl (q / 8)], t0, n, 0)) rfl (fun _ => rfl) rfl ?_
    refine ex_go (S := (47, [(3, .inl ((q % 8) + 1)), (0, gx_r 191), (1, .inl q), (2, .inl 1)], [.inl 0, .inl (q / 8)], t0, n, 0)) rfl (fun _ => rfl) rfl ?_
    refine ex_iadd rfl (by first | decide | omega) rfl ?_
    refine ex_go (S := (50, [(4, .inl ((q / 8) + 0)), (3, .inl ((q % 8) + 1)), (0, gx_r 191), (1, .inl q), (2, .inl 1)], [], t0, n, 0)) rfl (fun _ => rfl) rfl ?_
    refine ex_go (S := (51, [(4, .inl ((q / 8) + 0)), (3, .inl ((q % 8) + 1)), (0, gx_r 191), (1, .inl q), (2, .inl 1)], [gx_r 191], t0, n, 0)) rfl (fun _ => rfl) rfl ?_
    refine ex_go (S := (52, [(4, .inl ((q / 8) + 0)), (3, .inl ((q % 8) + 1)), (0, gx_r 191), (1, .inl q), (2, .inl 1)], [.inl ((q % 8) + 1), gx_r 191], t0, n, 0)) rfl (fun _ => rfl) rfl ?_
    refine ex_go (S := (54, [(4, .inl ((q / 8) + 0)), (3, .inl ((q % 8) + 1)), (0, gx_r 191), (1, .inl q), (2, .inl 1)], [.inl ((q / 8) + 0), .inl ((q % 8) + 1), gx_r 191], t0, n, 0)) rfl (fun _ => rfl) rfl ?_
    obtain ⟨_, r123, b123, rfl, hb123, hi123⟩ := pc_isPlace191 d n (x := (q % 8) + 1) (y := (q / 8) + 0) (o := O) (e := D) g0 kO kD (by first | decide | omega) (by first | decide | omega) hO hD
    refine gx_callo (a := 191) rfl rfl g0 rfl rfl rfl r123 rfl ?_
    show en_ex _ _ _ _ (57, [(4, .inl ((q / 8) + 0)), (3, .inl ((q % 8) + 1)), (0, gx_r 191), (1, .inl q), (2, .inl 1)], [.inl b123], t0, n, 0) _
    by_cases hc24 : b123 = 0
    · refine gx_1t (c := .eq) rfl (by first | decide | omega) hc24 rfl ?_
      refine ex_go (S := (70, [(4, .inl ((q / 8) + 0)), (3, .inl ((q % 8) + 1)), (0, gx_r 191), (1, .inl q), (2, .inl 1)], [.inl q], t0, n, 0)) rfl (fun _ => rfl) rfl ?_
      refine ex_ret (r := (some (.inl q), t0, n, 0)) rfl (fun _ => rfl) ?_
      have e9 : nb O D q 1 = q := by rw [nb_1]; split <;> omega
      exact ⟨_, rfl, by rw [e9]⟩
    · refine gx_1f (c := .eq) rfl (by first | decide | omega) hc24 rfl ?_
      refine ex_go (S := (61, [(4, .inl ((q / 8) + 0)), (3, .inl ((q % 8) + 1)), (0, gx_r 191), (1, .inl q), (2, .inl 1)], [.inl ((q % 8) + 1)], t0, n, 0)) rfl (fun _ => rfl) rfl ?_
      refine ex_go (S := (63, [(4, .inl ((q / 8) + 0)), (3, .inl ((q % 8) + 1)), (0, gx_r 191), (1, .inl q), (2, .inl 1)], [.inl ((q / 8) + 0), .inl ((q % 8) + 1)], t0, n, 0)) rfl (fun _ => rfl) rfl ?_
      obtain ⟨_, r25, rfl⟩ := pc_placeOf2 d n (t0 := t0) (x := (q % 8) + 1) (y := (q / 8) + 0) (by first | decide | omega) (by first | decide | omega)
      refine ex_stat rfl rfl rfl rfl rfl r25 (Nat.le_refl _) rfl ?_
      show en_ex _ _ _ _ (66, [(4, .inl ((q / 8) + 0)), (3, .inl ((q % 8) + 1)), (0, gx_r 191), (1, .inl q), (2, .inl 1)], [.inl (((q % 8) + 1) + (8 * ((q / 8) + 0)))], t0, n, 0) _
      refine ex_go (S := (70, [(4, .inl ((q / 8) + 0)), (3, .inl ((q % 8) + 1)), (0, gx_r 191), (1, .inl q), (2, .inl 1)], [.inl (((q % 8) + 1) + (8 * ((q / 8) + 0)))], t0, n, 0)) rfl (fun _ => rfl) rfl ?_
      refine ex_ret (r := (some (.inl (((q % 8) + 1) + (8 * ((q / 8) + 0)))), t0, n, 0)) rfl (fun _ => rfl) ?_
      have e9 : nb O D q 1 = ((q % 8) + 1) + (8 * ((q / 8) + 0)) := by rw [nb_1]; split <;> omega
      exact ⟨_, rfl, by rw [e9]⟩
  · refine en_u_ex (d := d + 1) rfl ?_
    show en_ex _ _ _ _ (0, [(0, gx_r 191), (1, .inl q), (2, .inl 2)], [], t0, n, 0) _
    refine ex_go (S := (1, [(0, gx_r 191), (1, .inl q), (2, .inl 2)], [.inl q], t0, n, 0)) rfl (fun _ => rfl) rfl ?_
    obtain ⟨_, r21, rfl⟩ := pz_over (d) n (t0 := t0) (x := q) (by first | decide | omega)
    refine ex_stat rfl rfl rfl rfl rfl r21 (Nat.le_refl _) rfl ?_
    show en_ex _ _ _ _ (4, [(0, gx_r 191), (1, .inl q), (2, .inl 2)], [.inl (q % 8)], t0, n, 0) _
    refine ex_go (S := (5, [(0, gx_r 191), (1, .inl q), (2, .inl 2)], [.inl 2, .inl (q % 8)], t0, n, 0)) rfl (fun _ => rfl) rfl ?_
    refine ex_go (S := (6, [(0, gx_r 191), (1, .inl q), (2, .inl 2)], [.inl 1, .inl 2, .inl (q % 8)], t0, n, 0)) rfl (fun _ => rfl) rfl ?_
    refine ex_go (S := (13, [(0, gx_r 191), (1, .inl q), (2, .inl 2)], [.inl (q % 8)], t0, n, 0)) rfl (fun _ => rfl) rfl ?_
    refine ex_go (S := (14, [(0, gx_r 191), (1, .inl q), (2, .inl 2)], [.inl 2, .inl (q % 8)], t0, n, 0)) rfl (fun _ => rfl) rfl ?_
    refine ex_go (S := (15, [(0, gx_r 191), (1, .inl q), (2, .inl 2)], [.inl 3, .inl 2, .inl (q % 8)], t0, n, 0)) rfl (fun _ => rfl) rfl ?_
    refine ex_go (S := (22, [(0, gx_r 191), (1, .inl q), (2, .inl 2)], [.inl (q % 8)], t0, n, 0)) rfl (fun _ => rfl) rfl ?_
    refine ex_go (S := (23, [(0, gx_r 191), (1, .inl q), (2, .inl 2)], [.inl 0, .inl (q % 8)], t0, n, 0)) rfl (fun _ => rfl) rfl ?_
    refine ex_iadd rfl (by first | decide | omega) rfl ?_
    refine ex_go (S := (25, [(3, .inl ((q % 8) + 0)), (0, gx_r 191), (1, .inl q), (2, .inl 2)], [], t0, n, 0)) rfl (fun _ => rfl) rfl ?_
    refine ex_go (S := (26, [(3, .inl ((q % 8) + 0)), (0, gx_r 191), (1, .inl q), (2, .inl 2)], [.inl q], t0, n, 0)) rfl (fun _ => rfl) rfl ?_
    obtain ⟨_, r22, rfl⟩ := pz_down (d) n (t0 := t0) (x := q) (by first | decide | omega)
    refine ex_stat rfl rfl rfl rfl rfl r22 (Nat.le_refl _) rfl ?_
    show en_ex _ _ _ _ (29, [(3, .inl ((q % 8) + 0)), (0, gx_r 191), (1, .inl q), (2, .inl 2)], [.inl (q / 8)], t0, n, 0) _
    refine ex_go (S := (30, [(3, .inl ((q % 8) + 0)), (0, gx_r 191), (1, .inl q), (2, .inl 2)], [.inl 2, .inl (q / 8)], t0, n, 0)) rfl (fun _ => rfl) rfl ?_
    refine ex_go (S := (31, [(3, .inl ((q % 8) + 0)), (0, gx_r 191), (1, .inl q), (2, .inl 2)], [.inl 2, .inl 2, .inl (q / 8)], t0, n, 0)) rfl (fun _ => rfl) rfl ?_
    refine ex_go (S := (34, [(3, .inl ((q % 8) + 0)), (0, gx_r 191), (1, .inl q), (2, .inl 2)], [.inl (q / 8)], t0, n, 0)) rfl (fun _ => rfl) rfl ?_
    refine ex_go (S := (35, [(3, .inl ((q % 8) + 0)), (0, gx_r 191), (1, .inl q), (2, .inl 2)], [.inl 1, .inl (q / 8)], t0, n, 0)) rfl (fun _ => rfl) rfl ?_
    refine ex_go (S := (47, [(3, .inl ((q % 8) + 0)), (0, gx_r 191), (1, .inl q), (2, .inl 2)], [.inl 1, .inl (q / 8)], t0, n, 0)) rfl (fun _ => rfl) rfl ?_
    refine ex_iadd rfl (by first | decide | omega) rfl ?_
    refine ex_go (S := (50, [(4, .inl ((q / 8) + 1)), (3, .inl ((q % 8) + 0)), (0, gx_r 191), (1, .inl q), (2, .inl 2)], [], t0, n, 0)) rfl (fun _ => rfl) rfl ?_
    refine ex_go (S := (51, [(4, .inl ((q / 8) + 1)), (3, .inl ((q % 8) + 0)), (0, gx_r 191), (1, .inl q), (2, .inl 2)], [gx_r 191], t0, n, 0)) rfl (fun _ => rfl) rfl ?_
    refine ex_go (S := (52, [(4, .inl ((q / 8) + 1)), (3, .inl ((q % 8) + 0)), (0, gx_r 191), (1, .inl q), (2, .inl 2)], [.inl ((q % 8) + 0), gx_r 191], t0, n, 0)) rfl (fun _ => rfl) rfl ?_
    refine ex_go (S := (54, [(4, .inl ((q / 8) + 1)), (3, .inl ((q % 8) + 0)), (0, gx_r 191), (1, .inl q), (2, .inl 2)], [.inl ((q / 8) + 1), .inl ((q % 8) + 0), gx_r 191], t0, n, 0)) rfl (fun _ => rfl) rfl ?_
    obtain ⟨_, r123, b123, rfl, hb123, hi123⟩ := pc_isPlace191 d n (x := (q % 8) + 0) (y := (q / 8) + 1) (o := O) (e := D) g0 kO kD (by first | decide | omega) (by first | decide | omega) hO hD
    refine gx_callo (a := 191) rfl rfl g0 rfl rfl rfl r123 rfl ?_
    show en_ex _ _ _ _ (57, [(4, .inl ((q / 8) + 1)), (3, .inl ((q % 8) + 0)), (0, gx_r 191), (1, .inl q), (2, .inl 2)], [.inl b123], t0, n, 0) _
    by_cases hc24 : b123 = 0
    · refine gx_1t (c := .eq) rfl (by first | decide | omega) hc24 rfl ?_
      refine ex_go (S := (70, [(4, .inl ((q / 8) + 1)), (3, .inl ((q % 8) + 0)), (0, gx_r 191), (1, .inl q), (2, .inl 2)], [.inl q], t0, n, 0)) rfl (fun _ => rfl) rfl ?_
      refine ex_ret (r := (some (.inl q), t0, n, 0)) rfl (fun _ => rfl) ?_
      have e9 : nb O D q 2 = q := by rw [nb_2]; split <;> omega
      exact ⟨_, rfl, by rw [e9]⟩
    · refine gx_1f (c := .eq) rfl (by first | decide | omega) hc24 rfl ?_
      refine ex_go (S := (61, [(4, .inl ((q / 8) + 1)), (3, .inl ((q % 8) + 0)), (0, gx_r 191), (1, .inl q), (2, .inl 2)], [.inl ((q % 8) + 0)], t0, n, 0)) rfl (fun _ => rfl) rfl ?_
      refine ex_go (S := (63, [(4, .inl ((q / 8) + 1)), (3, .inl ((q % 8) + 0)), (0, gx_r 191), (1, .inl q), (2, .inl 2)], [.inl ((q / 8) + 1), .inl ((q % 8) + 0)], t0, n, 0)) rfl (fun _ => rfl) rfl ?_
      obtain ⟨_, r25, rfl⟩ := pc_placeOf2 d n (t0 := t0) (x := (q % 8) + 0) (y := (q / 8) + 1) (by first | decide | omega) (by first | decide | omega)
      refine ex_stat rfl rfl rfl rfl rfl r25 (Nat.le_refl _) rfl ?_
      show en_ex _ _ _ _ (66, [(4, .inl ((q / 8) + 1)), (3, .inl ((q % 8) + 0)), (0, gx_r 191), (1, .inl q), (2, .inl 2)], [.inl (((q % 8) + 0) + (8 * ((q / 8) + 1)))], t0, n, 0) _
      refine ex_go (S := (70, [(4, .inl ((q / 8) + 1)), (3, .inl ((q % 8) + 0)), (0, gx_r 191), (1, .inl q), (2, .inl 2)], [.inl (((q % 8) + 0) + (8 * ((q / 8) + 1)))], t0, n, 0)) rfl (fun _ => rfl) rfl ?_
      refine ex_ret (r := (some (.inl (((q % 8) + 0) + (8 * ((q / 8) + 1)))), t0, n, 0)) rfl (fun _ => rfl) ?_
      have e9 : nb O D q 2 = ((q % 8) + 0) + (8 * ((q / 8) + 1)) := by rw [nb_2]; split <;> omega
      exact ⟨_, rfl, by rw [e9]⟩
  · refine en_u_ex (d := d + 1) rfl ?_
    show en_ex _ _ _ _ (0, [(0, gx_r 191), (1, .inl q), (2, .inl 3)], [], t0, n, 0) _
    refine ex_go (S := (1, [(0, gx_r 191), (1, .inl q), (2, .inl 3)], [.inl q], t0, n, 0)) rfl (fun _ => rfl) rfl ?_
    obtain ⟨_, r21, rfl⟩ := pz_over (d) n (t0 := t0) (x := q) (by first | decide | omega)
    refine ex_stat rfl rfl rfl rfl rfl r21 (Nat.le_refl _) rfl ?_
    show en_ex _ _ _ _ (4, [(0, gx_r 191), (1, .inl q), (2, .inl 3)], [.inl (q % 8)], t0, n, 0) _
    refine ex_go (S := (5, [(0, gx_r 191), (1, .inl q), (2, .inl 3)], [.inl 3, .inl (q % 8)], t0, n, 0)) rfl (fun _ => rfl) rfl ?_
    refine ex_go (S := (6, [(0, gx_r 191), (1, .inl q), (2, .inl 3)], [.inl 1, .inl 3, .inl (q % 8)], t0, n, 0)) rfl (fun _ => rfl) rfl ?_
    refine ex_go (S := (13, [(0, gx_r 191), (1, .inl q), (2, .inl 3)], [.inl (q % 8)], t0, n, 0)) rfl (fun _ => rfl) rfl ?_
    refine ex_go (S := (14, [(0, gx_r 191), (1, .inl q), (2, .inl 3)], [.inl 3, .inl (q % 8)], t0, n, 0)) rfl (fun _ => rfl) rfl ?_
    refine ex_go (S := (15, [(0, gx_r 191), (1, .inl q), (2, .inl 3)], [.inl 3, .inl 3, .inl (q % 8)], t0, n, 0)) rfl (fun _ => rfl) rfl ?_
    refine ex_go (S := (18, [(0, gx_r 191), (1, .inl q), (2, .inl 3)], [.inl (q % 8)], t0, n, 0)) rfl (fun _ => rfl) rfl ?_
    refine ex_go (S := (19, [(0, gx_r 191), (1, .inl q), (2, .inl 3)], [.inl 4294967295, .inl (q % 8)], t0, n, 0)) rfl (fun _ => rfl) rfl ?_
    refine ex_go (S := (23, [(0, gx_r 191), (1, .inl q), (2, .inl 3)], [.inl 4294967295, .inl (q % 8)], t0, n, 0)) rfl (fun _ => rfl) rfl ?_
    refine gx_iaddm rfl (by first | decide | omega) rfl ?_
    refine ex_go (S := (25, [(3, .inl (gz (q % 8))), (0, gx_r 191), (1, .inl q), (2, .inl 3)], [], t0, n, 0)) rfl (fun _ => rfl) rfl ?_
    refine ex_go (S := (26, [(3, .inl (gz (q % 8))), (0, gx_r 191), (1, .inl q), (2, .inl 3)], [.inl q], t0, n, 0)) rfl (fun _ => rfl) rfl ?_
    obtain ⟨_, r22, rfl⟩ := pz_down (d) n (t0 := t0) (x := q) (by first | decide | omega)
    refine ex_stat rfl rfl rfl rfl rfl r22 (Nat.le_refl _) rfl ?_
    show en_ex _ _ _ _ (29, [(3, .inl (gz (q % 8))), (0, gx_r 191), (1, .inl q), (2, .inl 3)], [.inl (q / 8)], t0, n, 0) _
    refine ex_go (S := (30, [(3, .inl (gz (q % 8))), (0, gx_r 191), (1, .inl q), (2, .inl 3)], [.inl 3, .inl (q / 8)], t0, n, 0)) rfl (fun _ => rfl) rfl ?_
    refine ex_go (S := (31, [(3, .inl (gz (q % 8))), (0, gx_r 191), (1, .inl q), (2, .inl 3)], [.inl 2, .inl 3, .inl (q / 8)], t0, n, 0)) rfl (fun _ => rfl) rfl ?_
    refine ex_go (S := (38, [(3, .inl (gz (q % 8))), (0, gx_r 191), (1, .inl q), (2, .inl 3)], [.inl (q / 8)], t0, n, 0)) rfl (fun _ => rfl) rfl ?_
    refine ex_go (S := (39, [(3, .inl (gz (q % 8))), (0, gx_r 191), (1, .inl q), (2, .inl 3)], [.inl 3, .inl (q / 8)], t0, n, 0)) rfl (fun _ => rfl) rfl ?_
    refine ex_go (S := (46, [(3, .inl (gz (q % 8))), (0, gx_r 191), (1, .inl q), (2, .inl 3)], [.inl (q / 8)], t0, n, 0)) rfl (fun _ => rfl) rfl ?_
    refine ex_go (S := (47, [(3, .inl (gz (q % 8))), (0, gx_r 191), (1, .inl q), (2, .inl 3)], [.inl 0, .inl (q / 8)], t0, n, 0)) rfl (fun _ => rfl) rfl ?_
    refine ex_iadd rfl (by first | decide | omega) rfl ?_
    refine ex_go (S := (50, [(4, .inl ((q / 8) + 0)), (3, .inl (gz (q % 8))), (0, gx_r 191), (1, .inl q), (2, .inl 3)], [], t0, n, 0)) rfl (fun _ => rfl) rfl ?_
    refine ex_go (S := (51, [(4, .inl ((q / 8) + 0)), (3, .inl (gz (q % 8))), (0, gx_r 191), (1, .inl q), (2, .inl 3)], [gx_r 191], t0, n, 0)) rfl (fun _ => rfl) rfl ?_
    refine ex_go (S := (52, [(4, .inl ((q / 8) + 0)), (3, .inl (gz (q % 8))), (0, gx_r 191), (1, .inl q), (2, .inl 3)], [.inl (gz (q % 8)), gx_r 191], t0, n, 0)) rfl (fun _ => rfl) rfl ?_
    refine ex_go (S := (54, [(4, .inl ((q / 8) + 0)), (3, .inl (gz (q % 8))), (0, gx_r 191), (1, .inl q), (2, .inl 3)], [.inl ((q / 8) + 0), .inl (gz (q % 8)), gx_r 191], t0, n, 0)) rfl (fun _ => rfl) rfl ?_
    obtain ⟨_, r123, b123, rfl, hb123, hi123⟩ := pc_isPlace191 d n (x := gz (q % 8)) (y := (q / 8) + 0) (o := O) (e := D) g0 kO kD (by first | decide | omega) (by first | decide | omega) hO hD
    refine gx_callo (a := 191) rfl rfl g0 rfl rfl rfl r123 rfl ?_
    show en_ex _ _ _ _ (57, [(4, .inl ((q / 8) + 0)), (3, .inl (gz (q % 8))), (0, gx_r 191), (1, .inl q), (2, .inl 3)], [.inl b123], t0, n, 0) _
    by_cases hc24 : b123 = 0
    · refine gx_1t (c := .eq) rfl (by first | decide | omega) hc24 rfl ?_
      refine ex_go (S := (70, [(4, .inl ((q / 8) + 0)), (3, .inl (gz (q % 8))), (0, gx_r 191), (1, .inl q), (2, .inl 3)], [.inl q], t0, n, 0)) rfl (fun _ => rfl) rfl ?_
      refine ex_ret (r := (some (.inl q), t0, n, 0)) rfl (fun _ => rfl) ?_
      have e9 : nb O D q 3 = q := by rw [nb_3]; split <;> omega
      exact ⟨_, rfl, by rw [e9]⟩
    · refine gx_1f (c := .eq) rfl (by first | decide | omega) hc24 rfl ?_
      refine ex_go (S := (61, [(4, .inl ((q / 8) + 0)), (3, .inl (gz (q % 8))), (0, gx_r 191), (1, .inl q), (2, .inl 3)], [.inl (gz (q % 8))], t0, n, 0)) rfl (fun _ => rfl) rfl ?_
      refine ex_go (S := (63, [(4, .inl ((q / 8) + 0)), (3, .inl (gz (q % 8))), (0, gx_r 191), (1, .inl q), (2, .inl 3)], [.inl ((q / 8) + 0), .inl (gz (q % 8))], t0, n, 0)) rfl (fun _ => rfl) rfl ?_
      obtain ⟨_, r25, rfl⟩ := pc_placeOf2 d n (t0 := t0) (x := gz (q % 8)) (y := (q / 8) + 0) (by first | decide | omega) (by first | decide | omega)
      refine ex_stat rfl rfl rfl rfl rfl r25 (Nat.le_refl _) rfl ?_
      show en_ex _ _ _ _ (66, [(4, .inl ((q / 8) + 0)), (3, .inl (gz (q % 8))), (0, gx_r 191), (1, .inl q), (2, .inl 3)], [.inl ((gz (q % 8)) + (8 * ((q / 8) + 0)))], t0, n, 0) _
      refine ex_go (S := (70, [(4, .inl ((q / 8) + 0)), (3, .inl (gz (q % 8))), (0, gx_r 191), (1, .inl q), (2, .inl 3)], [.inl ((gz (q % 8)) + (8 * ((q / 8) + 0)))], t0, n, 0)) rfl (fun _ => rfl) rfl ?_
      refine ex_ret (r := (some (.inl ((gz (q % 8)) + (8 * ((q / 8) + 0)))), t0, n, 0)) rfl (fun _ => rfl) ?_
      have e9 : nb O D q 3 = (gz (q % 8)) + (8 * ((q / 8) + 0)) := by rw [nb_3]; split <;> omega
      exact ⟨_, rfl, by rw [e9]⟩
  · refine en_u_ex (d := d + 1) rfl ?_
    show en_ex _ _ _ _ (0, [(0, gx_r 191), (1, .inl q), (2, .inl 4)], [], t0, n, 0) _
    refine ex_go (S := (1, [(0, gx_r 191), (1, .inl q), (2, .inl 4)], [.inl q], t0, n, 0)) rfl (fun _ => rfl) rfl ?_
    obtain ⟨_, r21, rfl⟩ := pz_over (d) n (t0 := t0) (x := q) (by first | decide | omega)
    refine ex_stat rfl rfl rfl rfl rfl r21 (Nat.le_refl _) rfl ?_
    show en_ex _ _ _ _ (4, [(0, gx_r 191), (1, .inl q), (2, .inl 4)], [.inl (q % 8)], t0, n, 0) _
    refine ex_go (S := (5, [(0, gx_r 191), (1, .inl q), (2, .inl 4)], [.inl 4, .inl (q % 8)], t0, n, 0)) rfl (fun _ => rfl) rfl ?_
    refine ex_go (S := (6, [(0, gx_r 191), (1, .inl q), (2, .inl 4)], [.inl 1, .inl 4, .inl (q % 8)], t0, n, 0)) rfl (fun _ => rfl) rfl ?_
    refine ex_go (S := (13, [(0, gx_r 191), (1, .inl q), (2, .inl 4)], [.inl (q % 8)], t0, n, 0)) rfl (fun _ => rfl) rfl ?_
    refine ex_go (S := (14, [(0, gx_r 191), (1, .inl q), (2, .inl 4)], [.inl 4, .inl (q % 8)], t0, n, 0)) rfl (fun _ => rfl) rfl ?_
    refine ex_go (S := (15, [(0, gx_r 191), (1, .inl q), (2, .inl 4)], [.inl 3, .inl 4, .inl (q % 8)], t0, n, 0)) rfl (fun _ => rfl) rfl ?_
    refine ex_go (S := (22, [(0, gx_r 191), (1, .inl q), (2, .inl 4)], [.inl (q % 8)], t0, n, 0)) rfl (fun _ => rfl) rfl ?_
    refine ex_go (S := (23, [(0, gx_r 191), (1, .inl q), (2, .inl 4)], [.inl 0, .inl (q % 8)], t0, n, 0)) rfl (fun _ => rfl) rfl ?_
    refine ex_iadd rfl (by first | decide | omega) rfl ?_
    refine ex_go (S := (25, [(3, .inl ((q % 8) + 0)), (0, gx_r 191), (1, .inl q), (2, .inl 4)], [], t0, n, 0)) rfl (fun _ => rfl) rfl ?_
    refine ex_go (S := (26, [(3, .inl ((q % 8) + 0)), (0, gx_r 191), (1, .inl q), (2, .inl 4)], [.inl q], t0, n, 0)) rfl (fun _ => rfl) rfl ?_
    obtain ⟨_, r22, rfl⟩ := pz_down (d) n (t0 := t0) (x := q) (by first | decide | omega)
    refine ex_stat rfl rfl rfl rfl rfl r22 (Nat.le_refl _) rfl ?_
    show en_ex _ _ _ _ (29, [(3, .inl ((q % 8) + 0)), (0, gx_r 191), (1, .inl q), (2, .inl 4)], [.inl (q / 8)], t0, n, 0) _
    refine ex_go (S := (30, [(3, .inl ((q % 8) + 0)), (0, gx_r 191), (1, .inl q), (2, .inl 4)], [.inl 4, .inl (q / 8)], t0, n, 0)) rfl (fun _ => rfl) rfl ?_
    refine ex_go (S := (31, [(3, .inl ((q % 8) + 0)), (0, gx_r 191), (1, .inl q), (2, .inl 4)], [.inl 2, .inl 4, .inl (q / 8)], t0, n, 0)) rfl (fun _ => rfl) rfl ?_
    refine ex_go (S := (38, [(3, .inl ((q % 8) + 0)), (0, gx_r 191), (1, .inl q), (2, .inl 4)], [.inl (q / 8)], t0, n, 0)) rfl (fun _ => rfl) rfl ?_
    refine ex_go (S := (39, [(3, .inl ((q % 8) + 0)), (0, gx_r 191), (1, .inl q), (2, .inl 4)], [.inl 4, .inl (q / 8)], t0, n, 0)) rfl (fun _ => rfl) rfl ?_
    refine ex_go (S := (46, [(3, .inl ((q % 8) + 0)), (0, gx_r 191), (1, .inl q), (2, .inl 4)], [.inl (q / 8)], t0, n, 0)) rfl (fun _ => rfl) rfl ?_
    refine ex_go (S := (47, [(3, .inl ((q % 8) + 0)), (0, gx_r 191), (1, .inl q), (2, .inl 4)], [.inl 0, .inl (q / 8)], t0, n, 0)) rfl (fun _ => rfl) rfl ?_
    refine ex_iadd rfl (by first | decide | omega) rfl ?_
    refine ex_go (S := (50, [(4, .inl ((q / 8) + 0)), (3, .inl ((q % 8) + 0)), (0, gx_r 191), (1, .inl q), (2, .inl 4)], [], t0, n, 0)) rfl (fun _ => rfl) rfl ?_
    refine ex_go (S := (51, [(4, .inl ((q / 8) + 0)), (3, .inl ((q % 8) + 0)), (0, gx_r 191), (1, .inl q), (2, .inl 4)], [gx_r 191], t0, n, 0)) rfl (fun _ => rfl) rfl ?_
    refine ex_go (S := (52, [(4, .inl ((q / 8) + 0)), (3, .inl ((q % 8) + 0)), (0, gx_r 191), (1, .inl q), (2, .inl 4)], [.inl ((q % 8) + 0), gx_r 191], t0, n, 0)) rfl (fun _ => rfl) rfl ?_
    refine ex_go (S := (54, [(4, .inl ((q / 8) + 0)), (3, .inl ((q % 8) + 0)), (0, gx_r 191), (1, .inl q), (2, .inl 4)], [.inl ((q / 8) + 0), .inl ((q % 8) + 0), gx_r 191], t0, n, 0)) rfl (fun _ => rfl) rfl ?_
    obtain ⟨_, r123, b123, rfl, hb123, hi123⟩ := pc_isPlace191 d n (x := (q % 8) + 0) (y := (q / 8) + 0) (o := O) (e := D) g0 kO kD (by first | decide | omega) (by first | decide | omega) hO hD
    refine gx_callo (a := 191) rfl rfl g0 rfl rfl rfl r123 rfl ?_
    show en_ex _ _ _ _ (57, [(4, .inl ((q / 8) + 0)), (3, .inl ((q % 8) + 0)), (0, gx_r 191), (1, .inl q), (2, .inl 4)], [.inl b123], t0, n, 0) _
    by_cases hc24 : b123 = 0
    · refine gx_1t (c := .eq) rfl (by first | decide | omega) hc24 rfl ?_
      refine ex_go (S := (70, [(4, .inl ((q / 8) + 0)), (3, .inl ((q % 8) + 0)), (0, gx_r 191), (1, .inl q), (2, .inl 4)], [.inl q], t0, n, 0)) rfl (fun _ => rfl) rfl ?_
      refine ex_ret (r := (some (.inl q), t0, n, 0)) rfl (fun _ => rfl) ?_
      have e9 : nb O D q 4 = q := by rw [nb_4]
      exact ⟨_, rfl, by rw [e9]⟩
    · refine gx_1f (c := .eq) rfl (by first | decide | omega) hc24 rfl ?_
      refine ex_go (S := (61, [(4, .inl ((q / 8) + 0)), (3, .inl ((q % 8) + 0)), (0, gx_r 191), (1, .inl q), (2, .inl 4)], [.inl ((q % 8) + 0)], t0, n, 0)) rfl (fun _ => rfl) rfl ?_
      refine ex_go (S := (63, [(4, .inl ((q / 8) + 0)), (3, .inl ((q % 8) + 0)), (0, gx_r 191), (1, .inl q), (2, .inl 4)], [.inl ((q / 8) + 0), .inl ((q % 8) + 0)], t0, n, 0)) rfl (fun _ => rfl) rfl ?_
      obtain ⟨_, r25, rfl⟩ := pc_placeOf2 d n (t0 := t0) (x := (q % 8) + 0) (y := (q / 8) + 0) (by first | decide | omega) (by first | decide | omega)
      refine ex_stat rfl rfl rfl rfl rfl r25 (Nat.le_refl _) rfl ?_
      show en_ex _ _ _ _ (66, [(4, .inl ((q / 8) + 0)), (3, .inl ((q % 8) + 0)), (0, gx_r 191), (1, .inl q), (2, .inl 4)], [.inl (((q % 8) + 0) + (8 * ((q / 8) + 0)))], t0, n, 0) _
      refine ex_go (S := (70, [(4, .inl ((q / 8) + 0)), (3, .inl ((q % 8) + 0)), (0, gx_r 191), (1, .inl q), (2, .inl 4)], [.inl (((q % 8) + 0) + (8 * ((q / 8) + 0)))], t0, n, 0)) rfl (fun _ => rfl) rfl ?_
      refine ex_ret (r := (some (.inl (((q % 8) + 0) + (8 * ((q / 8) + 0)))), t0, n, 0)) rfl (fun _ => rfl) ?_
      have e9 : nb O D q 4 = ((q % 8) + 0) + (8 * ((q / 8) + 0)) := by rw [nb_4]; omega
      exact ⟨_, rfl, by rw [e9]⟩
theorem jmG191 {k : Nat} (hk : k < 16) : ah_G (241 + k) = some ag_241 := by
  rcases (show k = 0 ∨ k = 1 ∨ k = 2 ∨ k = 3 ∨ k = 4 ∨ k = 5 ∨ k = 6 ∨ k = 7 ∨ k = 8 ∨ k = 9 ∨ k = 10 ∨ k = 11 ∨ k = 12 ∨ k = 13 ∨ k = 14 ∨ k = 15 by omega) with rfl | rfl | rfl | rfl | rfl | rfl | rfl | rfl | rfl | rfl | rfl | rfl | rfl | rfl | rfl | rfl <;> rfl
theorem st_a191 (d n : Nat) {tb : en_H} {O D : Nat} {F : Nat → Nat} {Q : en_O → Prop} (hO : O ≤ 8) (hD : D ≤ 8) (kO : ai_hv tb 191 0 = some (.inl O)) (kD : ai_hv tb 191 1 = some (.inl D)) (kF : ∀ j, j < 64 → ai_hv tb 192 j = some (.inl (F j)) ∧ F j ≤ 4) (kr : ∀ i, i < 16 → ai_hv tb 240 i = some (gx_r (241 + i))) (hQ : ∀ t1, ai_HG ah_G t1 → (∀ c i, ¬ ((c = 191 ∧ i = 16) ∨ c = 193 ∨ c = 239 ∨ c = 241) → ai_hv t1 c i = ai_hv tb c i) → ((∀ j, j < 64 → ai_hv t1 193 j = some (.inl (nb O D j (F j))) ∧ ai_hv t1 241 j = some (.inl (nb O D j (F j)))) ∧ (∃ g, ai_hv t1 191 16 = some (.inr (.inl g)) ∧ bts g (fun j => decide (j < 64) && inG O D j)) ∧ ∃ fl : Nat → Nat, ∀ s, s < 5 → ai_hv t1 239 s = some (.inr (.inl (fl s))) ∧ bts (fl s) (fun j => decide (j < 64) && (inG O D j && decide (fdir O D F j = s)))) → en_ex none (en_u (d + 2)) (en_code 14) (fun _ => false) (130, [(1, .inl 64), (0, gx_r 191)], [], t1, n, 0) Q) : ∀ j k t0, k + j = 64 → ai_HG ah_G t0 → (∀ c i, ¬ ((c = 191 ∧ i = 16) ∨ c = 193 ∨ c = 239 ∨ c = 241) → ai_hv t0 c i = ai_hv tb c i) → ((∀ j, j < k → ai_hv t0 193 j = some (.inl (nb O D j (F j))) ∧ ai_hv t0 241 j = some (.inl (nb O D j (F j)))) ∧ (∃ g, ai_hv t0 191 16 = some (.inr (.inl g)) ∧ bts g (fun j => decide (j < k) && inG O D j)) ∧ ∃ fl : Nat → Nat, ∀ s, s < 5 → ai_hv t0 239 s = some (.inr (.inl (fl s))) ∧ bts (fl s) (fun j => decide (j < k) && (inG O D j && decide (fdir O D F j = s)))) → en_ex none (en_u (d + 2)) (en_code 14) (fun _ => false) (27, [(1, .inl k), (0, gx_r 191)], [], t0, n, 0) Q := by
  intro j
  induction j with
  | zero =>
    intro k t0 hk g0 e0 i0
    have hk : k = 64 := by omega
    subst hk
    refine ex_go (S := (28, [(1, .inl 64), (0, gx_r 191)], [.inl 64], t0, n, 0)) rfl (fun _ => rfl) rfl ?_
    refine ex_go (S := (30, [(1, .inl 64), (0, gx_r 191)], [.inl 64, .inl 64], t0, n, 0)) rfl (fun _ => rfl) rfl ?_
    refine ex_go (S := (130, [(1, .inl 64), (0, gx_r 191)], [], t0, n, 0)) rfl (fun _ => rfl) rfl ?_
    exact hQ t0 g0 e0 i0
  | succ j ih =>
    intro k t0 hk g0 e0 i0
    obtain ⟨i1, ⟨g, kg, bg⟩, fl, kfl⟩ := i0
    obtain ⟨kf, hf⟩ := kF k (by first | decide | omega)
    have kf := (e0 192 k (by first | decide | omega)).trans kf
    have hn := nb_lt (O := O) (D := D) (p := k) (s := F k) (by first | decide | omega) hO hD
    have hg64 := bg.1
    have hfd : fdir O D F k ≤ 4 := by unfold fdir; split <;> omega
    refine ex_go (S := (28, [(1, .inl k), (0, gx_r 191)], [.inl k], t0, n, 0)) rfl (fun _ => rfl) rfl ?_
    refine ex_go (S := (30, [(1, .inl k), (0, gx_r 191)], [.inl 64, .inl k], t0, n, 0)) rfl (fun _ => rfl) rfl ?_
    refine gx_2f (c := .ge) rfl (by first | decide | omega) (by first | decide | omega) (show ¬ (64 ≤ k) from by omega) rfl ?_
    refine ex_go (S := (34, [(1, .inl k), (0, gx_r 191)], [gx_r 191], t0, n, 0)) rfl (fun _ => rfl) rfl ?_
    refine gxo_ref (a := 191) (c := 193) rfl g0 rfl rfl rfl rfl rfl ?_
    refine ex_go (S := (38, [(1, .inl k), (0, gx_r 191)], [.inl k, gx_r 193], t0, n, 0)) rfl (fun _ => rfl) rfl ?_
    refine ex_go (S := (39, [(1, .inl k), (0, gx_r 191)], [gx_r 191, .inl k, gx_r 193], t0, n, 0)) rfl (fun _ => rfl) rfl ?_
    refine ex_go (S := (40, [(1, .inl k), (0, gx_r 191)], [.inl k, gx_r 191, .inl k, gx_r 193], t0, n, 0)) rfl (fun _ => rfl) rfl ?_
    refine ex_go (S := (41, [(1, .inl k), (0, gx_r 191)], [gx_r 191, .inl k, gx_r 191, .inl k, gx_r 193], t0, n, 0)) rfl (fun _ => rfl) rfl ?_
    refine gxo_ref (a := 191) (c := 192) rfl g0 rfl rfl rfl rfl rfl ?_
    refine ex_go (S := (45, [(1, .inl k), (0, gx_r 191)], [.inl k, gx_r 192, .inl k, gx_r 191, .inl k, gx_r 193], t0, n, 0)) rfl (fun _ => rfl) rfl ?_
    refine gx_ag (v := .inl (F k)) (cb := fun c => Nat.beq c 0) rfl (fun _ => rfl) g0 rfl rfl kf (by first | decide | omega) rfl ?_
    obtain ⟨_, r21, rfl⟩ := sc_nb191 d n (q := k) (s := F k) g0 ((e0 191 0 (by first | decide | omega)).trans kO) ((e0 191 1 (by first | decide | omega)).trans kD) hO hD (by first | decide | omega) hf
    refine gx_callo (a := 191) rfl rfl g0 rfl rfl rfl r21 rfl ?_
    show en_ex _ _ _ _ (49, [(1, .inl k), (0, gx_r 191)], [.inl (nb O D k (F k)), .inl k, gx_r 193], t0, n, 0) _
    refine gx_ap rfl (fun _ => rfl) g0 rfl rfl rfl (show k < 64 from by omega) (gx_run1 (show k < 64 from by omega)) (ai_in_h (by first | decide | omega) (by first | decide | omega) (by first | decide | omega)) rfl (fun t122 g122 k122 e122 => ?_)
    have k23 : ai_hv t122 192 k = some (.inl (F k)) := (e122 192 k (by first | decide | omega)).trans kf
    have k24 : ai_hv t122 191 16 = some (.inr (.inl g)) := (e122 191 16 (by first | decide | omega)).trans kg
    refine ex_go (S := (51, [(1, .inl k), (0, gx_r 191)], [gx_r 191], t122, n, 0)) rfl (fun _ => rfl) rfl ?_
    refine gxo_ref (a := 191) (c := 240) rfl g122 rfl rfl rfl rfl rfl ?_
    refine ex_go (S := (55, [(1, .inl k), (0, gx_r 191)], [.inl 0, gx_r 240], t122, n, 0)) rfl (fun _ => rfl) rfl ?_
    refine gx_ag (v := gx_r 241) (cb := fun c => Nat.ble 4 c && Nat.ble c 7) rfl (fun _ => rfl) g122 rfl rfl ((e122 240 0 (by first | decide | omega)).trans ((e0 240 0 (by first | decide | omega)).trans (kr 0 (by first | decide | omega)))) (by first | decide | omega) rfl ?_
    refine ex_go (S := (57, [(1, .inl k), (0, gx_r 191)], [.inl k, gx_r 241], t122, n, 0)) rfl (fun _ => rfl) rfl ?_
    refine ex_go (S := (58, [(1, .inl k), (0, gx_r 191)], [gx_r 191, .inl k, gx_r 241], t122, n, 0)) rfl (fun _ => rfl) rfl ?_
    refine gxo_ref (a := 191) (c := 193) rfl g122 rfl rfl rfl rfl rfl ?_
    refine ex_go (S := (62, [(1, .inl k), (0, gx_r 191)], [.inl k, gx_r 193, .inl k, gx_r 241], t122, n, 0)) rfl (fun _ => rfl) rfl ?_
    refine gx_ag (v := .inl (nb O D k (F k))) (cb := fun c => Nat.beq c 0) rfl (fun _ => rfl) g122 rfl rfl k122 (by first | decide | omega) rfl ?_
    refine gx_ap rfl (fun _ => rfl) g122 rfl rfl rfl (show k < 64 from by omega) (gx_run1 (show k < 64 from by omega)) (ai_in_h (by first | decide | omega) (by first | decide | omega) (by first | decide | omega)) rfl (fun t125 g125 k125 e125 => ?_)
    have k26 : ai_hv t125 192 k = some (.inl (F k)) := (e125 192 k (by first | decide | omega)).trans k23
    have k27 : ai_hv t125 191 16 = some (.inr (.inl g)) := (e125 191 16 (by first | decide | omega)).trans k24
    have k28 : ai_hv t125 193 k = some (.inl (nb O D k (F k))) := (e125 193 k (by first | decide | omega)).trans k122
    refine ex_go (S := (65, [(1, .inl k), (0, gx_r 191)], [gx_r 191], t125, n, 0)) rfl (fun _ => rfl) rfl ?_
    refine ex_go (S := (66, [(1, .inl k), (0, gx_r 191)], [.inl k, gx_r 191], t125, n, 0)) rfl (fun _ => rfl) rfl ?_
    obtain ⟨_, r29, rfl⟩ := pz_over (d + 1) n (t0 := t125) (x := k) (by first | decide | omega)
    refine ex_stat rfl rfl rfl rfl rfl r29 (Nat.le_refl _) rfl ?_
    show en_ex _ _ _ _ (69, [(1, .inl k), (0, gx_r 191)], [.inl (k % 8), gx_r 191], t125, n, 0) _
    refine ex_go (S := (70, [(1, .inl k), (0, gx_r 191)], [.inl k, .inl (k % 8), gx_r 191], t125, n, 0)) rfl (fun _ => rfl) rfl ?_
    obtain ⟨_, r30, rfl⟩ := pz_down (d + 1) n (t0 := t125) (x := k) (by first | decide | omega)
    refine ex_stat rfl rfl rfl rfl rfl r30 (Nat.le_refl _) rfl ?_
    show en_ex _ _ _ _ (73, [(1, .inl k), (0, gx_r 191)], [.inl (k / 8), .inl (k % 8), gx_r 191], t125, n, 0) _
    obtain ⟨_, r131, b131, rfl, hb131, hi131⟩ := pc_isPlace191 (d + 1) n (x := k % 8) (y := k / 8) (o := O) (e := D) g125 (((e125 191 0 (by first | decide | omega)).trans (e122 191 0 (by first | decide | omega))).trans ((e0 191 0 (by first | decide | omega)).trans kO)) (((e125 191 1 (by first | decide | omega)).trans (e122 191 1 (by first | decide | omega))).trans ((e0 191 1 (by first | decide | omega)).trans kD)) (by first | decide | omega) (by first | decide | omega) hO hD
    refine gx_callo (a := 191) rfl rfl g125 rfl rfl rfl r131 rfl ?_
    show en_ex _ _ _ _ (76, [(1, .inl k), (0, gx_r 191)], [.inl b131], t125, n, 0) _
    by_cases hc32 : b131 = 0
    · refine gx_1t (c := .eq) rfl (by first | decide | omega) hc32 rfl ?_
      refine gx_iinc (i := 1) (k := 1) rfl (fun _ => rfl) (by first | decide | omega) rfl ?_
      show en_ex _ _ _ _ (127, [(1, .inl (k + 1)), (0, gx_r 191)], [], t125, n, 0) _
      refine ex_go (S := (27, [(1, .inl (k + 1)), (0, gx_r 191)], [], t125, n, 0)) rfl (fun _ => rfl) rfl ?_
      refine ih (k + 1) t125 (by first | decide | omega) g125 (fun c i h => ((e125 c i (by first | decide | omega)).trans (e122 c i (by first | decide | omega))).trans (e0 c i h)) ⟨fun j hj => ?_, ?_, ?_⟩
      · by_cases e9 : j = k
        · subst e9; exact ⟨k28, k125⟩
        · exact ⟨((e125 193 j (by first | decide | omega)).trans (e122 193 j (by first | decide | omega))).trans (i1 j (by first | decide | omega)).1, ((e125 241 j (by first | decide | omega)).trans (e122 241 j (by first | decide | omega))).trans (i1 j (by first | decide | omega)).2⟩
      · refine ⟨g, ((e125 191 16 (by first | decide | omega)).trans (e122 191 16 (by first | decide | omega))).trans kg, bts_mk bg.1 (fun j hj => ?_)⟩
        rw [bts_at bg hj]
        by_cases e9 : j = k
        · have z9 : inG O D j = false := by unfold inG; rw [e9]; simp only [Bool.and_eq_false_iff, decide_eq_false_iff_not]; omega
          rw [z9, Bool.and_false, Bool.and_false]
        · have z9 : decide (j < k + 1) = decide (j < k) := by rw [decide_eq_decide]; omega
          rw [z9]
      · refine ⟨fl, fun s hs => ⟨((e125 239 s (by first | decide | omega)).trans (e122 239 s (by first | decide | omega))).trans (kfl s hs).1, bts_mk (kfl s hs).2.1 (fun j hj => ?_)⟩⟩
        rw [bts_at (kfl s hs).2 hj]
        by_cases e9 : j = k
        · have z9 : inG O D j = false := by unfold inG; rw [e9]; simp only [Bool.and_eq_false_iff, decide_eq_false_iff_not]; omega
          rw [z9, Bool.false_and, Bool.and_false, Bool.and_false]
        · have z9 : decide (j < k + 1) = decide (j < k) := by rw [decide_eq_decide]; omega
          rw [z9]
    · refine gx_1f (c := .eq) rfl (by first | decide | omega) hc32 rfl ?_
      refine ex_go (S := (80, [(1, .inl k), (0, gx_r 191)], [gx_r 191], t125, n, 0)) rfl (fun _ => rfl) rfl ?_
      refine ex_go (S := (81, [(1, .inl k), (0, gx_r 191)], [gx_r 191, gx_r 191], t125, n, 0)) rfl (fun _ => rfl) rfl ?_
      refine gxo_get (a := 191) rfl g125 rfl rfl k27 rfl ?_
      refine ex_go (S := (85, [(1, .inl k), (0, gx_r 191)], [.inl k, .inr (.inl g), gx_r 191], t125, n, 0)) rfl (fun _ => rfl) rfl ?_
      obtain ⟨_, r33, rfl⟩ := pz_bit (d + 1) n (t0 := t125) (x := k) (by first | decide | omega)
      refine ex_stat rfl rfl rfl rfl rfl r33 (Nat.le_refl _) rfl ?_
      show en_ex _ _ _ _ (88, [(1, .inl k), (0, gx_r 191)], [.inr (.inl (2 ^ k)), .inr (.inl g), gx_r 191], t125, n, 0) _
      refine ex_go (S := (89, [(1, .inl k), (0, gx_r 191)], [.inr (.inl (en_lor g (2 ^ k))), gx_r 191], t125, n, 0)) rfl (fun _ => rfl) rfl ?_
      rw [sz_lor (by first | exact hg64 | omega) (sz_two (by first | decide | omega))]
      refine gxo_putr (a := 191) (h := .inr (.inl 0)) rfl g125 rfl rfl rfl ⟨_, rfl⟩ rfl (fun t134 g134 k134 e134 => ?_)
      have k35 : ai_hv t134 192 k = some (.inl (F k)) := (e134 192 k (by first | decide | omega)).trans k26
      have k36 : ai_hv t134 193 k = some (.inl (nb O D k (F k))) := (e134 193 k (by first | decide | omega)).trans k28
      have k37 : ai_hv t134 241 k = some (.inl (nb O D k (F k))) := (e134 241 k (by first | decide | omega)).trans k125
      refine ex_go (S := (93, [(1, .inl k), (0, gx_r 191)], [gx_r 191], t134, n, 0)) rfl (fun _ => rfl) rfl ?_
      refine gxo_ref (a := 191) (c := 239) rfl g134 rfl rfl rfl rfl rfl ?_
      refine ex_go (S := (97, [(1, .inl k), (0, gx_r 191)], [gx_r 191, gx_r 239], t134, n, 0)) rfl (fun _ => rfl) rfl ?_
      refine gxo_ref (a := 191) (c := 193) rfl g134 rfl rfl rfl rfl rfl ?_
      refine ex_go (S := (101, [(1, .inl k), (0, gx_r 191)], [.inl k, gx_r 193, gx_r 239], t134, n, 0)) rfl (fun _ => rfl) rfl ?_
      refine gx_ag (v := .inl (nb O D k (F k))) (cb := fun c => Nat.beq c 0) rfl (fun _ => rfl) g134 rfl rfl k36 (by first | decide | omega) rfl ?_
      refine ex_go (S := (103, [(1, .inl k), (0, gx_r 191)], [.inl k, .inl (nb O D k (F k)), gx_r 239], t134, n, 0)) rfl (fun _ => rfl) rfl ?_
      by_cases hc38 : nb O D k (F k) ≠ k
      · refine gx_2t (c := .ne) rfl (by first | decide | omega) (by first | decide | omega) hc38 rfl ?_
        refine ex_go (S := (111, [(1, .inl k), (0, gx_r 191)], [gx_r 191, gx_r 239], t134, n, 0)) rfl (fun _ => rfl) rfl ?_
        refine gxo_ref (a := 191) (c := 192) rfl g134 rfl rfl rfl rfl rfl ?_
        refine ex_go (S := (115, [(1, .inl k), (0, gx_r 191)], [.inl k, gx_r 192, gx_r 239], t134, n, 0)) rfl (fun _ => rfl) rfl ?_
        refine gx_ag (v := .inl (F k)) (cb := fun c => Nat.beq c 0) rfl (fun _ => rfl) g134 rfl rfl k35 (by first | decide | omega) rfl ?_
        refine ex_go (S := (117, [(1, .inl k), (0, gx_r 191)], [.inl (F k), gx_r 239, .inl (F k), gx_r 239], t134, n, 0)) rfl (fun _ => rfl) rfl ?_
        have k39 := ((e134 239 (F k) (by first | decide | omega)).trans ((e125 239 (F k) (by first | decide | omega)).trans (e122 239 (F k) (by first | decide | omega)))).trans (kfl (F k) (by first | decide | omega)).1
        have hfl64 := (kfl (F k) (by first | decide | omega)).2.1
        refine gx_ag (v := .inr (.inl (fl (F k)))) (cb := fun c => Nat.beq c 3) rfl (fun _ => rfl) g134 rfl rfl k39 (by first | decide | omega) rfl ?_
        refine ex_go (S := (119, [(1, .inl k), (0, gx_r 191)], [.inl k, .inr (.inl (fl (F k))), .inl (F k), gx_r 239], t134, n, 0)) rfl (fun _ => rfl) rfl ?_
        obtain ⟨_, r40, rfl⟩ := pz_bit (d + 1) n (t0 := t134) (x := k) (by first | decide | omega)
        refine ex_stat rfl rfl rfl rfl rfl r40 (Nat.le_refl _) rfl ?_
        show en_ex _ _ _ _ (122, [(1, .inl k), (0, gx_r 191)], [.inr (.inl (2 ^ k)), .inr (.inl (fl (F k))), .inl (F k), gx_r 239], t134, n, 0) _
        refine ex_go (S := (123, [(1, .inl k), (0, gx_r 191)], [.inr (.inl (en_lor (fl (F k)) (2 ^ k))), .inl (F k), gx_r 239], t134, n, 0)) rfl (fun _ => rfl) rfl ?_
        rw [sz_lor (by first | exact hfl64 | omega) (sz_two (by first | decide | omega))]
        refine gx_apv (d := 1) rfl (fun _ => rfl) g134 rfl rfl rfl (show F k < 5 from by omega) (gx_run1 (show F k < 5 from by omega)) ⟨_, rfl⟩ rfl (fun t141 g141 k141 e141 => ?_)
        have k42 : ai_hv t141 192 k = some (.inl (F k)) := (e141 192 k (by first | decide | omega)).trans k35
        have k43 : ai_hv t141 193 k = some (.inl (nb O D k (F k))) := (e141 193 k (by first | decide | omega)).trans k36
        have k44 : ai_hv t141 241 k = some (.inl (nb O D k (F k))) := (e141 241 k (by first | decide | omega)).trans k37
        have k45 : ai_hv t141 191 16 = some (.inr (.inl (g ||| (2 ^ k)))) := (e141 191 16 (by first | decide | omega)).trans k134
        refine gx_iinc (i := 1) (k := 1) rfl (fun _ => rfl) (by first | decide | omega) rfl ?_
        show en_ex _ _ _ _ (127, [(1, .inl (k + 1)), (0, gx_r 191)], [], t141, n, 0) _
        refine ex_go (S := (27, [(1, .inl (k + 1)), (0, gx_r 191)], [], t141, n, 0)) rfl (fun _ => rfl) rfl ?_
        refine ih (k + 1) t141 (by first | decide | omega) g141 (fun c i h => ((e141 c i (by first | decide | omega)).trans ((e134 c i (by first | decide | omega)).trans ((e125 c i (by first | decide | omega)).trans (e122 c i (by first | decide | omega))))).trans (e0 c i h)) ⟨fun j hj => ?_, ?_, ?_⟩
        · by_cases e9 : j = k
          · subst e9; exact ⟨k43, k44⟩
          · exact ⟨((e141 193 j (by first | decide | omega)).trans ((e134 193 j (by first | decide | omega)).trans ((e125 193 j (by first | decide | omega)).trans (e122 193 j (by first | decide | omega))))).trans (i1 j (by first | decide | omega)).1, ((e141 241 j (by first | decide | omega)).trans ((e134 241 j (by first | decide | omega)).trans ((e125 241 j (by first | decide | omega)).trans (e122 241 j (by first | decide | omega))))).trans (i1 j (by first | decide | omega)).2⟩
        · refine ⟨g ||| 2 ^ k, k45, bts_or bg (by first | decide | omega) (fun j hj => ?_)⟩
          by_cases e9 : k = j
          · subst e9
            have z9 : inG O D k = true := by unfold inG; rw [Bool.and_eq_true, decide_eq_true_eq, decide_eq_true_eq]; omega
            rw [z9, decide_eq_true (show k < k + 1 by omega), decide_eq_true (show k = k from rfl), Bool.or_true]; rfl
          · have z9 : decide (j < k + 1) = decide (j < k) := by rw [decide_eq_decide]; omega
            rw [z9, decide_eq_false e9, Bool.or_false]
        · have hd9 : fdir O D F k = F k := by unfold fdir; rw [if_neg (by first | decide | omega)]
          refine ⟨fun s => if s = F k then fl (F k) ||| 2 ^ k else fl s, fun s hs => ?_⟩
          dsimp only
          by_cases e8 : s = F k
          · rw [e8, if_pos rfl]
            refine ⟨k141, bts_or (kfl (F k) (by first | decide | omega)).2 (by first | decide | omega) (fun j hj => ?_)⟩
            by_cases e9 : k = j
            · subst e9
              have z9 : inG O D k = true := by unfold inG; rw [Bool.and_eq_true, decide_eq_true_eq, decide_eq_true_eq]; omega
              rw [z9, hd9, decide_eq_true (show k < k + 1 by omega), decide_eq_true (show k = k from rfl), decide_eq_true (show F k = F k from rfl), Bool.or_true]; rfl
            · have z9 : decide (j < k + 1) = decide (j < k) := by rw [decide_eq_decide]; omega
              rw [z9, decide_eq_false e9, Bool.or_false]
          · rw [if_neg e8]
            refine ⟨((e141 239 s (by first | decide | omega)).trans ((e134 239 s (by first | decide | omega)).trans ((e125 239 s (by first | decide | omega)).trans (e122 239 s (by first | decide | omega))))).trans (kfl s hs).1, bts_mk (kfl s hs).2.1 (fun j hj => ?_)⟩
            rw [bts_at (kfl s hs).2 hj]
            by_cases e9 : j = k
            · have z9 : decide (fdir O D F j = s) = false := by rw [decide_eq_false_iff_not, e9, hd9]; exact fun z => e8 z.symm
              rw [z9, Bool.and_false, Bool.and_false, Bool.and_false]
            · have z9 : decide (j < k + 1) = decide (j < k) := by rw [decide_eq_decide]; omega
              rw [z9]
      · refine gx_2f (c := .ne) rfl (by first | decide | omega) (by first | decide | omega) hc38 rfl ?_
        refine ex_go (S := (107, [(1, .inl k), (0, gx_r 191)], [.inl 4, gx_r 239], t134, n, 0)) rfl (fun _ => rfl) rfl ?_
        refine ex_go (S := (116, [(1, .inl k), (0, gx_r 191)], [.inl 4, gx_r 239], t134, n, 0)) rfl (fun _ => rfl) rfl ?_
        refine ex_go (S := (117, [(1, .inl k), (0, gx_r 191)], [.inl 4, gx_r 239, .inl 4, gx_r 239], t134, n, 0)) rfl (fun _ => rfl) rfl ?_
        have k46 := ((e134 239 4 (by first | decide | omega)).trans ((e125 239 4 (by first | decide | omega)).trans (e122 239 4 (by first | decide | omega)))).trans (kfl 4 (by first | decide | omega)).1
        have hfl64 := (kfl 4 (by first | decide | omega)).2.1
        refine gx_ag (v := .inr (.inl (fl 4))) (cb := fun c => Nat.beq c 3) rfl (fun _ => rfl) g134 rfl rfl k46 (by first | decide | omega) rfl ?_
        refine ex_go (S := (119, [(1, .inl k), (0, gx_r 191)], [.inl k, .inr (.inl (fl 4)), .inl 4, gx_r 239], t134, n, 0)) rfl (fun _ => rfl) rfl ?_
        obtain ⟨_, r47, rfl⟩ := pz_bit (d + 1) n (t0 := t134) (x := k) (by first | decide | omega)
        refine ex_stat rfl rfl rfl rfl rfl r47 (Nat.le_refl _) rfl ?_
        show en_ex _ _ _ _ (122, [(1, .inl k), (0, gx_r 191)], [.inr (.inl (2 ^ k)), .inr (.inl (fl 4)), .inl 4, gx_r 239], t134, n, 0) _
        refine ex_go (S := (123, [(1, .inl k), (0, gx_r 191)], [.inr (.inl (en_lor (fl 4) (2 ^ k))), .inl 4, gx_r 239], t134, n, 0)) rfl (fun _ => rfl) rfl ?_
        rw [sz_lor (by first | exact hfl64 | omega) (sz_two (by first | decide | omega))]
        refine gx_apv (d := 1) rfl (fun _ => rfl) g134 rfl rfl rfl (show 4 < 5 from by omega) (gx_run1 (show 4 < 5 from by omega)) ⟨_, rfl⟩ rfl (fun t148 g148 k148 e148 => ?_)
        have k49 : ai_hv t148 192 k = some (.inl (F k)) := (e148 192 k (by first | decide | omega)).trans k35
        have k50 : ai_hv t148 193 k = some (.inl (nb O D k (F k))) := (e148 193 k (by first | decide | omega)).trans k36
        have k51 : ai_hv t148 241 k = some (.inl (nb O D k (F k))) := (e148 241 k (by first | decide | omega)).trans k37
        have k52 : ai_hv t148 191 16 = some (.inr (.inl (g ||| (2 ^ k)))) := (e148 191 16 (by first | decide | omega)).trans k134
        refine gx_iinc (i := 1) (k := 1) rfl (fun _ => rfl) (by first | decide | omega) rfl ?_
        show en_ex _ _ _ _ (127, [(1, .inl (k + 1)), (0, gx_r 191)], [], t148, n, 0) _
        refine ex_go (S := (27, [(1, .inl (k + 1)), (0, gx_r 191)], [], t148, n, 0)) rfl (fun _ => rfl) rfl ?_
        refine ih (k + 1) t148 (by first | decide | omega) g148 (fun c i h => ((e148 c i (by first | decide | omega)).trans ((e134 c i (by first | decide | omega)).trans ((e125 c i (by first | decide | omega)).trans (e122 c i (by first | decide | omega))))).trans (e0 c i h)) ⟨fun j hj => ?_, ?_, ?_⟩
        · by_cases e9 : j = k
          · subst e9; exact ⟨k50, k51⟩
          · exact ⟨((e148 193 j (by first | decide | omega)).trans ((e134 193 j (by first | decide | omega)).trans ((e125 193 j (by first | decide | omega)).trans (e122 193 j (by first | decide | omega))))).trans (i1 j (by first | decide | omega)).1, ((e148 241 j (by first | decide | omega)).trans ((e134 241 j (by first | decide | omega)).trans ((e125 241 j (by first | decide | omega)).trans (e122 241 j (by first | decide | omega))))).trans (i1 j (by first | decide | omega)).2⟩
        · refine ⟨g ||| 2 ^ k, k52, bts_or bg (by first | decide | omega) (fun j hj => ?_)⟩
          by_cases e9 : k = j
          · subst e9
            have z9 : inG O D k = true := by unfold inG; rw [Bool.and_eq_true, decide_eq_true_eq, decide_eq_true_eq]; omega
            rw [z9, decide_eq_true (show k < k + 1 by omega), decide_eq_true (show k = k from rfl), Bool.or_true]; rfl
          · have z9 : decide (j < k + 1) = decide (j < k) := by rw [decide_eq_decide]; omega
            rw [z9, decide_eq_false e9, Bool.or_false]
        · have hd9 : fdir O D F k = 4 := by unfold fdir; rw [if_pos (by first | decide | omega)]
          refine ⟨fun s => if s = 4 then fl (4) ||| 2 ^ k else fl s, fun s hs => ?_⟩
          dsimp only
          by_cases e8 : s = 4
          · rw [e8, if_pos rfl]
            refine ⟨k148, bts_or (kfl (4) (by first | decide | omega)).2 (by first | decide | omega) (fun j hj => ?_)⟩
            by_cases e9 : k = j
            · subst e9
              have z9 : inG O D k = true := by unfold inG; rw [Bool.and_eq_true, decide_eq_true_eq, decide_eq_true_eq]; omega
              rw [z9, hd9, decide_eq_true (show k < k + 1 by omega), decide_eq_true (show k = k from rfl), decide_eq_true (show 4 = 4 from rfl), Bool.or_true]; rfl
            · have z9 : decide (j < k + 1) = decide (j < k) := by rw [decide_eq_decide]; omega
              rw [z9, decide_eq_false e9, Bool.or_false]
          · rw [if_neg e8]
            refine ⟨((e148 239 s (by first | decide | omega)).trans ((e134 239 s (by first | decide | omega)).trans ((e125 239 s (by first | decide | omega)).trans (e122 239 s (by first | decide | omega))))).trans (kfl s hs).1, bts_mk (kfl s hs).2.1 (fun j hj => ?_)⟩
            rw [bts_at (kfl s hs).2 hj]
            by_cases e9 : j = k
            · have z9 : decide (fdir O D F j = s) = false := by rw [decide_eq_false_iff_not, e9, hd9]; exact fun z => e8 z.symm
              rw [z9, Bool.and_false, Bool.and_false, Bool.and_false]
            · have z9 : decide (j < k + 1) = decide (j < k) := by rw [decide_eq_decide]; omega
              rw [z9]
theorem st_b191 (d n : Nat) {tb : en_H} {O D r : Nat} {F : Nat → Nat} {Q : en_O → Prop} (hO : O ≤ 8) (hD : D ≤ 8) (kr : ∀ i, i < 16 → ai_hv tb 240 i = some (gx_r (241 + i))) (h0 : ∀ j, j < 64 → ai_hv tb 241 j = some (.inl (jmp O D F 1 j))) (hr1 : 1 ≤ r) (hr : r < 16) (hQ : ∀ t1, ai_HG ah_G t1 → (∀ c i, ¬ (242 ≤ c ∧ c ≤ 256) → ai_hv t1 c i = ai_hv tb c i) → (∀ i, i < r + 1 → ∀ j, j < 64 → ai_hv t1 (241 + i) j = some (.inl (jmp O D F (2 ^ i) j))) → en_ex none (en_u (d + 2)) (en_code 14) (fun _ => false) (132, [(1, .inl (r + 1)), (2, .inl 64), (0, gx_r 191)], [], t1, n, 0) Q) : ∀ j k t0, k + j = 64 → ai_HG ah_G t0 → (∀ c i, ¬ (242 ≤ c ∧ c ≤ 256) → ai_hv t0 c i = ai_hv tb c i) → (∀ i, i < r → ∀ j, j < 64 → ai_hv t0 (241 + i) j = some (.inl (jmp O D F (2 ^ i) j))) → (∀ j, j < k → ai_hv t0 (241 + r) j = some (.inl (jmp O D F (2 ^ r) j))) → en_ex none (en_u (d + 2)) (en_code 14) (fun _ => false) (140, [(2, .inl k), (1, .inl r), (0, gx_r 191)], [], t0, n, 0) Q := by
  intro j
  induction j with
  | zero =>
    intro k t0 hk g0 e0 i0 q0
    have hk : k = 64 := by omega
    subst hk
    refine ex_go (S := (141, [(2, .inl 64), (1, .inl r), (0, gx_r 191)], [.inl 64], t0, n, 0)) rfl (fun _ => rfl) rfl ?_
    refine ex_go (S := (143, [(2, .inl 64), (1, .inl r), (0, gx_r 191)], [.inl 64, .inl 64], t0, n, 0)) rfl (fun _ => rfl) rfl ?_
    refine ex_go (S := (179, [(2, .inl 64), (1, .inl r), (0, gx_r 191)], [], t0, n, 0)) rfl (fun _ => rfl) rfl ?_
    refine gx_iinc (i := 1) (k := 1) rfl (fun _ => rfl) (by first | decide | omega) rfl ?_
    show en_ex _ _ _ _ (182, [(1, .inl (r + 1)), (2, .inl 64), (0, gx_r 191)], [], t0, n, 0) _
    refine ex_go (S := (132, [(1, .inl (r + 1)), (2, .inl 64), (0, gx_r 191)], [], t0, n, 0)) rfl (fun _ => rfl) rfl ?_
    refine hQ t0 g0 e0 (fun i hi j hj => ?_)
    by_cases e9 : i = r
    · rw [e9]; exact q0 j hj
    · exact i0 i (by first | decide | omega) j hj
  | succ j ih =>
    intro k t0 hk g0 e0 i0 q0
    have hj1 := jmp_lt (F := F) (j := k) hO hD (by first | decide | omega) (2 ^ (r - 1))
    have hj2 := jmp_lt (F := F) (j := jmp O D F (2 ^ (r - 1)) k) hO hD hj1 (2 ^ (r - 1))
    have hjj : jmp O D F (2 ^ (r - 1)) (jmp O D F (2 ^ (r - 1)) k) = jmp O D F (2 ^ r) k := by
      rw [← jmp_add]
      congr 1
      have h9 : 2 ^ r = 2 ^ (r - 1) * 2 := by rw [← Nat.pow_succ]; congr 1; omega
      omega
    refine ex_go (S := (141, [(2, .inl k), (1, .inl r), (0, gx_r 191)], [.inl k], t0, n, 0)) rfl (fun _ => rfl) rfl ?_
    refine ex_go (S := (143, [(2, .inl k), (1, .inl r), (0, gx_r 191)], [.inl 64, .inl k], t0, n, 0)) rfl (fun _ => rfl) rfl ?_
    refine gx_2f (c := .ge) rfl (by first | decide | omega) (by first | decide | omega) (show ¬ (64 ≤ k) from by omega) rfl ?_
    refine ex_go (S := (147, [(2, .inl k), (1, .inl r), (0, gx_r 191)], [gx_r 191], t0, n, 0)) rfl (fun _ => rfl) rfl ?_
    refine gxo_ref (a := 191) (c := 240) rfl g0 rfl rfl rfl rfl rfl ?_
    refine ex_go (S := (151, [(2, .inl k), (1, .inl r), (0, gx_r 191)], [.inl r, gx_r 240], t0, n, 0)) rfl (fun _ => rfl) rfl ?_
    refine gx_ag (v := gx_r (241 + r)) (cb := fun c => Nat.ble 4 c && Nat.ble c 7) rfl (fun _ => rfl) g0 rfl rfl ((e0 240 r (by first | decide | omega)).trans (kr r (by first | decide | omega))) (by first | decide | omega) rfl ?_
    refine ex_go (S := (153, [(2, .inl k), (1, .inl r), (0, gx_r 191)], [.inl k, gx_r (241 + r)], t0, n, 0)) rfl (fun _ => rfl) rfl ?_
    refine ex_go (S := (154, [(2, .inl k), (1, .inl r), (0, gx_r 191)], [gx_r 191, .inl k, gx_r (241 + r)], t0, n, 0)) rfl (fun _ => rfl) rfl ?_
    refine gxo_ref (a := 191) (c := 240) rfl g0 rfl rfl rfl rfl rfl ?_
    refine ex_go (S := (158, [(2, .inl k), (1, .inl r), (0, gx_r 191)], [.inl r, gx_r 240, .inl k, gx_r (241 + r)], t0, n, 0)) rfl (fun _ => rfl) rfl ?_
    refine ex_go (S := (159, [(2, .inl k), (1, .inl r), (0, gx_r 191)], [.inl 1, .inl r, gx_r 240, .inl k, gx_r (241 + r)], t0, n, 0)) rfl (fun _ => rfl) rfl ?_
    refine gx_isub rfl (by first | decide | omega) (by first | decide | omega) rfl ?_
    refine gx_ag (v := gx_r (241 + (r - 1))) (cb := fun c => Nat.ble 4 c && Nat.ble c 7) rfl (fun _ => rfl) g0 rfl rfl ((e0 240 (r - 1) (by first | decide | omega)).trans (kr (r - 1) (by first | decide | omega))) (by first | decide | omega) rfl ?_
    refine ex_go (S := (162, [(2, .inl k), (1, .inl r), (0, gx_r 191)], [gx_r 191, gx_r (241 + (r - 1)), .inl k, gx_r (241 + r)], t0, n, 0)) rfl (fun _ => rfl) rfl ?_
    refine gxo_ref (a := 191) (c := 240) rfl g0 rfl rfl rfl rfl rfl ?_
    refine ex_go (S := (166, [(2, .inl k), (1, .inl r), (0, gx_r 191)], [.inl r, gx_r 240, gx_r (241 + (r - 1)), .inl k, gx_r (241 + r)], t0, n, 0)) rfl (fun _ => rfl) rfl ?_
    refine ex_go (S := (167, [(2, .inl k), (1, .inl r), (0, gx_r 191)], [.inl 1, .inl r, gx_r 240, gx_r (241 + (r - 1)), .inl k, gx_r (241 + r)], t0, n, 0)) rfl (fun _ => rfl) rfl ?_
    refine gx_isub rfl (by first | decide | omega) (by first | decide | omega) rfl ?_
    refine gx_ag (v := gx_r (241 + (r - 1))) (cb := fun c => Nat.ble 4 c && Nat.ble c 7) rfl (fun _ => rfl) g0 rfl rfl ((e0 240 (r - 1) (by first | decide | omega)).trans (kr (r - 1) (by first | decide | omega))) (by first | decide | omega) rfl ?_
    refine ex_go (S := (170, [(2, .inl k), (1, .inl r), (0, gx_r 191)], [.inl k, gx_r (241 + (r - 1)), gx_r (241 + (r - 1)), .inl k, gx_r (241 + r)], t0, n, 0)) rfl (fun _ => rfl) rfl ?_
    refine gx_ag (v := .inl (jmp O D F (2 ^ (r - 1)) k)) (cb := fun c => Nat.beq c 0) rfl (fun _ => rfl) g0 (jmG191 (by first | decide | omega)) rfl (i0 (r - 1) (by first | decide | omega) k (by first | decide | omega)) (by first | decide | omega) rfl ?_
    refine gx_ag (v := .inl (jmp O D F (2 ^ (r - 1)) (jmp O D F (2 ^ (r - 1)) k))) (cb := fun c => Nat.beq c 0) rfl (fun _ => rfl) g0 (jmG191 (by first | decide | omega)) rfl (i0 (r - 1) (by first | decide | omega) (jmp O D F (2 ^ (r - 1)) k) (by first | decide | omega)) (by first | decide | omega) rfl ?_
    refine gx_ap rfl (fun _ => rfl) g0 (jmG191 (by first | decide | omega)) rfl rfl (show k < 64 from by omega) (gx_run1 (show k < 64 from by omega)) (ai_in_h (by first | decide | omega) (by first | decide | omega) (by first | decide | omega)) rfl (fun t121 g121 k121 e121 => ?_)
    refine gx_iinc (i := 2) (k := 1) rfl (fun _ => rfl) (by first | decide | omega) rfl ?_
    show en_ex _ _ _ _ (176, [(2, .inl (k + 1)), (1, .inl r), (0, gx_r 191)], [], t121, n, 0) _
    refine ex_go (S := (140, [(2, .inl (k + 1)), (1, .inl r), (0, gx_r 191)], [], t121, n, 0)) rfl (fun _ => rfl) rfl ?_
    refine ih (k + 1) t121 (by first | decide | omega) g121 (fun c i h => (e121 c i (by first | decide | omega)).trans (e0 c i h)) (fun i hi j hj => (e121 _ _ (by first | decide | omega)).trans (i0 i hi j hj)) (fun j hj => ?_)
    by_cases e9 : j = k
    · subst e9; rw [← hjj]; exact k121
    · exact (e121 _ _ (by first | decide | omega)).trans (q0 j (by first | decide | omega))
theorem st_c191 (d n : Nat) {tb : en_H} {O D : Nat} {F : Nat → Nat} {Q : en_O → Prop} (hO : O ≤ 8) (hD : D ≤ 8) (kr : ∀ i, i < 16 → ai_hv tb 240 i = some (gx_r (241 + i))) (h0 : ∀ j, j < 64 → ai_hv tb 241 j = some (.inl (jmp O D F 1 j))) (hQ : ∀ cl t1, ai_HG ah_G t1 → (∀ c i, ¬ (242 ≤ c ∧ c ≤ 256) → ai_hv t1 c i = ai_hv tb c i) → (∀ i, i < 16 → ∀ j, j < 64 → ai_hv t1 (241 + i) j = some (.inl (jmp O D F (2 ^ i) j))) → en_ex none (en_u (d + 2)) (en_code 14) (fun _ => false) (185, cl, [], t1, n, 0) Q) : ∀ j r t0 x, r + j = 16 → 1 ≤ r → ai_HG ah_G t0 → (∀ c i, ¬ (242 ≤ c ∧ c ≤ 256) → ai_hv t0 c i = ai_hv tb c i) → (∀ i, i < r → ∀ j, j < 64 → ai_hv t0 (241 + i) j = some (.inl (jmp O D F (2 ^ i) j))) → (∀ ls, ls = [(1, .inl r), (2, .inl x), (0, gx_r 191)] ∨ ls = [(1, .inl r), (0, gx_r 191)] → en_ex none (en_u (d + 2)) (en_code 14) (fun _ => false) (132, ls, [], t0, n, 0) Q) := by
  intro j
  induction j with
  | zero =>
    intro r t0 x hr hr1 g0 e0 i0 ls hls
    have hr : r = 16 := by omega
    subst hr
    rcases hls with rfl | rfl
    · refine ex_go (S := (133, [(1, .inl 16), (2, .inl x), (0, gx_r 191)], [.inl 16], t0, n, 0)) rfl (fun _ => rfl) rfl ?_
      refine ex_go (S := (135, [(1, .inl 16), (2, .inl x), (0, gx_r 191)], [.inl 16, .inl 16], t0, n, 0)) rfl (fun _ => rfl) rfl ?_
      refine ex_go (S := (185, [(1, .inl 16), (2, .inl x), (0, gx_r 191)], [], t0, n, 0)) rfl (fun _ => rfl) rfl ?_
      exact hQ _ t0 g0 e0 i0
    · refine ex_go (S := (133, [(1, .inl 16), (0, gx_r 191)], [.inl 16], t0, n, 0)) rfl (fun _ => rfl) rfl ?_
      refine ex_go (S := (135, [(1, .inl 16), (0, gx_r 191)], [.inl 16, .inl 16], t0, n, 0)) rfl (fun _ => rfl) rfl ?_
      refine ex_go (S := (185, [(1, .inl 16), (0, gx_r 191)], [], t0, n, 0)) rfl (fun _ => rfl) rfl ?_
      exact hQ _ t0 g0 e0 i0
  | succ j ih =>
    intro r t0 x hr hr1 g0 e0 i0 ls hls
    rcases hls with rfl | rfl
    · refine ex_go (S := (133, [(1, .inl r), (2, .inl x), (0, gx_r 191)], [.inl r], t0, n, 0)) rfl (fun _ => rfl) rfl ?_
      refine ex_go (S := (135, [(1, .inl r), (2, .inl x), (0, gx_r 191)], [.inl 16, .inl r], t0, n, 0)) rfl (fun _ => rfl) rfl ?_
      refine gx_2f (c := .ge) rfl (by first | decide | omega) (by first | decide | omega) (show ¬ (16 ≤ r) from by omega) rfl ?_
      refine ex_go (S := (139, [(1, .inl r), (2, .inl x), (0, gx_r 191)], [.inl 0], t0, n, 0)) rfl (fun _ => rfl) rfl ?_
      refine ex_go (S := (140, [(2, .inl 0), (1, .inl r), (0, gx_r 191)], [], t0, n, 0)) rfl (fun _ => rfl) rfl ?_
      exact st_b191 d n hO hD kr h0 hr1 (by first | decide | omega) (fun t1 g1 e1 i1 => ih (r + 1) t1 64 (by first | decide | omega) (by first | decide | omega) g1 e1 i1 _ (Or.inl rfl)) 64 0 _ (by first | decide | omega) g0 e0 i0 (fun j hj => absurd hj (Nat.not_lt_zero j))
    · refine ex_go (S := (133, [(1, .inl r), (0, gx_r 191)], [.inl r], t0, n, 0)) rfl (fun _ => rfl) rfl ?_
      refine ex_go (S := (135, [(1, .inl r), (0, gx_r 191)], [.inl 16, .inl r], t0, n, 0)) rfl (fun _ => rfl) rfl ?_
      refine gx_2f (c := .ge) rfl (by first | decide | omega) (by first | decide | omega) (show ¬ (16 ≤ r) from by omega) rfl ?_
      refine ex_go (S := (139, [(1, .inl r), (0, gx_r 191)], [.inl 0], t0, n, 0)) rfl (fun _ => rfl) rfl ?_
      refine ex_go (S := (140, [(2, .inl 0), (1, .inl r), (0, gx_r 191)], [], t0, n, 0)) rfl (fun _ => rfl) rfl ?_
      exact st_b191 d n hO hD kr h0 hr1 (by first | decide | omega) (fun t1 g1 e1 i1 => ih (r + 1) t1 64 (by first | decide | omega) (by first | decide | omega) g1 e1 i1 _ (Or.inl rfl)) 64 0 _ (by first | decide | omega) g0 e0 i0 (fun j hj => absurd hj (Nat.not_lt_zero j))
theorem st_191 (d n : Nat) {tb : en_H} {O D : Nat} {F : Nat → Nat} (g0 : ai_HG ah_G tb) (hO : O ≤ 8) (hD : D ≤ 8) (kO : ai_hv tb 191 0 = some (.inl O)) (kD : ai_hv tb 191 1 = some (.inl D)) (kF : ∀ j, j < 64 → ai_hv tb 192 j = some (.inl (F j)) ∧ F j ≤ 4) (kr : ∀ i, i < 16 → ai_hv tb 240 i = some (gx_r (241 + i))) : ∃ r, en_u (d + 3) 14 [gx_r 191] tb n = some r ∧ ∃ t', r = (none, t', n, 0) ∧ ai_HG ah_G t' ∧ (∀ c i, ¬ ((c = 191 ∧ i = 16) ∨ c = 193 ∨ c = 239 ∨ (241 ≤ c ∧ c ≤ 256)) → ai_hv t' c i = ai_hv tb c i) ∧ NX t' 191 := by
  refine en_u_ex (d := d + 2) rfl ?_
  show en_ex _ _ _ _ (0, [(0, gx_r 191)], [], tb, n, 0) _
  refine ex_go (S := (1, [(0, gx_r 191)], [gx_r 191], tb, n, 0)) rfl (fun _ => rfl) rfl ?_
  refine ex_go (S := (2, [(0, gx_r 191)], [.inr (.inl 0), gx_r 191], tb, n, 0)) rfl (fun _ => rfl) rfl ?_
  refine gxo_putr (a := 191) (h := .inr (.inl 0)) rfl g0 rfl rfl rfl ⟨_, rfl⟩ rfl (fun t121 g121 k121 e121 => ?_)
  refine ex_go (S := (6, [(0, gx_r 191)], [.inl 0], t121, n, 0)) rfl (fun _ => rfl) rfl ?_
  refine ex_go (S := (7, [(1, .inl 0), (0, gx_r 191)], [], t121, n, 0)) rfl (fun _ => rfl) rfl ?_
  refine ex_go (S := (8, [(1, .inl 0), (0, gx_r 191)], [.inl 0], t121, n, 0)) rfl (fun _ => rfl) rfl ?_
  refine ex_go (S := (9, [(1, .inl 0), (0, gx_r 191)], [.inl 4, .inl 0], t121, n, 0)) rfl (fun _ => rfl) rfl ?_
  refine ex_go (S := (12, [(1, .inl 0), (0, gx_r 191)], [], t121, n, 0)) rfl (fun _ => rfl) rfl ?_
  refine ex_go (S := (13, [(1, .inl 0), (0, gx_r 191)], [gx_r 191], t121, n, 0)) rfl (fun _ => rfl) rfl ?_
  refine gxo_ref (a := 191) (c := 239) rfl g121 rfl rfl rfl rfl rfl ?_
  refine ex_go (S := (17, [(1, .inl 0), (0, gx_r 191)], [.inl 0, gx_r 239], t121, n, 0)) rfl (fun _ => rfl) rfl ?_
  refine ex_go (S := (18, [(1, .inl 0), (0, gx_r 191)], [.inr (.inl 0), .inl 0, gx_r 239], t121, n, 0)) rfl (fun _ => rfl) rfl ?_
  refine gx_apv (d := 1) rfl (fun _ => rfl) g121 rfl rfl rfl (show 0 < 5 from by omega) rfl ⟨_, rfl⟩ rfl (fun t122 g122 k122 e122 => ?_)
  have k23 : ai_hv t122 191 16 = some (.inr (.inl 0)) := (e122 191 16 (by first | decide | omega)).trans k121
  refine ex_go (S := (22, [(1, .inl 1), (0, gx_r 191)], [], t122, n, 0)) rfl (fun _ => rfl) rfl ?_
  refine ex_go (S := (7, [(1, .inl 1), (0, gx_r 191)], [], t122, n, 0)) rfl (fun _ => rfl) rfl ?_
  refine ex_go (S := (8, [(1, .inl 1), (0, gx_r 191)], [.inl 1], t122, n, 0)) rfl (fun _ => rfl) rfl ?_
  refine ex_go (S := (9, [(1, .inl 1), (0, gx_r 191)], [.inl 4, .inl 1], t122, n, 0)) rfl (fun _ => rfl) rfl ?_
  refine ex_go (S := (12, [(1, .inl 1), (0, gx_r 191)], [], t122, n, 0)) rfl (fun _ => rfl) rfl ?_
  refine ex_go (S := (13, [(1, .inl 1), (0, gx_r 191)], [gx_r 191], t122, n, 0)) rfl (fun _ => rfl) rfl ?_
  refine gxo_ref (a := 191) (c := 239) rfl g122 rfl rfl rfl rfl rfl ?_
  refine ex_go (S := (17, [(1, .inl 1), (0, gx_r 191)], [.inl 1, gx_r 239], t122, n, 0)) rfl (fun _ => rfl) rfl ?_
  refine ex_go (S := (18, [(1, .inl 1), (0, gx_r 191)], [.inr (.inl 0), .inl 1, gx_r 239], t122, n, 0)) rfl (fun _ => rfl) rfl ?_
  refine gx_apv (d := 1) rfl (fun _ => rfl) g122 rfl rfl rfl (show 1 < 5 from by omega) rfl ⟨_, rfl⟩ rfl (fun t124 g124 k124 e124 => ?_)
  have k25 : ai_hv t124 191 16 = some (.inr (.inl 0)) := (e124 191 16 (by first | decide | omega)).trans k23
  have k26 : ai_hv t124 239 0 = some (.inr (.inl 0)) := (e124 239 0 (by first | decide | omega)).trans k122
  refine ex_go (S := (22, [(1, .inl 2), (0, gx_r 191)], [], t124, n, 0)) rfl (fun _ => rfl) rfl ?_
  refine ex_go (S := (7, [(1, .inl 2), (0, gx_r 191)], [], t124, n, 0)) rfl (fun _ => rfl) rfl ?_
  refine ex_go (S := (8, [(1, .inl 2), (0, gx_r 191)], [.inl 2], t124, n, 0)) rfl (fun _ => rfl) rfl ?_
  refine ex_go (S := (9, [(1, .inl 2), (0, gx_r 191)], [.inl 4, .inl 2], t124, n, 0)) rfl (fun _ => rfl) rfl ?_
  refine ex_go (S := (12, [(1, .inl 2), (0, gx_r 191)], [], t124, n, 0)) rfl (fun _ => rfl) rfl ?_
  refine ex_go (S := (13, [(1, .inl 2), (0, gx_r 191)], [gx_r 191], t124, n, 0)) rfl (fun _ => rfl) rfl ?_
  refine gxo_ref (a := 191) (c := 239) rfl g124 rfl rfl rfl rfl rfl ?_
  refine ex_go (S := (17, [(1, .inl 2), (0, gx_r 191)], [.inl 2, gx_r 239], t124, n, 0)) rfl (fun _ => rfl) rfl ?_
  refine ex_go (S := (18, [(1, .inl 2), (0, gx_r 191)], [.inr (.inl 0), .inl 2, gx_r 239], t124, n, 0)) rfl (fun _ => rfl) rfl ?_
  refine gx_apv (d := 1) rfl (fun _ => rfl) g124 rfl rfl rfl (show 2 < 5 from by omega) rfl ⟨_, rfl⟩ rfl (fun t127 g127 k127 e127 => ?_)
  have k28 : ai_hv t127 191 16 = some (.inr (.inl 0)) := (e127 191 16 (by first | decide | omega)).trans k25
  have k29 : ai_hv t127 239 0 = some (.inr (.inl 0)) := (e127 239 0 (by first | decide | omega)).trans k26
  have k30 : ai_hv t127 239 1 = some (.inr (.inl 0)) := (e127 239 1 (by first | decide | omega)).trans k124
  refine ex_go (S := (22, [(1, .inl 3), (0, gx_r 191)], [], t127, n, 0)) rfl (fun _ => rfl) rfl ?_
  refine ex_go (S := (7, [(1, .inl 3), (0, gx_r 191)], [], t127, n, 0)) rfl (fun _ => rfl) rfl ?_
  refine ex_go (S := (8, [(1, .inl 3), (0, gx_r 191)], [.inl 3], t127, n, 0)) rfl (fun _ => rfl) rfl ?_
  refine ex_go (S := (9, [(1, .inl 3), (0, gx_r 191)], [.inl 4, .inl 3], t127, n, 0)) rfl (fun _ => rfl) rfl ?_
  refine ex_go (S := (12, [(1, .inl 3), (0, gx_r 191)], [], t127, n, 0)) rfl (fun _ => rfl) rfl ?_
  refine ex_go (S := (13, [(1, .inl 3), (0, gx_r 191)], [gx_r 191], t127, n, 0)) rfl (fun _ => rfl) rfl ?_
  refine gxo_ref (a := 191) (c := 239) rfl g127 rfl rfl rfl rfl rfl ?_
  refine ex_go (S := (17, [(1, .inl 3), (0, gx_r 191)], [.inl 3, gx_r 239], t127, n, 0)) rfl (fun _ => rfl) rfl ?_
  refine ex_go (S := (18, [(1, .inl 3), (0, gx_r 191)], [.inr (.inl 0), .inl 3, gx_r 239], t127, n, 0)) rfl (fun _ => rfl) rfl ?_
  refine gx_apv (d := 1) rfl (fun _ => rfl) g127 rfl rfl rfl (show 3 < 5 from by omega) rfl ⟨_, rfl⟩ rfl (fun t131 g131 k131 e131 => ?_)
  have k32 : ai_hv t131 191 16 = some (.inr (.inl 0)) := (e131 191 16 (by first | decide | omega)).trans k28
  have k33 : ai_hv t131 239 0 = some (.inr (.inl 0)) := (e131 239 0 (by first | decide | omega)).trans k29
  have k34 : ai_hv t131 239 1 = some (.inr (.inl 0)) := (e131 239 1 (by first | decide | omega)).trans k30
  have k35 : ai_hv t131 239 2 = some (.inr (.inl 0)) := (e131 239 2 (by first | decide | omega)).trans k127
  refine ex_go (S := (22, [(1, .inl 4), (0, gx_r 191)], [], t131, n, 0)) rfl (fun _ => rfl) rfl ?_
  refine ex_go (S := (7, [(1, .inl 4), (0, gx_r 191)], [], t131, n, 0)) rfl (fun _ => rfl) rfl ?_
  refine ex_go (S := (8, [(1, .inl 4), (0, gx_r 191)], [.inl 4], t131, n, 0)) rfl (fun _ => rfl) rfl ?_
  refine ex_go (S := (9, [(1, .inl 4), (0, gx_r 191)], [.inl 4, .inl 4], t131, n, 0)) rfl (fun _ => rfl) rfl ?_
  refine ex_go (S := (12, [(1, .inl 4), (0, gx_r 191)], [], t131, n, 0)) rfl (fun _ => rfl) rfl ?_
  refine ex_go (S := (13, [(1, .inl 4), (0, gx_r 191)], [gx_r 191], t131, n, 0)) rfl (fun _ => rfl) rfl ?_
  refine gxo_ref (a := 191) (c := 239) rfl g131 rfl rfl rfl rfl rfl ?_
  refine ex_go (S := (17, [(1, .inl 4), (0, gx_r 191)], [.inl 4, gx_r 239], t131, n, 0)) rfl (fun _ => rfl) rfl ?_
  refine ex_go (S := (18, [(1, .inl 4), (0, gx_r 191)], [.inr (.inl 0), .inl 4, gx_r 239], t131, n, 0)) rfl (fun _ => rfl) rfl ?_
  refine gx_apv (d := 1) rfl (fun _ => rfl) g131 rfl rfl rfl (show 4 < 5 from by omega) rfl ⟨_, rfl⟩ rfl (fun t136 g136 k136 e136 => ?_)
  have k37 : ai_hv t136 191 16 = some (.inr (.inl 0)) := (e136 191 16 (by first | decide | omega)).trans k32
  have k38 : ai_hv t136 239 0 = some (.inr (.inl 0)) := (e136 239 0 (by first | decide | omega)).trans k33
  have k39 : ai_hv t136 239 1 = some (.inr (.inl 0)) := (e136 239 1 (by first | decide | omega)).trans k34
  have k40 : ai_hv t136 239 2 = some (.inr (.inl 0)) := (e136 239 2 (by first | decide | omega)).trans k35
  have k41 : ai_hv t136 239 3 = some (.inr (.inl 0)) := (e136 239 3 (by first | decide | omega)).trans k131
  refine ex_go (S := (22, [(1, .inl 5), (0, gx_r 191)], [], t136, n, 0)) rfl (fun _ => rfl) rfl ?_
  refine ex_go (S := (7, [(1, .inl 5), (0, gx_r 191)], [], t136, n, 0)) rfl (fun _ => rfl) rfl ?_
  refine ex_go (S := (8, [(1, .inl 5), (0, gx_r 191)], [.inl 5], t136, n, 0)) rfl (fun _ => rfl) rfl ?_
  refine ex_go (S := (9, [(1, .inl 5), (0, gx_r 191)], [.inl 4, .inl 5], t136, n, 0)) rfl (fun _ => rfl) rfl ?_
  refine ex_go (S := (25, [(1, .inl 5), (0, gx_r 191)], [], t136, n, 0)) rfl (fun _ => rfl) rfl ?_
  refine ex_go (S := (26, [(1, .inl 5), (0, gx_r 191)], [.inl 0], t136, n, 0)) rfl (fun _ => rfl) rfl ?_
  refine ex_go (S := (27, [(1, .inl 0), (0, gx_r 191)], [], t136, n, 0)) rfl (fun _ => rfl) rfl ?_
  refine st_a191 d n (tb := t136) (F := F) hO hD (((e136 191 0 (by first | decide | omega)).trans ((e131 191 0 (by first | decide | omega)).trans ((e127 191 0 (by first | decide | omega)).trans ((e124 191 0 (by first | decide | omega)).trans ((e122 191 0 (by first | decide | omega)).trans (e121 191 0 (by first | decide | omega))))))).trans kO) (((e136 191 1 (by first | decide | omega)).trans ((e131 191 1 (by first | decide | omega)).trans ((e127 191 1 (by first | decide | omega)).trans ((e124 191 1 (by first | decide | omega)).trans ((e122 191 1 (by first | decide | omega)).trans (e121 191 1 (by first | decide | omega))))))).trans kD) (fun j hj => ⟨((e136 192 j (by first | decide | omega)).trans ((e131 192 j (by first | decide | omega)).trans ((e127 192 j (by first | decide | omega)).trans ((e124 192 j (by first | decide | omega)).trans ((e122 192 j (by first | decide | omega)).trans (e121 192 j (by first | decide | omega))))))).trans (kF j hj).1, (kF j hj).2⟩) (fun i hi => ((e136 240 i (by first | decide | omega)).trans ((e131 240 i (by first | decide | omega)).trans ((e127 240 i (by first | decide | omega)).trans ((e124 240 i (by first | decide | omega)).trans ((e122 240 i (by first | decide | omega)).trans (e121 240 i (by first | decide | omega))))))).trans (kr i hi)) (fun t142 g142 e142 i142 => ?_) 64 0 _ (by first | decide | omega) g136 (fun _ _ _ => rfl) ⟨fun j hj => absurd hj (Nat.not_lt_zero j), ⟨0, k37, bts_mk (by decide) (fun j hj => ?_)⟩, fun _ => 0, fun s hs => ⟨?_, bts_mk (show (0 : Nat) < 18446744073709551616 by decide) (fun j hj => ?_)⟩⟩
  · refine ex_go (S := (131, [(1, .inl 64), (0, gx_r 191)], [.inl 1], t142, n, 0)) rfl (fun _ => rfl) rfl ?_
    refine ex_go (S := (132, [(1, .inl 1), (0, gx_r 191)], [], t142, n, 0)) rfl (fun _ => rfl) rfl ?_
    refine st_c191 d n (tb := t142) (O := O) (D := D) (F := F) hO hD (fun i hi => ((e142 240 i (by first | decide | omega)).trans ((e136 240 i (by first | decide | omega)).trans ((e131 240 i (by first | decide | omega)).trans ((e127 240 i (by first | decide | omega)).trans ((e124 240 i (by first | decide | omega)).trans ((e122 240 i (by first | decide | omega)).trans (e121 240 i (by first | decide | omega)))))))).trans (kr i hi)) (fun j hj => (i142.1 j hj).2) (fun cl143 t143 g143 e143 i143 => ?_) 15 1 _ 0 (by first | decide | omega) (by decide) g142 (fun _ _ _ => rfl) (fun i hi j hj => ?_) _ (Or.inr rfl)
    · refine ex_ret (r := (none, t143, n, 0)) rfl (fun _ => rfl) ?_
      obtain ⟨z1, ⟨g9, zg, bg⟩, fl, zf⟩ := i142
      refine ⟨_, rfl, t143, rfl, g143, (fun c i h => (e143 c i (by first | decide | omega)).trans ((e142 c i (by first | decide | omega)).trans ((e136 c i (by first | decide | omega)).trans ((e131 c i (by first | decide | omega)).trans ((e127 c i (by first | decide | omega)).trans ((e124 c i (by first | decide | omega)).trans ((e122 c i (by first | decide | omega)).trans (e121 c i (by first | decide | omega))))))))), O, D, F, g9, fl, hO, hD, ((e143 191 0 (by first | decide | omega)).trans ((e142 191 0 (by first | decide | omega)).trans ((e136 191 0 (by first | decide | omega)).trans ((e131 191 0 (by first | decide | omega)).trans ((e127 191 0 (by first | decide | omega)).trans ((e124 191 0 (by first | decide | omega)).trans ((e122 191 0 (by first | decide | omega)).trans (e121 191 0 (by first | decide | omega))))))))).trans kO, ((e143 191 1 (by first | decide | omega)).trans ((e142 191 1 (by first | decide | omega)).trans ((e136 191 1 (by first | decide | omega)).trans ((e131 191 1 (by first | decide | omega)).trans ((e127 191 1 (by first | decide | omega)).trans ((e124 191 1 (by first | decide | omega)).trans ((e122 191 1 (by first | decide | omega)).trans (e121 191 1 (by first | decide | omega))))))))).trans kD, (fun j hj => ⟨((e143 192 j (by first | decide | omega)).trans ((e142 192 j (by first | decide | omega)).trans ((e136 192 j (by first | decide | omega)).trans ((e131 192 j (by first | decide | omega)).trans ((e127 192 j (by first | decide | omega)).trans ((e124 192 j (by first | decide | omega)).trans ((e122 192 j (by first | decide | omega)).trans (e121 192 j (by first | decide | omega))))))))).trans (kF j hj).1, (kF j hj).2⟩), (fun j hj => (e143 _ _ (by first | decide | omega)).trans (z1 j hj).1), ⟨(e143 _ _ (by first | decide | omega)).trans zg, bts_mk bg.1 (fun j hj => ?_)⟩, (fun s hs => ⟨(e143 _ _ (by first | decide | omega)).trans (zf s hs).1, bts_mk (zf s hs).2.1 (fun j hj => ?_)⟩), (fun i hi => ((e143 240 i (by first | decide | omega)).trans ((e142 240 i (by first | decide | omega)).trans ((e136 240 i (by first | decide | omega)).trans ((e131 240 i (by first | decide | omega)).trans ((e127 240 i (by first | decide | omega)).trans ((e124 240 i (by first | decide | omega)).trans ((e122 240 i (by first | decide | omega)).trans (e121 240 i (by first | decide | omega))))))))).trans (kr i hi)), i143⟩
      · rw [bts_at bg hj, decide_eq_true hj, Bool.true_and]
      · rw [bts_at (zf s hs).2 hj, decide_eq_true hj, Bool.true_and]
    · have e9 : i = 0 := by omega
      subst e9
      exact (i142.1 j hj).2
  · rw [Nat.zero_testBit, decide_eq_false (Nat.not_lt_zero j), Bool.false_and]
  · rcases (show s = 0 ∨ s = 1 ∨ s = 2 ∨ s = 3 ∨ s = 4 by omega) with rfl | rfl | rfl | rfl | rfl
    · exact k38
    · exact k39
    · exact k40
    · exact k41
    · exact k136
  · rw [Nat.zero_testBit, decide_eq_false (Nat.not_lt_zero j), Bool.false_and]
theorem sc_nb257 (d n : Nat) {t0 : en_H} {O D q s : Nat} (g0 : ai_HG ah_G t0) (kO : ai_hv t0 257 0 = some (.inl O)) (kD : ai_hv t0 257 1 = some (.inl D)) (hO : O ≤ 8) (hD : D ≤ 8) (hq : q < 64) (hs : s ≤ 4) : ∃ r, en_u (d + 2) 15 [gx_r 257, .inl q, .inl s] t0 n = some r ∧ r = (some (.inl (nb O D q s)), t0, n, 0) := by
  have hz0 := gz_or (k := q / 8)
  have hz1 := gz_or (k := q % 8)
  rcases (show s = 0 ∨ s = 1 ∨ s = 2 ∨ s = 3 ∨ s = 4 by omega) with rfl | rfl | rfl | rfl | rfl
  · refine en_u_ex (d := d + 1) rfl ?_
    show en_ex _ _ _ _ (0, [(0, gx_r 257), (1, .inl q), (2, .inl 0)], [], t0, n, 0) _
    refine ex_go (S := (1, [(0, gx_r 257), (1, .inl q), (2, .inl 0)], [.inl q], t0, n, 0)) rfl (fun _ => rfl) rfl ?_
    obtain ⟨_, r21, rfl⟩ := pz_over (d) n (t0 := t0) (x := q) (by first | decide | omega)
    refine ex_stat rfl rfl rfl rfl rfl r21 (Nat.le_refl _) rfl ?_
    show en_ex _ _ _ _ (4, [(0, gx_r 257), (1, .inl q), (2, .inl 0)], [.inl (q % 8)], t0, n, 0) _
    refine ex_go (S := (5, [(0, gx_r 257), (1, .inl q), (2, .inl 0)], [.inl 0, .inl (q % 8)], t0, n, 0)) rfl (fun _ => rfl) rfl ?_
    refine ex_go (S := (6, [(0, gx_r 257), (1, .inl q), (2, .inl 0)], [.inl 1, .inl 0, .inl (q % 8)], t0, n, 0)) rfl (fun _ => rfl) rfl ?_
    refine ex_go (S := (13, [(0, gx_r 257), (1, .inl q), (2, .inl 0)], [.inl (q % 8)], t0, n, 0)) rfl (fun _ => rfl) rfl ?_
    refine ex_go (S := (14, [(0, gx_r 257), (1, .inl q), (2, .inl 0)], [.inl 0, .inl (q % 8)], t0, n, 0)) rfl (fun _ => rfl) rfl ?_
    refine ex_go (S := (15, [(0, gx_r 257), (1, .inl q), (2, .inl 0)], [.inl 3, .inl 0, .inl (q % 8)], t0, n, 0)) rfl (fun _ => rfl) rfl ?_
    refine ex_go (S := (22, [(0, gx_r 257), (1, .inl q), (2, .inl 0)], [.inl (q % 8)], t0, n, 0)) rfl (fun _ => rfl) rfl ?_
    refine ex_go (S := (23, [(0, gx_r 257), (1, .inl q), (2, .inl 0)], [.inl 0, .inl (q % 8)], t0, n, 0)) rfl (fun _ => rfl) rfl ?_
    refine ex_iadd rfl (by first | decide | omega) rfl ?_
    refine ex_go (S := (25, [(3, .inl ((q % 8) + 0)), (0, gx_r 257), (1, .inl q), (2, .inl 0)], [], t0, n, 0)) rfl (fun _ => rfl) rfl ?_
    refine ex_go (S := (26, [(3, .inl ((q % 8) + 0)), (0, gx_r 257), (1, .inl q), (2, .inl 0)], [.inl q], t0, n, 0)) rfl (fun _ => rfl) rfl ?_
    obtain ⟨_, r22, rfl⟩ := pz_down (d) n (t0 := t0) (x := q) (by first | decide | omega)
    refine ex_stat rfl rfl rfl rfl rfl r22 (Nat.le_refl _) rfl ?_
    show en_ex _ _ _ _ (29, [(3, .inl ((q % 8) + 0)), (0, gx_r 257), (1, .inl q), (2, .inl 0)], [.inl (q / 8)], t0, n, 0) _
    refine ex_go (S := (30, [(3, .inl ((q % 8) + 0)), (0, gx_r 257), (1, .inl q), (2, .inl 0)], [.inl 0, .inl (q / 8)], t0, n, 0)) rfl (fun _ => rfl) rfl ?_
    refine ex_go (S := (31, [(3, .inl ((q % 8) + 0)), (0, gx_r 257), (1, .inl q), (2, .inl 0)], [.inl 2, .inl 0, .inl (q / 8)], t0, n, 0)) rfl (fun _ => rfl) rfl ?_
    refine ex_go (S := (38, [(3, .inl ((q % 8) + 0)), (0, gx_r 257), (1, .inl q), (2, .inl 0)], [.inl (q / 8)], t0, n, 0)) rfl (fun _ => rfl) rfl ?_
    refine ex_go (S := (39, [(3, .inl ((q % 8) + 0)), (0, gx_r 257), (1, .inl q), (2, .inl 0)], [.inl 0, .inl (q / 8)], t0, n, 0)) rfl (fun _ => rfl) rfl ?_
    refine ex_go (S := (42, [(3, .inl ((q % 8) + 0)), (0, gx_r 257), (1, .inl q), (2, .inl 0)], [.inl (q / 8)], t0, n, 0)) rfl (fun _ => rfl) rfl ?_
    refine ex_go (S := (43, [(3, .inl ((q % 8) + 0)), (0, gx_r 257), (1, .inl q), (2, .inl 0)], [.inl 4294967295, .inl (q / 8)], t0, n, 0)) rfl (fun _ => rfl) rfl ?_
    refine ex_go (S := (47, [(3, .inl ((q % 8) + 0)), (0, gx_r 257), (1, .inl q), (2, .inl 0)], [.inl 4294967295, .inl (q / 8)], t0, n, 0)) rfl (fun _ => rfl) rfl ?_
    refine gx_iaddm rfl (by first | decide | omega) rfl ?_
    refine ex_go (S := (50, [(4, .inl (gz (q / 8))), (3, .inl ((q % 8) + 0)), (0, gx_r 257), (1, .inl q), (2, .inl 0)], [], t0, n, 0)) rfl (fun _ => rfl) rfl ?_
    refine ex_go (S := (51, [(4, .inl (gz (q / 8))), (3, .inl ((q % 8) + 0)), (0, gx_r 257), (1, .inl q), (2, .inl 0)], [gx_r 257], t0, n, 0)) rfl (fun _ => rfl) rfl ?_
    refine ex_go (S := (52, [(4, .inl (gz (q / 8))), (3, .inl ((q % 8) + 0)), (0, gx_r 257), (1, .inl q), (2, .inl 0)], [.inl ((q % 8) + 0), gx_r 257], t0, n, 0)) rfl (fun _ => rfl) rfl ?_
    refine ex_go (S := (54, [(4, .inl (gz (q / 8))), (3, .inl ((q % 8) + 0)), (0, gx_r 257), (1, .inl q), (2, .inl 0)], [.inl (gz (q / 8)), .inl ((q % 8) + 0), gx_r 257], t0, n, 0)) rfl (fun _ => rfl) rfl ?_
    obtain ⟨_, r123, b123, rfl, hb123, hi123⟩ := pc_isPlace257 d n (x := (q % 8) + 0) (y := gz (q / 8)) (o := O) (e := D) g0 kO kD (by first | decide | omega) (by first | decide | omega) hO hD
    refine gx_callo (a := 257) rfl rfl g0 rfl rfl rfl r123 rfl ?_
    show en_ex _ _ _ _ (57, [(4, .inl (gz (q / 8))), (3, .inl ((q % 8) + 0)), (0, gx_r 257), (1, .inl q), (2, .inl 0)], [.inl b123], t0, n, 0) _
    by_cases hc24 : b123 = 0
    · refine gx_1t (c := .eq) rfl (by first | decide | omega) hc24 rfl ?_
      refine ex_go (S := (70, [(4, .inl (gz (q / 8))), (3, .inl ((q % 8) + 0)), (0, gx_r 257), (1, .inl q), (2, .inl 0)], [.inl q], t0, n, 0)) rfl (fun _ => rfl) rfl ?_
      refine ex_ret (r := (some (.inl q), t0, n, 0)) rfl (fun _ => rfl) ?_
      have e9 : nb O D q 0 = q := by rw [nb_0]; split <;> omega
      exact ⟨_, rfl, by rw [e9]⟩
    · refine gx_1f (c := .eq) rfl (by first | decide | omega) hc24 rfl ?_
      refine ex_go (S := (61, [(4, .inl (gz (q / 8))), (3, .inl ((q % 8) + 0)), (0, gx_r 257), (1, .inl q), (2, .inl 0)], [.inl ((q % 8) + 0)], t0, n, 0)) rfl (fun _ => rfl) rfl ?_
      refine ex_go (S := (63, [(4, .inl (gz (q / 8))), (3, .inl ((q % 8) + 0)), (0, gx_r 257), (1, .inl q), (2, .inl 0)], [.inl (gz (q / 8)), .inl ((q % 8) + 0)], t0, n, 0)) rfl (fun _ => rfl) rfl ?_
      obtain ⟨_, r25, rfl⟩ := pc_placeOf2 d n (t0 := t0) (x := (q % 8) + 0) (y := gz (q / 8)) (by first | decide | omega) (by first | decide | omega)
      refine ex_stat rfl rfl rfl rfl rfl r25 (Nat.le_refl _) rfl ?_
      show en_ex _ _ _ _ (66, [(4, .inl (gz (q / 8))), (3, .inl ((q % 8) + 0)), (0, gx_r 257), (1, .inl q), (2, .inl 0)], [.inl (((q % 8) + 0) + (8 * (gz (q / 8))))], t0, n, 0) _
      refine ex_go (S := (70, [(4, .inl (gz (q / 8))), (3, .inl ((q % 8) + 0)), (0, gx_r 257), (1, .inl q), (2, .inl 0)], [.inl (((q % 8) + 0) + (8 * (gz (q / 8))))], t0, n, 0)) rfl (fun _ => rfl) rfl ?_
      refine ex_ret (r := (some (.inl (((q % 8) + 0) + (8 * (gz (q / 8))))), t0, n, 0)) rfl (fun _ => rfl) ?_
      have e9 : nb O D q 0 = ((q % 8) + 0) + (8 * (gz (q / 8))) := by rw [nb_0]; split <;> omega
      exact ⟨_, rfl, by rw [e9]⟩
  · refine en_u_ex (d := d + 1) rfl ?_
    show en_ex _ _ _ _ (0, [(0, gx_r 257), (1, .inl q), (2, .inl 1)], [], t0, n, 0) _
    refine ex_go (S := (1, [(0, gx_r 257), (1, .inl q), (2, .inl 1)], [.inl q], t0, n, 0)) rfl (fun _ => rfl) rfl ?_
    obtain ⟨_, r21, rfl⟩ := pz_over (d) n (t0 := t0) (x := q) (by first | decide | omega)
    refine ex_stat rfl rfl rfl rfl rfl r21 (Nat.le_refl _) rfl ?_
    show en_ex _ _ _ _ (4, [(0, gx_r 257), (1, .inl q), (2, .inl 1)], [.inl (q % 8)], t0, n, 0) _
    refine ex_go (S := (5, [(0, gx_r 257), (1, .inl q), (2, .inl 1)], [.inl 1, .inl (q % 8)], t0, n, 0)) rfl (fun _ => rfl) rfl ?_
    refine ex_go (S := (6, [(0, gx_r 257), (1, .inl q), (2, .inl 1)], [.inl 1, .inl 1, .inl (q % 8)], t0, n, 0)) rfl (fun _ => rfl) rfl ?_
    refine ex_go (S := (9, [(0, gx_r 257), (1, .inl q), (2, .inl 1)], [.inl (q % 8)], t0, n, 0)) rfl (fun _ => rfl) rfl ?_
    refine ex_go (S := (10, [(0, gx_r 257), (1, .inl q), (2, .inl 1)], [.inl 1, .inl (q % 8)], t0, n, 0)) rfl (fun _ => rfl) rfl ?_
    refine ex_go (S := (23, [(0, gx_r 257), (1, .inl q), (2, .inl 1)], [.inl 1, .inl (q % 8)], t0, n, 0)) rfl (fun _ => rfl) rfl ?_
    refine ex_iadd rfl (by first | decide | omega) rfl ?_
    refine ex_go (S := (25, [(3, .inl ((q % 8) + 1)), (0, gx_r 257), (1, .inl q), (2, .inl 1)], [], t0, n, 0)) rfl (fun _ => rfl) rfl ?_
    refine ex_go (S := (26, [(3, .inl ((q % 8) + 1)), (0, gx_r 257), (1, .inl q), (2, .inl 1)], [.inl q], t0, n, 0)) rfl (fun _ => rfl) rfl ?_
    obtain ⟨_, r22, rfl⟩ := pz_down (d) n (t0 := t0) (x := q) (by first | decide | omega)
    refine ex_stat rfl rfl rfl rfl rfl r22 (Nat.le_refl _) rfl ?_
    show en_ex _ _ _ _ (29, [(3, .inl ((q % 8) + 1)), (0, gx_r 257), (1, .inl q), (2, .inl 1)], [.inl (q / 8)], t0, n, 0) _
    refine ex_go (S := (30, [(3, .inl ((q % 8) + 1)), (0, gx_r 257), (1, .inl q), (2, .inl 1)], [.inl 1, .inl (q / 8)], t0, n, 0)) rfl (fun _ => rfl) rfl ?_
    refine ex_go (S := (31, [(3, .inl ((q % 8) + 1)), (0, gx_r 257), (1, .inl q), (2, .inl 1)], [.inl 2, .inl 1, .inl (q / 8)], t0, n, 0)) rfl (fun _ => rfl) rfl ?_
    refine ex_go (S := (38, [(3, .inl ((q % 8) + 1)), (0, gx_r 257), (1, .inl q), (2, .inl 1)], [.inl (q / 8)], t0, n, 0)) rfl (fun _ => rfl) rfl ?_
    refine ex_go (S := (39, [(3, .inl ((q % 8) + 1)), (0, gx_r 257), (1, .inl q), (2, .inl 1)], [.inl 1, .inl (q / 8)], t0, n, 0)) rfl (fun _ => rfl) rfl ?_
    refine ex_go (S := (46, [(3, .inl ((q % 8) + 1)), (0, gx_r 257), (1, .inl q), (2, .inl 1)], [.inl (q / 8)], t0, n, 0)) rfl (fun _ => rfl) rfl ?_
    refine ex_go (S := (47, [(3, .inl ((q % 8) + 1)), (0, gx_r 257), (1, .inl q), (2, .inl 1)], [.inl 0, .inl (q / 8)], t0, n, 0)) rfl (fun _ => rfl) rfl ?_
    refine ex_iadd rfl (by first | decide | omega) rfl ?_
    refine ex_go (S := (50, [(4, .inl ((q / 8) + 0)), (3, .inl ((q % 8) + 1)), (0, gx_r 257), (1, .inl q), (2, .inl 1)], [], t0, n, 0)) rfl (fun _ => rfl) rfl ?_
    refine ex_go (S := (51, [(4, .inl ((q / 8) + 0)), (3, .inl ((q % 8) + 1)), (0, gx_r 257), (1, .inl q), (2, .inl 1)], [gx_r 257], t0, n, 0)) rfl (fun _ => rfl) rfl ?_
    refine ex_go (S := (52, [(4, .inl ((q / 8) + 0)), (3, .inl ((q % 8) + 1)), (0, gx_r 257), (1, .inl q), (2, .inl 1)], [.inl ((q % 8) + 1), gx_r 257], t0, n, 0)) rfl (fun _ => rfl) rfl ?_
    refine ex_go (S := (54, [(4, .inl ((q / 8) + 0)), (3, .inl ((q % 8) + 1)), (0, gx_r 257), (1, .inl q), (2, .inl 1)], [.inl ((q / 8) + 0), .inl ((q % 8) + 1), gx_r 257], t0, n, 0)) rfl (fun _ => rfl) rfl ?_
    obtain ⟨_, r123, b123, rfl, hb123, hi123⟩ := pc_isPlace257 d n (x := (q % 8) + 1) (y := (q / 8) + 0) (o := O) (e := D) g0 kO kD (by first | decide | omega) (by first | decide | omega) hO hD
    refine gx_callo (a := 257) rfl rfl g0 rfl rfl rfl r123 rfl ?_
    show en_ex _ _ _ _ (57, [(4, .inl ((q / 8) + 0)), (3, .inl ((q % 8) + 1)), (0, gx_r 257), (1, .inl q), (2, .inl 1)], [.inl b123], t0, n, 0) _
    by_cases hc24 : b123 = 0
    · refine gx_1t (c := .eq) rfl (by first | decide | omega) hc24 rfl ?_
      refine ex_go (S := (70, [(4, .inl ((q / 8) + 0)), (3, .inl ((q % 8) + 1)), (0, gx_r 257), (1, .inl q), (2, .inl 1)], [.inl q], t0, n, 0)) rfl (fun _ => rfl) rfl ?_
      refine ex_ret (r := (some (.inl q), t0, n, 0)) rfl (fun _ => rfl) ?_
      have e9 : nb O D q 1 = q := by rw [nb_1]; split <;> omega
      exact ⟨_, rfl, by rw [e9]⟩
    · refine gx_1f (c := .eq) rfl (by first | decide | omega) hc24 rfl ?_
      refine ex_go (S := (61, [(4, .inl ((q / 8) + 0)), (3, .inl ((q % 8) + 1)), (0, gx_r 257), (1, .inl q), (2, .inl 1)], [.inl ((q % 8) + 1)], t0, n, 0)) rfl (fun _ => rfl) rfl ?_
      refine ex_go (S := (63, [(4, .inl ((q / 8) + 0)), (3, .inl ((q % 8) + 1)), (0, gx_r 257), (1, .inl q), (2, .inl 1)], [.inl ((q / 8) + 0), .inl ((q % 8) + 1)], t0, n, 0)) rfl (fun _ => rfl) rfl ?_
      obtain ⟨_, r25, rfl⟩ := pc_placeOf2 d n (t0 := t0) (x := (q % 8) + 1) (y := (q / 8) + 0) (by first | decide | omega) (by first | decide | omega)
      refine ex_stat rfl rfl rfl rfl rfl r25 (Nat.le_refl _) rfl ?_
      show en_ex _ _ _ _ (66, [(4, .inl ((q / 8) + 0)), (3, .inl ((q % 8) + 1)), (0, gx_r 257), (1, .inl q), (2, .inl 1)], [.inl (((q % 8) + 1) + (8 * ((q / 8) + 0)))], t0, n, 0) _
      refine ex_go (S := (70, [(4, .inl ((q / 8) + 0)), (3, .inl ((q % 8) + 1)), (0, gx_r 257), (1, .inl q), (2, .inl 1)], [.inl (((q % 8) + 1) + (8 * ((q / 8) + 0)))], t0, n, 0)) rfl (fun _ => rfl) rfl ?_
      refine ex_ret (r := (some (.inl (((q % 8) + 1) + (8 * ((q / 8) + 0)))), t0, n, 0)) rfl (fun _ => rfl) ?_
      have e9 : nb O D q 1 = ((q % 8) + 1) + (8 * ((q / 8) + 0)) := by rw [nb_1]; split <;> omega
      exact ⟨_, rfl, by rw [e9]⟩
  · refine en_u_ex (d := d + 1) rfl ?_
    show en_ex _ _ _ _ (0, [(0, gx_r 257), (1, .inl q), (2, .inl 2)], [], t0, n, 0) _
    refine ex_go (S := (1, [(0, gx_r 257), (1, .inl q), (2, .inl 2)], [.inl q], t0, n, 0)) rfl (fun _ => rfl) rfl ?_
    obtain ⟨_, r21, rfl⟩ := pz_over (d) n (t0 := t0) (x := q) (by first | decide | omega)
    refine ex_stat rfl rfl rfl rfl rfl r21 (Nat.le_refl _) rfl ?_
    show en_ex _ _ _ _ (4, [(0, gx_r 257), (1, .inl q), (2, .inl 2)], [.inl (q % 8)], t0, n, 0) _
    refine ex_go (S := (5, [(0, gx_r 257), (1, .inl q), (2, .inl 2)], [.inl 2, .inl (q % 8)], t0, n, 0)) rfl (fun _ => rfl) rfl ?_
    refine ex_go (S := (6, [(0, gx_r 257), (1, .inl q), (2, .inl 2)], [.inl 1, .inl 2, .inl (q % 8)], t0, n, 0)) rfl (fun _ => rfl) rfl ?_
    refine ex_go (S := (13, [(0, gx_r 257), (1, .inl q), (2, .inl 2)], [.inl (q % 8)], t0, n, 0)) rfl (fun _ => rfl) rfl ?_
    refine ex_go (S := (14, [(0, gx_r 257), (1, .inl q), (2, .inl 2)], [.inl 2, .inl (q % 8)], t0, n, 0)) rfl (fun _ => rfl) rfl ?_
    refine ex_go (S := (15, [(0, gx_r 257), (1, .inl q), (2, .inl 2)], [.inl 3, .inl 2, .inl (q % 8)], t0, n, 0)) rfl (fun _ => rfl) rfl ?_
    refine ex_go (S := (22, [(0, gx_r 257), (1, .inl q), (2, .inl 2)], [.inl (q % 8)], t0, n, 0)) rfl (fun _ => rfl) rfl ?_
    refine ex_go (S := (23, [(0, gx_r 257), (1, .inl q), (2, .inl 2)], [.inl 0, .inl (q % 8)], t0, n, 0)) rfl (fun _ => rfl) rfl ?_
    refine ex_iadd rfl (by first | decide | omega) rfl ?_
    refine ex_go (S := (25, [(3, .inl ((q % 8) + 0)), (0, gx_r 257), (1, .inl q), (2, .inl 2)], [], t0, n, 0)) rfl (fun _ => rfl) rfl ?_
    refine ex_go (S := (26, [(3, .inl ((q % 8) + 0)), (0, gx_r 257), (1, .inl q), (2, .inl 2)], [.inl q], t0, n, 0)) rfl (fun _ => rfl) rfl ?_
    obtain ⟨_, r22, rfl⟩ := pz_down (d) n (t0 := t0) (x := q) (by first | decide | omega)
    refine ex_stat rfl rfl rfl rfl rfl r22 (Nat.le_refl _) rfl ?_
    show en_ex _ _ _ _ (29, [(3, .inl ((q % 8) + 0)), (0, gx_r 257), (1, .inl q), (2, .inl 2)], [.inl (q / 8)], t0, n, 0) _
    refine ex_go (S := (30, [(3, .inl ((q % 8) + 0)), (0, gx_r 257), (1, .inl q), (2, .inl 2)], [.inl 2, .inl (q / 8)], t0, n, 0)) rfl (fun _ => rfl) rfl ?_
    refine ex_go (S := (31, [(3, .inl ((q % 8) + 0)), (0, gx_r 257), (1, .inl q), (2, .inl 2)], [.inl 2, .inl 2, .inl (q / 8)], t0, n, 0)) rfl (fun _ => rfl) rfl ?_
    refine ex_go (S := (34, [(3, .inl ((q % 8) + 0)), (0, gx_r 257), (1, .inl q), (2, .inl 2)], [.inl (q / 8)], t0, n, 0)) rfl (fun _ => rfl) rfl ?_
    refine ex_go (S := (35, [(3, .inl ((q % 8) + 0)), (0, gx_r 257), (1, .inl q), (2, .inl 2)], [.inl 1, .inl (q / 8)], t0, n, 0)) rfl (fun _ => rfl) rfl ?_
    refine ex_go (S := (47, [(3, .inl ((q % 8) + 0)), (0, gx_r 257), (1, .inl q), (2, .inl 2)], [.inl 1, .inl (q / 8)], t0, n, 0)) rfl (fun _ => rfl) rfl ?_
    refine ex_iadd rfl (by first | decide | omega) rfl ?_
    refine ex_go (S := (50, [(4, .inl ((q / 8) + 1)), (3, .inl ((q % 8) + 0)), (0, gx_r 257), (1, .inl q), (2, .inl 2)], [], t0, n, 0)) rfl (fun _ => rfl) rfl ?_
    refine ex_go (S := (51, [(4, .inl ((q / 8) + 1)), (3, .inl ((q % 8) + 0)), (0, gx_r 257), (1, .inl q), (2, .inl 2)], [gx_r 257], t0, n, 0)) rfl (fun _ => rfl) rfl ?_
    refine ex_go (S := (52, [(4, .inl ((q / 8) + 1)), (3, .inl ((q % 8) + 0)), (0, gx_r 257), (1, .inl q), (2, .inl 2)], [.inl ((q % 8) + 0), gx_r 257], t0, n, 0)) rfl (fun _ => rfl) rfl ?_
    refine ex_go (S := (54, [(4, .inl ((q / 8) + 1)), (3, .inl ((q % 8) + 0)), (0, gx_r 257), (1, .inl q), (2, .inl 2)], [.inl ((q / 8) + 1), .inl ((q % 8) + 0), gx_r 257], t0, n, 0)) rfl (fun _ => rfl) rfl ?_
    obtain ⟨_, r123, b123, rfl, hb123, hi123⟩ := pc_isPlace257 d n (x := (q % 8) + 0) (y := (q / 8) + 1) (o := O) (e := D) g0 kO kD (by first | decide | omega) (by first | decide | omega) hO hD
    refine gx_callo (a := 257) rfl rfl g0 rfl rfl rfl r123 rfl ?_
    show en_ex _ _ _ _ (57, [(4, .inl ((q / 8) + 1)), (3, .inl ((q % 8) + 0)), (0, gx_r 257), (1, .inl q), (2, .inl 2)], [.inl b123], t0, n, 0) _
    by_cases hc24 : b123 = 0
    · refine gx_1t (c := .eq) rfl (by first | decide | omega) hc24 rfl ?_
      refine ex_go (S := (70, [(4, .inl ((q / 8) + 1)), (3, .inl ((q % 8) + 0)), (0, gx_r 257), (1, .inl q), (2, .inl 2)], [.inl q], t0, n, 0)) rfl (fun _ => rfl) rfl ?_
      refine ex_ret (r := (some (.inl q), t0, n, 0)) rfl (fun _ => rfl) ?_
      have e9 : nb O D q 2 = q := by rw [nb_2]; split <;> omega
      exact ⟨_, rfl, by rw [e9]⟩
    · refine gx_1f (c := .eq) rfl (by first | decide | omega) hc24 rfl ?_
      refine ex_go (S := (61, [(4, .inl ((q / 8) + 1)), (3, .inl ((q % 8) + 0)), (0, gx_r 257), (1, .inl q), (2, .inl 2)], [.inl ((q % 8) + 0)], t0, n, 0)) rfl (fun _ => rfl) rfl ?_
      refine ex_go (S := (63, [(4, .inl ((q / 8) + 1)), (3, .inl ((q % 8) + 0)), (0, gx_r 257), (1, .inl q), (2, .inl 2)], [.inl ((q / 8) + 1), .inl ((q % 8) + 0)], t0, n, 0)) rfl (fun _ => rfl) rfl ?_
      obtain ⟨_, r25, rfl⟩ := pc_placeOf2 d n (t0 := t0) (x := (q % 8) + 0) (y := (q / 8) + 1) (by first | decide | omega) (by first | decide | omega)
      refine ex_stat rfl rfl rfl rfl rfl r25 (Nat.le_refl _) rfl ?_
      show en_ex _ _ _ _ (66, [(4, .inl ((q / 8) + 1)), (3, .inl ((q % 8) + 0)), (0, gx_r 257), (1, .inl q), (2, .inl 2)], [.inl (((q % 8) + 0) + (8 * ((q / 8) + 1)))], t0, n, 0) _
      refine ex_go (S := (70, [(4, .inl ((q / 8) + 1)), (3, .inl ((q % 8) + 0)), (0, gx_r 257), (1, .inl q), (2, .inl 2)], [.inl (((q % 8) + 0) + (8 * ((q / 8) + 1)))], t0, n, 0)) rfl (fun _ => rfl) rfl ?_
      refine ex_ret (r := (some (.inl (((q % 8) + 0) + (8 * ((q / 8) + 1)))), t0, n, 0)) rfl (fun _ => rfl) ?_
      have e9 : nb O D q 2 = ((q % 8) + 0) + (8 * ((q / 8) + 1)) := by rw [nb_2]; split <;> omega
      exact ⟨_, rfl, by rw [e9]⟩
  · refine en_u_ex (d := d + 1) rfl ?_
    show en_ex _ _ _ _ (0, [(0, gx_r 257), (1, .inl q), (2, .inl 3)], [], t0, n, 0) _
    refine ex_go (S := (1, [(0, gx_r 257), (1, .inl q), (2, .inl 3)], [.inl q], t0, n, 0)) rfl (fun _ => rfl) rfl ?_
    obtain ⟨_, r21, rfl⟩ := pz_over (d) n (t0 := t0) (x := q) (by first | decide | omega)
    refine ex_stat rfl rfl rfl rfl rfl r21 (Nat.le_refl _) rfl ?_
    show en_ex _ _ _ _ (4, [(0, gx_r 257), (1, .inl q), (2, .inl 3)], [.inl (q % 8)], t0, n, 0) _
    refine ex_go (S := (5, [(0, gx_r 257), (1, .inl q), (2, .inl 3)], [.inl 3, .inl (q % 8)], t0, n, 0)) rfl (fun _ => rfl) rfl ?_
    refine ex_go (S := (6, [(0, gx_r 257), (1, .inl q), (2, .inl 3)], [.inl 1, .inl 3, .inl (q % 8)], t0, n, 0)) rfl (fun _ => rfl) rfl ?_
    refine ex_go (S := (13, [(0, gx_r 257), (1, .inl q), (2, .inl 3)], [.inl (q % 8)], t0, n, 0)) rfl (fun _ => rfl) rfl ?_
    refine ex_go (S := (14, [(0, gx_r 257), (1, .inl q), (2, .inl 3)], [.inl 3, .inl (q % 8)], t0, n, 0)) rfl (fun _ => rfl) rfl ?_
    refine ex_go (S := (15, [(0, gx_r 257), (1, .inl q), (2, .inl 3)], [.inl 3, .inl 3, .inl (q % 8)], t0, n, 0)) rfl (fun _ => rfl) rfl ?_
    refine ex_go (S := (18, [(0, gx_r 257), (1, .inl q), (2, .inl 3)], [.inl (q % 8)], t0, n, 0)) rfl (fun _ => rfl) rfl ?_
    refine ex_go (S := (19, [(0, gx_r 257), (1, .inl q), (2, .inl 3)], [.inl 4294967295, .inl (q % 8)], t0, n, 0)) rfl (fun _ => rfl) rfl ?_
    refine ex_go (S := (23, [(0, gx_r 257), (1, .inl q), (2, .inl 3)], [.inl 4294967295, .inl (q % 8)], t0, n, 0)) rfl (fun _ => rfl) rfl ?_
    refine gx_iaddm rfl (by first | decide | omega) rfl ?_
    refine ex_go (S := (25, [(3, .inl (gz (q % 8))), (0, gx_r 257), (1, .inl q), (2, .inl 3)], [], t0, n, 0)) rfl (fun _ => rfl) rfl ?_
    refine ex_go (S := (26, [(3, .inl (gz (q % 8))), (0, gx_r 257), (1, .inl q), (2, .inl 3)], [.inl q], t0, n, 0)) rfl (fun _ => rfl) rfl ?_
    obtain ⟨_, r22, rfl⟩ := pz_down (d) n (t0 := t0) (x := q) (by first | decide | omega)
    refine ex_stat rfl rfl rfl rfl rfl r22 (Nat.le_refl _) rfl ?_
    show en_ex _ _ _ _ (29, [(3, .inl (gz (q % 8))), (0, gx_r 257), (1, .inl q), (2, .inl 3)], [.inl (q / 8)], t0, n, 0) _
    refine ex_go (S := (30, [(3, .inl (gz (q % 8))), (0, gx_r 257), (1, .inl q), (2, .inl 3)], [.inl 3, .inl (q / 8)], t0, n, 0)) rfl (fun _ => rfl) rfl ?_
    refine ex_go (S := (31, [(3, .inl (gz (q % 8))), (0, gx_r 257), (1, .inl q), (2, .inl 3)], [.inl 2, .inl 3, .inl (q / 8)], t0, n, 0)) rfl (fun _ => rfl) rfl ?_
    refine ex_go (S := (38, [(3, .inl (gz (q % 8))), (0, gx_r 257), (1, .inl q), (2, .inl 3)], [.inl (q / 8)], t0, n, 0)) rfl (fun _ => rfl) rfl ?_
    refine ex_go (S := (39, [(3, .inl (gz (q % 8))), (0, gx_r 257), (1, .inl q), (2, .inl 3)], [.inl 3, .inl (q / 8)], t0, n, 0)) rfl (fun _ => rfl) rfl ?_
    refine ex_go (S := (46, [(3, .inl (gz (q % 8))), (0, gx_r 257), (1, .inl q), (2, .inl 3)], [.inl (q / 8)], t0, n, 0)) rfl (fun _ => rfl) rfl ?_
    refine ex_go (S := (47, [(3, .inl (gz (q % 8))), (0, gx_r 257), (1, .inl q), (2, .inl 3)], [.inl 0, .inl (q / 8)], t0, n, 0)) rfl (fun _ => rfl) rfl ?_
    refine ex_iadd rfl (by first | decide | omega) rfl ?_
    refine ex_go (S := (50, [(4, .inl ((q / 8) + 0)), (3, .inl (gz (q % 8))), (0, gx_r 257), (1, .inl q), (2, .inl 3)], [], t0, n, 0)) rfl (fun _ => rfl) rfl ?_
    refine ex_go (S := (51, [(4, .inl ((q / 8) + 0)), (3, .inl (gz (q % 8))), (0, gx_r 257), (1, .inl q), (2, .inl 3)], [gx_r 257], t0, n, 0)) rfl (fun _ => rfl) rfl ?_
    refine ex_go (S := (52, [(4, .inl ((q / 8) + 0)), (3, .inl (gz (q % 8))), (0, gx_r 257), (1, .inl q), (2, .inl 3)], [.inl (gz (q % 8)), gx_r 257], t0, n, 0)) rfl (fun _ => rfl) rfl ?_
    refine ex_go (S := (54, [(4, .inl ((q / 8) + 0)), (3, .inl (gz (q % 8))), (0, gx_r 257), (1, .inl q), (2, .inl 3)], [.inl ((q / 8) + 0), .inl (gz (q % 8)), gx_r 257], t0, n, 0)) rfl (fun _ => rfl) rfl ?_
    obtain ⟨_, r123, b123, rfl, hb123, hi123⟩ := pc_isPlace257 d n (x := gz (q % 8)) (y := (q / 8) + 0) (o := O) (e := D) g0 kO kD (by first | decide | omega) (by first | decide | omega) hO hD
    refine gx_callo (a := 257) rfl rfl g0 rfl rfl rfl r123 rfl ?_
    show en_ex _ _ _ _ (57, [(4, .inl ((q / 8) + 0)), (3, .inl (gz (q % 8))), (0, gx_r 257), (1, .inl q), (2, .inl 3)], [.inl b123], t0, n, 0) _
    by_cases hc24 : b123 = 0
    · refine gx_1t (c := .eq) rfl (by first | decide | omega) hc24 rfl ?_
      refine ex_go (S := (70, [(4, .inl ((q / 8) + 0)), (3, .inl (gz (q % 8))), (0, gx_r 257), (1, .inl q), (2, .inl 3)], [.inl q], t0, n, 0)) rfl (fun _ => rfl) rfl ?_
      refine ex_ret (r := (some (.inl q), t0, n, 0)) rfl (fun _ => rfl) ?_
      have e9 : nb O D q 3 = q := by rw [nb_3]; split <;> omega
      exact ⟨_, rfl, by rw [e9]⟩
    · refine gx_1f (c := .eq) rfl (by first | decide | omega) hc24 rfl ?_
      refine ex_go (S := (61, [(4, .inl ((q / 8) + 0)), (3, .inl (gz (q % 8))), (0, gx_r 257), (1, .inl q), (2, .inl 3)], [.inl (gz (q % 8))], t0, n, 0)) rfl (fun _ => rfl) rfl ?_
      refine ex_go (S := (63, [(4, .inl ((q / 8) + 0)), (3, .inl (gz (q % 8))), (0, gx_r 257), (1, .inl q), (2, .inl 3)], [.inl ((q / 8) + 0), .inl (gz (q % 8))], t0, n, 0)) rfl (fun _ => rfl) rfl ?_
      obtain ⟨_, r25, rfl⟩ := pc_placeOf2 d n (t0 := t0) (x := gz (q % 8)) (y := (q / 8) + 0) (by first | decide | omega) (by first | decide | omega)
      refine ex_stat rfl rfl rfl rfl rfl r25 (Nat.le_refl _) rfl ?_
      show en_ex _ _ _ _ (66, [(4, .inl ((q / 8) + 0)), (3, .inl (gz (q % 8))), (0, gx_r 257), (1, .inl q), (2, .inl 3)], [.inl ((gz (q % 8)) + (8 * ((q / 8) + 0)))], t0, n, 0) _
      refine ex_go (S := (70, [(4, .inl ((q / 8) + 0)), (3, .inl (gz (q % 8))), (0, gx_r 257), (1, .inl q), (2, .inl 3)], [.inl ((gz (q % 8)) + (8 * ((q / 8) + 0)))], t0, n, 0)) rfl (fun _ => rfl) rfl ?_
      refine ex_ret (r := (some (.inl ((gz (q % 8)) + (8 * ((q / 8) + 0)))), t0, n, 0)) rfl (fun _ => rfl) ?_
      have e9 : nb O D q 3 = (gz (q % 8)) + (8 * ((q / 8) + 0)) := by rw [nb_3]; split <;> omega
      exact ⟨_, rfl, by rw [e9]⟩
  · refine en_u_ex (d := d + 1) rfl ?_
    show en_ex _ _ _ _ (0, [(0, gx_r 257), (1, .inl q), (2, .inl 4)], [], t0, n, 0) _
    refine ex_go (S := (1, [(0, gx_r 257), (1, .inl q), (2, .inl 4)], [.inl q], t0, n, 0)) rfl (fun _ => rfl) rfl ?_
    obtain ⟨_, r21, rfl⟩ := pz_over (d) n (t0 := t0) (x := q) (by first | decide | omega)
    refine ex_stat rfl rfl rfl rfl rfl r21 (Nat.le_refl _) rfl ?_
    show en_ex _ _ _ _ (4, [(0, gx_r 257), (1, .inl q), (2, .inl 4)], [.inl (q % 8)], t0, n, 0) _
    refine ex_go (S := (5, [(0, gx_r 257), (1, .inl q), (2, .inl 4)], [.inl 4, .inl (q % 8)], t0, n, 0)) rfl (fun _ => rfl) rfl ?_
    refine ex_go (S := (6, [(0, gx_r 257), (1, .inl q), (2, .inl 4)], [.inl 1, .inl 4, .inl (q % 8)], t0, n, 0)) rfl (fun _ => rfl) rfl ?_
    refine ex_go (S := (13, [(0, gx_r 257), (1, .inl q), (2, .inl 4)], [.inl (q % 8)], t0, n, 0)) rfl (fun _ => rfl) rfl ?_
    refine ex_go (S := (14, [(0, gx_r 257), (1, .inl q), (2, .inl 4)], [.inl 4, .inl (q % 8)], t0, n, 0)) rfl (fun _ => rfl) rfl ?_
    refine ex_go (S := (15, [(0, gx_r 257), (1, .inl q), (2, .inl 4)], [.inl 3, .inl 4, .inl (q % 8)], t0, n, 0)) rfl (fun _ => rfl) rfl ?_
    refine ex_go (S := (22, [(0, gx_r 257), (1, .inl q), (2, .inl 4)], [.inl (q % 8)], t0, n, 0)) rfl (fun _ => rfl) rfl ?_
    refine ex_go (S := (23, [(0, gx_r 257), (1, .inl q), (2, .inl 4)], [.inl 0, .inl (q % 8)], t0, n, 0)) rfl (fun _ => rfl) rfl ?_
    refine ex_iadd rfl (by first | decide | omega) rfl ?_
    refine ex_go (S := (25, [(3, .inl ((q % 8) + 0)), (0, gx_r 257), (1, .inl q), (2, .inl 4)], [], t0, n, 0)) rfl (fun _ => rfl) rfl ?_
    refine ex_go (S := (26, [(3, .inl ((q % 8) + 0)), (0, gx_r 257), (1, .inl q), (2, .inl 4)], [.inl q], t0, n, 0)) rfl (fun _ => rfl) rfl ?_
    obtain ⟨_, r22, rfl⟩ := pz_down (d) n (t0 := t0) (x := q) (by first | decide | omega)
    refine ex_stat rfl rfl rfl rfl rfl r22 (Nat.le_refl _) rfl ?_
    show en_ex _ _ _ _ (29, [(3, .inl ((q % 8) + 0)), (0, gx_r 257), (1, .inl q), (2, .inl 4)], [.inl (q / 8)], t0, n, 0) _
    refine ex_go (S := (30, [(3, .inl ((q % 8) + 0)), (0, gx_r 257), (1, .inl q), (2, .inl 4)], [.inl 4, .inl (q / 8)], t0, n, 0)) rfl (fun _ => rfl) rfl ?_
    refine ex_go (S := (31, [(3, .inl ((q % 8) + 0)), (0, gx_r 257), (1, .inl q), (2, .inl 4)], [.inl 2, .inl 4, .inl (q / 8)], t0, n, 0)) rfl (fun _ => rfl) rfl ?_
    refine ex_go (S := (38, [(3, .inl ((q % 8) + 0)), (0, gx_r 257), (1, .inl q), (2, .inl 4)], [.inl (q / 8)], t0, n, 0)) rfl (fun _ => rfl) rfl ?_
    refine ex_go (S := (39, [(3, .inl ((q % 8) + 0)), (0, gx_r 257), (1, .inl q), (2, .inl 4)], [.inl 4, .inl (q / 8)], t0, n, 0)) rfl (fun _ => rfl) rfl ?_
    refine ex_go (S := (46, [(3, .inl ((q % 8) + 0)), (0, gx_r 257), (1, .inl q), (2, .inl 4)], [.inl (q / 8)], t0, n, 0)) rfl (fun _ => rfl) rfl ?_
    refine ex_go (S := (47, [(3, .inl ((q % 8) + 0)), (0, gx_r 257), (1, .inl q), (2, .inl 4)], [.inl 0, .inl (q / 8)], t0, n, 0)) rfl (fun _ => rfl) rfl ?_
    refine ex_iadd rfl (by first | decide | omega) rfl ?_
    refine ex_go (S := (50, [(4, .inl ((q / 8) + 0)), (3, .inl ((q % 8) + 0)), (0, gx_r 257), (1, .inl q), (2, .inl 4)], [], t0, n, 0)) rfl (fun _ => rfl) rfl ?_
    refine ex_go (S := (51, [(4, .inl ((q / 8) + 0)), (3, .inl ((q % 8) + 0)), (0, gx_r 257), (1, .inl q), (2, .inl 4)], [gx_r 257], t0, n, 0)) rfl (fun _ => rfl) rfl ?_
    refine ex_go (S := (52, [(4, .inl ((q / 8) + 0)), (3, .inl ((q % 8) + 0)), (0, gx_r 257), (1, .inl q), (2, .inl 4)], [.inl ((q % 8) + 0), gx_r 257], t0, n, 0)) rfl (fun _ => rfl) rfl ?_
    refine ex_go (S := (54, [(4, .inl ((q / 8) + 0)), (3, .inl ((q % 8) + 0)), (0, gx_r 257), (1, .inl q), (2, .inl 4)], [.inl ((q / 8) + 0), .inl ((q % 8) + 0), gx_r 257], t0, n, 0)) rfl (fun _ => rfl) rfl ?_
    obtain ⟨_, r123, b123, rfl, hb123, hi123⟩ := pc_isPlace257 d n (x := (q % 8) + 0) (y := (q / 8) + 0) (o := O) (e := D) g0 kO kD (by first | decide | omega) (by first | decide | omega) hO hD
    refine gx_callo (a := 257) rfl rfl g0 rfl rfl rfl r123 rfl ?_
    show en_ex _ _ _ _ (57, [(4, .inl ((q / 8) + 0)), (3, .inl ((q % 8) + 0)), (0, gx_r 257), (1, .inl q), (2, .inl 4)], [.inl b123], t0, n, 0) _
    by_cases hc24 : b123 = 0
    · refine gx_1t (c := .eq) rfl (by first | decide | omega) hc24 rfl ?_
      refine ex_go (S := (70, [(4, .inl ((q / 8) + 0)), (3, .inl ((q % 8) + 0)), (0, gx_r 257), (1, .inl q), (2, .inl 4)], [.inl q], t0, n, 0)) rfl (fun _ => rfl) rfl ?_
      refine ex_ret (r := (some (.inl q), t0, n, 0)) rfl (fun _ => rfl) ?_
      have e9 : nb O D q 4 = q := by rw [nb_4]
      exact ⟨_, rfl, by rw [e9]⟩
    · refine gx_1f (c := .eq) rfl (by first | decide | omega) hc24 rfl ?_
      refine ex_go (S := (61, [(4, .inl ((q / 8) + 0)), (3, .inl ((q % 8) + 0)), (0, gx_r 257), (1, .inl q), (2, .inl 4)], [.inl ((q % 8) + 0)], t0, n, 0)) rfl (fun _ => rfl) rfl ?_
      refine ex_go (S := (63, [(4, .inl ((q / 8) + 0)), (3, .inl ((q % 8) + 0)), (0, gx_r 257), (1, .inl q), (2, .inl 4)], [.inl ((q / 8) + 0), .inl ((q % 8) + 0)], t0, n, 0)) rfl (fun _ => rfl) rfl ?_
      obtain ⟨_, r25, rfl⟩ := pc_placeOf2 d n (t0 := t0) (x := (q % 8) + 0) (y := (q / 8) + 0) (by first | decide | omega) (by first | decide | omega)
      refine ex_stat rfl rfl rfl rfl rfl r25 (Nat.le_refl _) rfl ?_
      show en_ex _ _ _ _ (66, [(4, .inl ((q / 8) + 0)), (3, .inl ((q % 8) + 0)), (0, gx_r 257), (1, .inl q), (2, .inl 4)], [.inl (((q % 8) + 0) + (8 * ((q / 8) + 0)))], t0, n, 0) _
      refine ex_go (S := (70, [(4, .inl ((q / 8) + 0)), (3, .inl ((q % 8) + 0)), (0, gx_r 257), (1, .inl q), (2, .inl 4)], [.inl (((q % 8) + 0) + (8 * ((q / 8) + 0)))], t0, n, 0)) rfl (fun _ => rfl) rfl ?_
      refine ex_ret (r := (some (.inl (((q % 8) + 0) + (8 * ((q / 8) + 0)))), t0, n, 0)) rfl (fun _ => rfl) ?_
      have e9 : nb O D q 4 = ((q % 8) + 0) + (8 * ((q / 8) + 0)) := by rw [nb_4]; omega
      exact ⟨_, rfl, by rw [e9]⟩
theorem jmG257 {k : Nat} (hk : k < 16) : ah_G (307 + k) = some ag_307 := by
  rcases (show k = 0 ∨ k = 1 ∨ k = 2 ∨ k = 3 ∨ k = 4 ∨ k = 5 ∨ k = 6 ∨ k = 7 ∨ k = 8 ∨ k = 9 ∨ k = 10 ∨ k = 11 ∨ k = 12 ∨ k = 13 ∨ k = 14 ∨ k = 15 by omega) with rfl | rfl | rfl | rfl | rfl | rfl | rfl | rfl | rfl | rfl | rfl | rfl | rfl | rfl | rfl | rfl <;> rfl
theorem st_a257 (d n : Nat) {tb : en_H} {O D : Nat} {F : Nat → Nat} {Q : en_O → Prop} (hO : O ≤ 8) (hD : D ≤ 8) (kO : ai_hv tb 257 0 = some (.inl O)) (kD : ai_hv tb 257 1 = some (.inl D)) (kF : ∀ j, j < 64 → ai_hv tb 258 j = some (.inl (F j)) ∧ F j ≤ 4) (kr : ∀ i, i < 16 → ai_hv tb 306 i = some (gx_r (307 + i))) (hQ : ∀ t1, ai_HG ah_G t1 → (∀ c i, ¬ ((c = 257 ∧ i = 16) ∨ c = 259 ∨ c = 305 ∨ c = 307) → ai_hv t1 c i = ai_hv tb c i) → ((∀ j, j < 64 → ai_hv t1 259 j = some (.inl (nb O D j (F j))) ∧ ai_hv t1 307 j = some (.inl (nb O D j (F j)))) ∧ (∃ g, ai_hv t1 257 16 = some (.inr (.inl g)) ∧ bts g (fun j => decide (j < 64) && inG O D j)) ∧ ∃ fl : Nat → Nat, ∀ s, s < 5 → ai_hv t1 305 s = some (.inr (.inl (fl s))) ∧ bts (fl s) (fun j => decide (j < 64) && (inG O D j && decide (fdir O D F j = s)))) → en_ex none (en_u (d + 2)) (en_code 14) (fun _ => false) (130, [(1, .inl 64), (0, gx_r 257)], [], t1, n, 0) Q) : ∀ j k t0, k + j = 64 → ai_HG ah_G t0 → (∀ c i, ¬ ((c = 257 ∧ i = 16) ∨ c = 259 ∨ c = 305 ∨ c = 307) → ai_hv t0 c i = ai_hv tb c i) → ((∀ j, j < k → ai_hv t0 259 j = some (.inl (nb O D j (F j))) ∧ ai_hv t0 307 j = some (.inl (nb O D j (F j)))) ∧ (∃ g, ai_hv t0 257 16 = some (.inr (.inl g)) ∧ bts g (fun j => decide (j < k) && inG O D j)) ∧ ∃ fl : Nat → Nat, ∀ s, s < 5 → ai_hv t0 305 s = some (.inr (.inl (fl s))) ∧ bts (fl s) (fun j => decide (j < k) && (inG O D j && decide (fdir O D F j = s)))) → en_ex none (en_u (d + 2)) (en_code 14) (fun _ => false) (27, [(1, .inl k), (0, gx_r 257)], [], t0, n, 0) Q := by
  intro j
  induction j with
  | zero =>
    intro k t0 hk g0 e0 i0
    have hk : k = 64 := by omega
    subst hk
    refine ex_go (S := (28, [(1, .inl 64), (0, gx_r 257)], [.inl 64], t0, n, 0)) rfl (fun _ => rfl) rfl ?_
    refine ex_go (S := (30, [(1, .inl 64), (0, gx_r 257)], [.inl 64, .inl 64], t0, n, 0)) rfl (fun _ => rfl) rfl ?_
    refine ex_go (S := (130, [(1, .inl 64), (0, gx_r 257)], [], t0, n, 0)) rfl (fun _ => rfl) rfl ?_
    exact hQ t0 g0 e0 i0
  | succ j ih =>
    intro k t0 hk g0 e0 i0
    obtain ⟨i1, ⟨g, kg, bg⟩, fl, kfl⟩ := i0
    obtain ⟨kf, hf⟩ := kF k (by first | decide | omega)
    have kf := (e0 258 k (by first | decide | omega)).trans kf
    have hn := nb_lt (O := O) (D := D) (p := k) (s := F k) (by first | decide | omega) hO hD
    have hg64 := bg.1
    have hfd : fdir O D F k ≤ 4 := by unfold fdir; split <;> omega
    refine ex_go (S := (28, [(1, .inl k), (0, gx_r 257)], [.inl k], t0, n, 0)) rfl (fun _ => rfl) rfl ?_
    refine ex_go (S := (30, [(1, .inl k), (0, gx_r 257)], [.inl 64, .inl k], t0, n, 0)) rfl (fun _ => rfl) rfl ?_
    refine gx_2f (c := .ge) rfl (by first | decide | omega) (by first | decide | omega) (show ¬ (64 ≤ k) from by omega) rfl ?_
    refine ex_go (S := (34, [(1, .inl k), (0, gx_r 257)], [gx_r 257], t0, n, 0)) rfl (fun _ => rfl) rfl ?_
    refine gxo_ref (a := 257) (c := 259) rfl g0 rfl rfl rfl rfl rfl ?_
    refine ex_go (S := (38, [(1, .inl k), (0, gx_r 257)], [.inl k, gx_r 259], t0, n, 0)) rfl (fun _ => rfl) rfl ?_
    refine ex_go (S := (39, [(1, .inl k), (0, gx_r 257)], [gx_r 257, .inl k, gx_r 259], t0, n, 0)) rfl (fun _ => rfl) rfl ?_
    refine ex_go (S := (40, [(1, .inl k), (0, gx_r 257)], [.inl k, gx_r 257, .inl k, gx_r 259], t0, n, 0)) rfl (fun _ => rfl) rfl ?_
    refine ex_go (S := (41, [(1, .inl k), (0, gx_r 257)], [gx_r 257, .inl k, gx_r 257, .inl k, gx_r 259], t0, n, 0)) rfl (fun _ => rfl) rfl ?_
    refine gxo_ref (a := 257) (c := 258) rfl g0 rfl rfl rfl rfl rfl ?_
    refine ex_go (S := (45, [(1, .inl k), (0, gx_r 257)], [.inl k, gx_r 258, .inl k, gx_r 257, .inl k, gx_r 259], t0, n, 0)) rfl (fun _ => rfl) rfl ?_
    refine gx_ag (v := .inl (F k)) (cb := fun c => Nat.beq c 0) rfl (fun _ => rfl) g0 rfl rfl kf (by first | decide | omega) rfl ?_
    obtain ⟨_, r21, rfl⟩ := sc_nb257 d n (q := k) (s := F k) g0 ((e0 257 0 (by first | decide | omega)).trans kO) ((e0 257 1 (by first | decide | omega)).trans kD) hO hD (by first | decide | omega) hf
    refine gx_callo (a := 257) rfl rfl g0 rfl rfl rfl r21 rfl ?_
    show en_ex _ _ _ _ (49, [(1, .inl k), (0, gx_r 257)], [.inl (nb O D k (F k)), .inl k, gx_r 259], t0, n, 0) _
    refine gx_ap rfl (fun _ => rfl) g0 rfl rfl rfl (show k < 64 from by omega) (gx_run1 (show k < 64 from by omega)) (ai_in_h (by first | decide | omega) (by first | decide | omega) (by first | decide | omega)) rfl (fun t122 g122 k122 e122 => ?_)
    have k23 : ai_hv t122 258 k = some (.inl (F k)) := (e122 258 k (by first | decide | omega)).trans kf
    have k24 : ai_hv t122 257 16 = some (.inr (.inl g)) := (e122 257 16 (by first | decide | omega)).trans kg
    refine ex_go (S := (51, [(1, .inl k), (0, gx_r 257)], [gx_r 257], t122, n, 0)) rfl (fun _ => rfl) rfl ?_
    refine gxo_ref (a := 257) (c := 306) rfl g122 rfl rfl rfl rfl rfl ?_
    refine ex_go (S := (55, [(1, .inl k), (0, gx_r 257)], [.inl 0, gx_r 306], t122, n, 0)) rfl (fun _ => rfl) rfl ?_
    refine gx_ag (v := gx_r 307) (cb := fun c => Nat.ble 4 c && Nat.ble c 7) rfl (fun _ => rfl) g122 rfl rfl ((e122 306 0 (by first | decide | omega)).trans ((e0 306 0 (by first | decide | omega)).trans (kr 0 (by first | decide | omega)))) (by first | decide | omega) rfl ?_
    refine ex_go (S := (57, [(1, .inl k), (0, gx_r 257)], [.inl k, gx_r 307], t122, n, 0)) rfl (fun _ => rfl) rfl ?_
    refine ex_go (S := (58, [(1, .inl k), (0, gx_r 257)], [gx_r 257, .inl k, gx_r 307], t122, n, 0)) rfl (fun _ => rfl) rfl ?_
    refine gxo_ref (a := 257) (c := 259) rfl g122 rfl rfl rfl rfl rfl ?_
    refine ex_go (S := (62, [(1, .inl k), (0, gx_r 257)], [.inl k, gx_r 259, .inl k, gx_r 307], t122, n, 0)) rfl (fun _ => rfl) rfl ?_
    refine gx_ag (v := .inl (nb O D k (F k))) (cb := fun c => Nat.beq c 0) rfl (fun _ => rfl) g122 rfl rfl k122 (by first | decide | omega) rfl ?_
    refine gx_ap rfl (fun _ => rfl) g122 rfl rfl rfl (show k < 64 from by omega) (gx_run1 (show k < 64 from by omega)) (ai_in_h (by first | decide | omega) (by first | decide | omega) (by first | decide | omega)) rfl (fun t125 g125 k125 e125 => ?_)
    have k26 : ai_hv t125 258 k = some (.inl (F k)) := (e125 258 k (by first | decide | omega)).trans k23
    have k27 : ai_hv t125 257 16 = some (.inr (.inl g)) := (e125 257 16 (by first | decide | omega)).trans k24
    have k28 : ai_hv t125 259 k = some (.inl (nb O D k (F k))) := (e125 259 k (by first | decide | omega)).trans k122
    refine ex_go (S := (65, [(1, .inl k), (0, gx_r 257)], [gx_r 257], t125, n, 0)) rfl (fun _ => rfl) rfl ?_
    refine ex_go (S := (66, [(1, .inl k), (0, gx_r 257)], [.inl k, gx_r 257], t125, n, 0)) rfl (fun _ => rfl) rfl ?_
    obtain ⟨_, r29, rfl⟩ := pz_over (d + 1) n (t0 := t125) (x := k) (by first | decide | omega)
    refine ex_stat rfl rfl rfl rfl rfl r29 (Nat.le_refl _) rfl ?_
    show en_ex _ _ _ _ (69, [(1, .inl k), (0, gx_r 257)], [.inl (k % 8), gx_r 257], t125, n, 0) _
    refine ex_go (S := (70, [(1, .inl k), (0, gx_r 257)], [.inl k, .inl (k % 8), gx_r 257], t125, n, 0)) rfl (fun _ => rfl) rfl ?_
    obtain ⟨_, r30, rfl⟩ := pz_down (d + 1) n (t0 := t125) (x := k) (by first | decide | omega)
    refine ex_stat rfl rfl rfl rfl rfl r30 (Nat.le_refl _) rfl ?_
    show en_ex _ _ _ _ (73, [(1, .inl k), (0, gx_r 257)], [.inl (k / 8), .inl (k % 8), gx_r 257], t125, n, 0) _
    obtain ⟨_, r131, b131, rfl, hb131, hi131⟩ := pc_isPlace257 (d + 1) n (x := k % 8) (y := k / 8) (o := O) (e := D) g125 (((e125 257 0 (by first | decide | omega)).trans (e122 257 0 (by first | decide | omega))).trans ((e0 257 0 (by first | decide | omega)).trans kO)) (((e125 257 1 (by first | decide | omega)).trans (e122 257 1 (by first | decide | omega))).trans ((e0 257 1 (by first | decide | omega)).trans kD)) (by first | decide | omega) (by first | decide | omega) hO hD
    refine gx_callo (a := 257) rfl rfl g125 rfl rfl rfl r131 rfl ?_
    show en_ex _ _ _ _ (76, [(1, .inl k), (0, gx_r 257)], [.inl b131], t125, n, 0) _
    by_cases hc32 : b131 = 0
    · refine gx_1t (c := .eq) rfl (by first | decide | omega) hc32 rfl ?_
      refine gx_iinc (i := 1) (k := 1) rfl (fun _ => rfl) (by first | decide | omega) rfl ?_
      show en_ex _ _ _ _ (127, [(1, .inl (k + 1)), (0, gx_r 257)], [], t125, n, 0) _
      refine ex_go (S := (27, [(1, .inl (k + 1)), (0, gx_r 257)], [], t125, n, 0)) rfl (fun _ => rfl) rfl ?_
      refine ih (k + 1) t125 (by first | decide | omega) g125 (fun c i h => ((e125 c i (by first | decide | omega)).trans (e122 c i (by first | decide | omega))).trans (e0 c i h)) ⟨fun j hj => ?_, ?_, ?_⟩
      · by_cases e9 : j = k
        · subst e9; exact ⟨k28, k125⟩
        · exact ⟨((e125 259 j (by first | decide | omega)).trans (e122 259 j (by first | decide | omega))).trans (i1 j (by first | decide | omega)).1, ((e125 307 j (by first | decide | omega)).trans (e122 307 j (by first | decide | omega))).trans (i1 j (by first | decide | omega)).2⟩
      · refine ⟨g, ((e125 257 16 (by first | decide | omega)).trans (e122 257 16 (by first | decide | omega))).trans kg, bts_mk bg.1 (fun j hj => ?_)⟩
        rw [bts_at bg hj]
        by_cases e9 : j = k
        · have z9 : inG O D j = false := by unfold inG; rw [e9]; simp only [Bool.and_eq_false_iff, decide_eq_false_iff_not]; omega
          rw [z9, Bool.and_false, Bool.and_false]
        · have z9 : decide (j < k + 1) = decide (j < k) := by rw [decide_eq_decide]; omega
          rw [z9]
      · refine ⟨fl, fun s hs => ⟨((e125 305 s (by first | decide | omega)).trans (e122 305 s (by first | decide | omega))).trans (kfl s hs).1, bts_mk (kfl s hs).2.1 (fun j hj => ?_)⟩⟩
        rw [bts_at (kfl s hs).2 hj]
        by_cases e9 : j = k
        · have z9 : inG O D j = false := by unfold inG; rw [e9]; simp only [Bool.and_eq_false_iff, decide_eq_false_iff_not]; omega
          rw [z9, Bool.false_and, Bool.and_false, Bool.and_false]
        · have z9 : decide (j < k + 1) = decide (j < k) := by rw [decide_eq_decide]; omega
          rw [z9]
    · refine gx_1f (c := .eq) rfl (by first | decide | omega) hc32 rfl ?_
      refine ex_go (S := (80, [(1, .inl k), (0, gx_r 257)], [gx_r 257], t125, n, 0)) rfl (fun _ => rfl) rfl ?_
      refine ex_go (S := (81, [(1, .inl k), (0, gx_r 257)], [gx_r 257, gx_r 257], t125, n, 0)) rfl (fun _ => rfl) rfl ?_
      refine gxo_get (a := 257) rfl g125 rfl rfl k27 rfl ?_
      refine ex_go (S := (85, [(1, .inl k), (0, gx_r 257)], [.inl k, .inr (.inl g), gx_r 257], t125, n, 0)) rfl (fun _ => rfl) rfl ?_
      obtain ⟨_, r33, rfl⟩ := pz_bit (d + 1) n (t0 := t125) (x := k) (by first | decide | omega)
      refine ex_stat rfl rfl rfl rfl rfl r33 (Nat.le_refl _) rfl ?_
      show en_ex _ _ _ _ (88, [(1, .inl k), (0, gx_r 257)], [.inr (.inl (2 ^ k)), .inr (.inl g), gx_r 257], t125, n, 0) _
      refine ex_go (S := (89, [(1, .inl k), (0, gx_r 257)], [.inr (.inl (en_lor g (2 ^ k))), gx_r 257], t125, n, 0)) rfl (fun _ => rfl) rfl ?_
      rw [sz_lor (by first | exact hg64 | omega) (sz_two (by first | decide | omega))]
      refine gxo_putr (a := 257) (h := .inr (.inl 0)) rfl g125 rfl rfl rfl ⟨_, rfl⟩ rfl (fun t134 g134 k134 e134 => ?_)
      have k35 : ai_hv t134 258 k = some (.inl (F k)) := (e134 258 k (by first | decide | omega)).trans k26
      have k36 : ai_hv t134 259 k = some (.inl (nb O D k (F k))) := (e134 259 k (by first | decide | omega)).trans k28
      have k37 : ai_hv t134 307 k = some (.inl (nb O D k (F k))) := (e134 307 k (by first | decide | omega)).trans k125
      refine ex_go (S := (93, [(1, .inl k), (0, gx_r 257)], [gx_r 257], t134, n, 0)) rfl (fun _ => rfl) rfl ?_
      refine gxo_ref (a := 257) (c := 305) rfl g134 rfl rfl rfl rfl rfl ?_
      refine ex_go (S := (97, [(1, .inl k), (0, gx_r 257)], [gx_r 257, gx_r 305], t134, n, 0)) rfl (fun _ => rfl) rfl ?_
      refine gxo_ref (a := 257) (c := 259) rfl g134 rfl rfl rfl rfl rfl ?_
      refine ex_go (S := (101, [(1, .inl k), (0, gx_r 257)], [.inl k, gx_r 259, gx_r 305], t134, n, 0)) rfl (fun _ => rfl) rfl ?_
      refine gx_ag (v := .inl (nb O D k (F k))) (cb := fun c => Nat.beq c 0) rfl (fun _ => rfl) g134 rfl rfl k36 (by first | decide | omega) rfl ?_
      refine ex_go (S := (103, [(1, .inl k), (0, gx_r 257)], [.inl k, .inl (nb O D k (F k)), gx_r 305], t134, n, 0)) rfl (fun _ => rfl) rfl ?_
      by_cases hc38 : nb O D k (F k) ≠ k
      · refine gx_2t (c := .ne) rfl (by first | decide | omega) (by first | decide | omega) hc38 rfl ?_
        refine ex_go (S := (111, [(1, .inl k), (0, gx_r 257)], [gx_r 257, gx_r 305], t134, n, 0)) rfl (fun _ => rfl) rfl ?_
        refine gxo_ref (a := 257) (c := 258) rfl g134 rfl rfl rfl rfl rfl ?_
        refine ex_go (S := (115, [(1, .inl k), (0, gx_r 257)], [.inl k, gx_r 258, gx_r 305], t134, n, 0)) rfl (fun _ => rfl) rfl ?_
        refine gx_ag (v := .inl (F k)) (cb := fun c => Nat.beq c 0) rfl (fun _ => rfl) g134 rfl rfl k35 (by first | decide | omega) rfl ?_
        refine ex_go (S := (117, [(1, .inl k), (0, gx_r 257)], [.inl (F k), gx_r 305, .inl (F k), gx_r 305], t134, n, 0)) rfl (fun _ => rfl) rfl ?_
        have k39 := ((e134 305 (F k) (by first | decide | omega)).trans ((e125 305 (F k) (by first | decide | omega)).trans (e122 305 (F k) (by first | decide | omega)))).trans (kfl (F k) (by first | decide | omega)).1
        have hfl64 := (kfl (F k) (by first | decide | omega)).2.1
        refine gx_ag (v := .inr (.inl (fl (F k)))) (cb := fun c => Nat.beq c 3) rfl (fun _ => rfl) g134 rfl rfl k39 (by first | decide | omega) rfl ?_
        refine ex_go (S := (119, [(1, .inl k), (0, gx_r 257)], [.inl k, .inr (.inl (fl (F k))), .inl (F k), gx_r 305], t134, n, 0)) rfl (fun _ => rfl) rfl ?_
        obtain ⟨_, r40, rfl⟩ := pz_bit (d + 1) n (t0 := t134) (x := k) (by first | decide | omega)
        refine ex_stat rfl rfl rfl rfl rfl r40 (Nat.le_refl _) rfl ?_
        show en_ex _ _ _ _ (122, [(1, .inl k), (0, gx_r 257)], [.inr (.inl (2 ^ k)), .inr (.inl (fl (F k))), .inl (F k), gx_r 305], t134, n, 0) _
        refine ex_go (S := (123, [(1, .inl k), (0, gx_r 257)], [.inr (.inl (en_lor (fl (F k)) (2 ^ k))), .inl (F k), gx_r 305], t134, n, 0)) rfl (fun _ => rfl) rfl ?_
        rw [sz_lor (by first | exact hfl64 | omega) (sz_two (by first | decide | omega))]
        refine gx_apv (d := 1) rfl (fun _ => rfl) g134 rfl rfl rfl (show F k < 5 from by omega) (gx_run1 (show F k < 5 from by omega)) ⟨_, rfl⟩ rfl (fun t141 g141 k141 e141 => ?_)
        have k42 : ai_hv t141 258 k = some (.inl (F k)) := (e141 258 k (by first | decide | omega)).trans k35
        have k43 : ai_hv t141 259 k = some (.inl (nb O D k (F k))) := (e141 259 k (by first | decide | omega)).trans k36
        have k44 : ai_hv t141 307 k = some (.inl (nb O D k (F k))) := (e141 307 k (by first | decide | omega)).trans k37
        have k45 : ai_hv t141 257 16 = some (.inr (.inl (g ||| (2 ^ k)))) := (e141 257 16 (by first | decide | omega)).trans k134
        refine gx_iinc (i := 1) (k := 1) rfl (fun _ => rfl) (by first | decide | omega) rfl ?_
        show en_ex _ _ _ _ (127, [(1, .inl (k + 1)), (0, gx_r 257)], [], t141, n, 0) _
        refine ex_go (S := (27, [(1, .inl (k + 1)), (0, gx_r 257)], [], t141, n, 0)) rfl (fun _ => rfl) rfl ?_
        refine ih (k + 1) t141 (by first | decide | omega) g141 (fun c i h => ((e141 c i (by first | decide | omega)).trans ((e134 c i (by first | decide | omega)).trans ((e125 c i (by first | decide | omega)).trans (e122 c i (by first | decide | omega))))).trans (e0 c i h)) ⟨fun j hj => ?_, ?_, ?_⟩
        · by_cases e9 : j = k
          · subst e9; exact ⟨k43, k44⟩
          · exact ⟨((e141 259 j (by first | decide | omega)).trans ((e134 259 j (by first | decide | omega)).trans ((e125 259 j (by first | decide | omega)).trans (e122 259 j (by first | decide | omega))))).trans (i1 j (by first | decide | omega)).1, ((e141 307 j (by first | decide | omega)).trans ((e134 307 j (by first | decide | omega)).trans ((e125 307 j (by first | decide | omega)).trans (e122 307 j (by first | decide | omega))))).trans (i1 j (by first | decide | omega)).2⟩
        · refine ⟨g ||| 2 ^ k, k45, bts_or bg (by first | decide | omega) (fun j hj => ?_)⟩
          by_cases e9 : k = j
          · subst e9
            have z9 : inG O D k = true := by unfold inG; rw [Bool.and_eq_true, decide_eq_true_eq, decide_eq_true_eq]; omega
            rw [z9, decide_eq_true (show k < k + 1 by omega), decide_eq_true (show k = k from rfl), Bool.or_true]; rfl
          · have z9 : decide (j < k + 1) = decide (j < k) := by rw [decide_eq_decide]; omega
            rw [z9, decide_eq_false e9, Bool.or_false]
        · have hd9 : fdir O D F k = F k := by unfold fdir; rw [if_neg (by first | decide | omega)]
          refine ⟨fun s => if s = F k then fl (F k) ||| 2 ^ k else fl s, fun s hs => ?_⟩
          dsimp only
          by_cases e8 : s = F k
          · rw [e8, if_pos rfl]
            refine ⟨k141, bts_or (kfl (F k) (by first | decide | omega)).2 (by first | decide | omega) (fun j hj => ?_)⟩
            by_cases e9 : k = j
            · subst e9
              have z9 : inG O D k = true := by unfold inG; rw [Bool.and_eq_true, decide_eq_true_eq, decide_eq_true_eq]; omega
              rw [z9, hd9, decide_eq_true (show k < k + 1 by omega), decide_eq_true (show k = k from rfl), decide_eq_true (show F k = F k from rfl), Bool.or_true]; rfl
            · have z9 : decide (j < k + 1) = decide (j < k) := by rw [decide_eq_decide]; omega
              rw [z9, decide_eq_false e9, Bool.or_false]
          · rw [if_neg e8]
            refine ⟨((e141 305 s (by first | decide | omega)).trans ((e134 305 s (by first | decide | omega)).trans ((e125 305 s (by first | decide | omega)).trans (e122 305 s (by first | decide | omega))))).trans (kfl s hs).1, bts_mk (kfl s hs).2.1 (fun j hj => ?_)⟩
            rw [bts_at (kfl s hs).2 hj]
            by_cases e9 : j = k
            · have z9 : decide (fdir O D F j = s) = false := by rw [decide_eq_false_iff_not, e9, hd9]; exact fun z => e8 z.symm
              rw [z9, Bool.and_false, Bool.and_false, Bool.and_false]
            · have z9 : decide (j < k + 1) = decide (j < k) := by rw [decide_eq_decide]; omega
              rw [z9]
      · refine gx_2f (c := .ne) rfl (by first | decide | omega) (by first | decide | omega) hc38 rfl ?_
        refine ex_go (S := (107, [(1, .inl k), (0, gx_r 257)], [.inl 4, gx_r 305], t134, n, 0)) rfl (fun _ => rfl) rfl ?_
        refine ex_go (S := (116, [(1, .inl k), (0, gx_r 257)], [.inl 4, gx_r 305], t134, n, 0)) rfl (fun _ => rfl) rfl ?_
        refine ex_go (S := (117, [(1, .inl k), (0, gx_r 257)], [.inl 4, gx_r 305, .inl 4, gx_r 305], t134, n, 0)) rfl (fun _ => rfl) rfl ?_
        have k46 := ((e134 305 4 (by first | decide | omega)).trans ((e125 305 4 (by first | decide | omega)).trans (e122 305 4 (by first | decide | omega)))).trans (kfl 4 (by first | decide | omega)).1
        have hfl64 := (kfl 4 (by first | decide | omega)).2.1
        refine gx_ag (v := .inr (.inl (fl 4))) (cb := fun c => Nat.beq c 3) rfl (fun _ => rfl) g134 rfl rfl k46 (by first | decide | omega) rfl ?_
        refine ex_go (S := (119, [(1, .inl k), (0, gx_r 257)], [.inl k, .inr (.inl (fl 4)), .inl 4, gx_r 305], t134, n, 0)) rfl (fun _ => rfl) rfl ?_
        obtain ⟨_, r47, rfl⟩ := pz_bit (d + 1) n (t0 := t134) (x := k) (by first | decide | omega)
        refine ex_stat rfl rfl rfl rfl rfl r47 (Nat.le_refl _) rfl ?_
        show en_ex _ _ _ _ (122, [(1, .inl k), (0, gx_r 257)], [.inr (.inl (2 ^ k)), .inr (.inl (fl 4)), .inl 4, gx_r 305], t134, n, 0) _
        refine ex_go (S := (123, [(1, .inl k), (0, gx_r 257)], [.inr (.inl (en_lor (fl 4) (2 ^ k))), .inl 4, gx_r 305], t134, n, 0)) rfl (fun _ => rfl) rfl ?_
        rw [sz_lor (by first | exact hfl64 | omega) (sz_two (by first | decide | omega))]
        refine gx_apv (d := 1) rfl (fun _ => rfl) g134 rfl rfl rfl (show 4 < 5 from by omega) (gx_run1 (show 4 < 5 from by omega)) ⟨_, rfl⟩ rfl (fun t148 g148 k148 e148 => ?_)
        have k49 : ai_hv t148 258 k = some (.inl (F k)) := (e148 258 k (by first | decide | omega)).trans k35
        have k50 : ai_hv t148 259 k = some (.inl (nb O D k (F k))) := (e148 259 k (by first | decide | omega)).trans k36
        have k51 : ai_hv t148 307 k = some (.inl (nb O D k (F k))) := (e148 307 k (by first | decide | omega)).trans k37
        have k52 : ai_hv t148 257 16 = some (.inr (.inl (g ||| (2 ^ k)))) := (e148 257 16 (by first | decide | omega)).trans k134
        refine gx_iinc (i := 1) (k := 1) rfl (fun _ => rfl) (by first | decide | omega) rfl ?_
        show en_ex _ _ _ _ (127, [(1, .inl (k + 1)), (0, gx_r 257)], [], t148, n, 0) _
        refine ex_go (S := (27, [(1, .inl (k + 1)), (0, gx_r 257)], [], t148, n, 0)) rfl (fun _ => rfl) rfl ?_
        refine ih (k + 1) t148 (by first | decide | omega) g148 (fun c i h => ((e148 c i (by first | decide | omega)).trans ((e134 c i (by first | decide | omega)).trans ((e125 c i (by first | decide | omega)).trans (e122 c i (by first | decide | omega))))).trans (e0 c i h)) ⟨fun j hj => ?_, ?_, ?_⟩
        · by_cases e9 : j = k
          · subst e9; exact ⟨k50, k51⟩
          · exact ⟨((e148 259 j (by first | decide | omega)).trans ((e134 259 j (by first | decide | omega)).trans ((e125 259 j (by first | decide | omega)).trans (e122 259 j (by first | decide | omega))))).trans (i1 j (by first | decide | omega)).1, ((e148 307 j (by first | decide | omega)).trans ((e134 307 j (by first | decide | omega)).trans ((e125 307 j (by first | decide | omega)).trans (e122 307 j (by first | decide | omega))))).trans (i1 j (by first | decide | omega)).2⟩
        · refine ⟨g ||| 2 ^ k, k52, bts_or bg (by first | decide | omega) (fun j hj => ?_)⟩
          by_cases e9 : k = j
          · subst e9
            have z9 : inG O D k = true := by unfold inG; rw [Bool.and_eq_true, decide_eq_true_eq, decide_eq_true_eq]; omega
            rw [z9, decide_eq_true (show k < k + 1 by omega), decide_eq_true (show k = k from rfl), Bool.or_true]; rfl
          · have z9 : decide (j < k + 1) = decide (j < k) := by rw [decide_eq_decide]; omega
            rw [z9, decide_eq_false e9, Bool.or_false]
        · have hd9 : fdir O D F k = 4 := by unfold fdir; rw [if_pos (by first | decide | omega)]
          refine ⟨fun s => if s = 4 then fl (4) ||| 2 ^ k else fl s, fun s hs => ?_⟩
          dsimp only
          by_cases e8 : s = 4
          · rw [e8, if_pos rfl]
            refine ⟨k148, bts_or (kfl (4) (by first | decide | omega)).2 (by first | decide | omega) (fun j hj => ?_)⟩
            by_cases e9 : k = j
            · subst e9
              have z9 : inG O D k = true := by unfold inG; rw [Bool.and_eq_true, decide_eq_true_eq, decide_eq_true_eq]; omega
              rw [z9, hd9, decide_eq_true (show k < k + 1 by omega), decide_eq_true (show k = k from rfl), decide_eq_true (show 4 = 4 from rfl), Bool.or_true]; rfl
            · have z9 : decide (j < k + 1) = decide (j < k) := by rw [decide_eq_decide]; omega
              rw [z9, decide_eq_false e9, Bool.or_false]
          · rw [if_neg e8]
            refine ⟨((e148 305 s (by first | decide | omega)).trans ((e134 305 s (by first | decide | omega)).trans ((e125 305 s (by first | decide | omega)).trans (e122 305 s (by first | decide | omega))))).trans (kfl s hs).1, bts_mk (kfl s hs).2.1 (fun j hj => ?_)⟩
            rw [bts_at (kfl s hs).2 hj]
            by_cases e9 : j = k
            · have z9 : decide (fdir O D F j = s) = false := by rw [decide_eq_false_iff_not, e9, hd9]; exact fun z => e8 z.symm
              rw [z9, Bool.and_false, Bool.and_false, Bool.and_false]
            · have z9 : decide (j < k + 1) = decide (j < k) := by rw [decide_eq_decide]; omega
              rw [z9]
theorem st_b257 (d n : Nat) {tb : en_H} {O D r : Nat} {F : Nat → Nat} {Q : en_O → Prop} (hO : O ≤ 8) (hD : D ≤ 8) (kr : ∀ i, i < 16 → ai_hv tb 306 i = some (gx_r (307 + i))) (h0 : ∀ j, j < 64 → ai_hv tb 307 j = some (.inl (jmp O D F 1 j))) (hr1 : 1 ≤ r) (hr : r < 16) (hQ : ∀ t1, ai_HG ah_G t1 → (∀ c i, ¬ (308 ≤ c ∧ c ≤ 322) → ai_hv t1 c i = ai_hv tb c i) → (∀ i, i < r + 1 → ∀ j, j < 64 → ai_hv t1 (307 + i) j = some (.inl (jmp O D F (2 ^ i) j))) → en_ex none (en_u (d + 2)) (en_code 14) (fun _ => false) (132, [(1, .inl (r + 1)), (2, .inl 64), (0, gx_r 257)], [], t1, n, 0) Q) : ∀ j k t0, k + j = 64 → ai_HG ah_G t0 → (∀ c i, ¬ (308 ≤ c ∧ c ≤ 322) → ai_hv t0 c i = ai_hv tb c i) → (∀ i, i < r → ∀ j, j < 64 → ai_hv t0 (307 + i) j = some (.inl (jmp O D F (2 ^ i) j))) → (∀ j, j < k → ai_hv t0 (307 + r) j = some (.inl (jmp O D F (2 ^ r) j))) → en_ex none (en_u (d + 2)) (en_code 14) (fun _ => false) (140, [(2, .inl k), (1, .inl r), (0, gx_r 257)], [], t0, n, 0) Q := by
  intro j
  induction j with
  | zero =>
    intro k t0 hk g0 e0 i0 q0
    have hk : k = 64 := by omega
    subst hk
    refine ex_go (S := (141, [(2, .inl 64), (1, .inl r), (0, gx_r 257)], [.inl 64], t0, n, 0)) rfl (fun _ => rfl) rfl ?_
    refine ex_go (S := (143, [(2, .inl 64), (1, .inl r), (0, gx_r 257)], [.inl 64, .inl 64], t0, n, 0)) rfl (fun _ => rfl) rfl ?_
    refine ex_go (S := (179, [(2, .inl 64), (1, .inl r), (0, gx_r 257)], [], t0, n, 0)) rfl (fun _ => rfl) rfl ?_
    refine gx_iinc (i := 1) (k := 1) rfl (fun _ => rfl) (by first | decide | omega) rfl ?_
    show en_ex _ _ _ _ (182, [(1, .inl (r + 1)), (2, .inl 64), (0, gx_r 257)], [], t0, n, 0) _
    refine ex_go (S := (132, [(1, .inl (r + 1)), (2, .inl 64), (0, gx_r 257)], [], t0, n, 0)) rfl (fun _ => rfl) rfl ?_
    refine hQ t0 g0 e0 (fun i hi j hj => ?_)
    by_cases e9 : i = r
    · rw [e9]; exact q0 j hj
    · exact i0 i (by first | decide | omega) j hj
  | succ j ih =>
    intro k t0 hk g0 e0 i0 q0
    have hj1 := jmp_lt (F := F) (j := k) hO hD (by first | decide | omega) (2 ^ (r - 1))
    have hj2 := jmp_lt (F := F) (j := jmp O D F (2 ^ (r - 1)) k) hO hD hj1 (2 ^ (r - 1))
    have hjj : jmp O D F (2 ^ (r - 1)) (jmp O D F (2 ^ (r - 1)) k) = jmp O D F (2 ^ r) k := by
      rw [← jmp_add]
      congr 1
      have h9 : 2 ^ r = 2 ^ (r - 1) * 2 := by rw [← Nat.pow_succ]; congr 1; omega
      omega
    refine ex_go (S := (141, [(2, .inl k), (1, .inl r), (0, gx_r 257)], [.inl k], t0, n, 0)) rfl (fun _ => rfl) rfl ?_
    refine ex_go (S := (143, [(2, .inl k), (1, .inl r), (0, gx_r 257)], [.inl 64, .inl k], t0, n, 0)) rfl (fun _ => rfl) rfl ?_
    refine gx_2f (c := .ge) rfl (by first | decide | omega) (by first | decide | omega) (show ¬ (64 ≤ k) from by omega) rfl ?_
    refine ex_go (S := (147, [(2, .inl k), (1, .inl r), (0, gx_r 257)], [gx_r 257], t0, n, 0)) rfl (fun _ => rfl) rfl ?_
    refine gxo_ref (a := 257) (c := 306) rfl g0 rfl rfl rfl rfl rfl ?_
    refine ex_go (S := (151, [(2, .inl k), (1, .inl r), (0, gx_r 257)], [.inl r, gx_r 306], t0, n, 0)) rfl (fun _ => rfl) rfl ?_
    refine gx_ag (v := gx_r (307 + r)) (cb := fun c => Nat.ble 4 c && Nat.ble c 7) rfl (fun _ => rfl) g0 rfl rfl ((e0 306 r (by first | decide | omega)).trans (kr r (by first | decide | omega))) (by first | decide | omega) rfl ?_
    refine ex_go (S := (153, [(2, .inl k), (1, .inl r), (0, gx_r 257)], [.inl k, gx_r (307 + r)], t0, n, 0)) rfl (fun _ => rfl) rfl ?_
    refine ex_go (S := (154, [(2, .inl k), (1, .inl r), (0, gx_r 257)], [gx_r 257, .inl k, gx_r (307 + r)], t0, n, 0)) rfl (fun _ => rfl) rfl ?_
    refine gxo_ref (a := 257) (c := 306) rfl g0 rfl rfl rfl rfl rfl ?_
    refine ex_go (S := (158, [(2, .inl k), (1, .inl r), (0, gx_r 257)], [.inl r, gx_r 306, .inl k, gx_r (307 + r)], t0, n, 0)) rfl (fun _ => rfl) rfl ?_
    refine ex_go (S := (159, [(2, .inl k), (1, .inl r), (0, gx_r 257)], [.inl 1, .inl r, gx_r 306, .inl k, gx_r (307 + r)], t0, n, 0)) rfl (fun _ => rfl) rfl ?_
    refine gx_isub rfl (by first | decide | omega) (by first | decide | omega) rfl ?_
    refine gx_ag (v := gx_r (307 + (r - 1))) (cb := fun c => Nat.ble 4 c && Nat.ble c 7) rfl (fun _ => rfl) g0 rfl rfl ((e0 306 (r - 1) (by first | decide | omega)).trans (kr (r - 1) (by first | decide | omega))) (by first | decide | omega) rfl ?_
    refine ex_go (S := (162, [(2, .inl k), (1, .inl r), (0, gx_r 257)], [gx_r 257, gx_r (307 + (r - 1)), .inl k, gx_r (307 + r)], t0, n, 0)) rfl (fun _ => rfl) rfl ?_
    refine gxo_ref (a := 257) (c := 306) rfl g0 rfl rfl rfl rfl rfl ?_
    refine ex_go (S := (166, [(2, .inl k), (1, .inl r), (0, gx_r 257)], [.inl r, gx_r 306, gx_r (307 + (r - 1)), .inl k, gx_r (307 + r)], t0, n, 0)) rfl (fun _ => rfl) rfl ?_
    refine ex_go (S := (167, [(2, .inl k), (1, .inl r), (0, gx_r 257)], [.inl 1, .inl r, gx_r 306, gx_r (307 + (r - 1)), .inl k, gx_r (307 + r)], t0, n, 0)) rfl (fun _ => rfl) rfl ?_
    refine gx_isub rfl (by first | decide | omega) (by first | decide | omega) rfl ?_
    refine gx_ag (v := gx_r (307 + (r - 1))) (cb := fun c => Nat.ble 4 c && Nat.ble c 7) rfl (fun _ => rfl) g0 rfl rfl ((e0 306 (r - 1) (by first | decide | omega)).trans (kr (r - 1) (by first | decide | omega))) (by first | decide | omega) rfl ?_
    refine ex_go (S := (170, [(2, .inl k), (1, .inl r), (0, gx_r 257)], [.inl k, gx_r (307 + (r - 1)), gx_r (307 + (r - 1)), .inl k, gx_r (307 + r)], t0, n, 0)) rfl (fun _ => rfl) rfl ?_
    refine gx_ag (v := .inl (jmp O D F (2 ^ (r - 1)) k)) (cb := fun c => Nat.beq c 0) rfl (fun _ => rfl) g0 (jmG257 (by first | decide | omega)) rfl (i0 (r - 1) (by first | decide | omega) k (by first | decide | omega)) (by first | decide | omega) rfl ?_
    refine gx_ag (v := .inl (jmp O D F (2 ^ (r - 1)) (jmp O D F (2 ^ (r - 1)) k))) (cb := fun c => Nat.beq c 0) rfl (fun _ => rfl) g0 (jmG257 (by first | decide | omega)) rfl (i0 (r - 1) (by first | decide | omega) (jmp O D F (2 ^ (r - 1)) k) (by first | decide | omega)) (by first | decide | omega) rfl ?_
    refine gx_ap rfl (fun _ => rfl) g0 (jmG257 (by first | decide | omega)) rfl rfl (show k < 64 from by omega) (gx_run1 (show k < 64 from by omega)) (ai_in_h (by first | decide | omega) (by first | decide | omega) (by first | decide | omega)) rfl (fun t121 g121 k121 e121 => ?_)
    refine gx_iinc (i := 2) (k := 1) rfl (fun _ => rfl) (by first | decide | omega) rfl ?_
    show en_ex _ _ _ _ (176, [(2, .inl (k + 1)), (1, .inl r), (0, gx_r 257)], [], t121, n, 0) _
    refine ex_go (S := (140, [(2, .inl (k + 1)), (1, .inl r), (0, gx_r 257)], [], t121, n, 0)) rfl (fun _ => rfl) rfl ?_
    refine ih (k + 1) t121 (by first | decide | omega) g121 (fun c i h => (e121 c i (by first | decide | omega)).trans (e0 c i h)) (fun i hi j hj => (e121 _ _ (by first | decide | omega)).trans (i0 i hi j hj)) (fun j hj => ?_)
    by_cases e9 : j = k
    · subst e9; rw [← hjj]; exact k121
    · exact (e121 _ _ (by first | decide | omega)).trans (q0 j (by first | decide | omega))
theorem st_c257 (d n : Nat) {tb : en_H} {O D : Nat} {F : Nat → Nat} {Q : en_O → Prop} (hO : O ≤ 8) (hD : D ≤ 8) (kr : ∀ i, i < 16 → ai_hv tb 306 i = some (gx_r (307 + i))) (h0 : ∀ j, j < 64 → ai_hv tb 307 j = some (.inl (jmp O D F 1 j))) (hQ : ∀ cl t1, ai_HG ah_G t1 → (∀ c i, ¬ (308 ≤ c ∧ c ≤ 322) → ai_hv t1 c i = ai_hv tb c i) → (∀ i, i < 16 → ∀ j, j < 64 → ai_hv t1 (307 + i) j = some (.inl (jmp O D F (2 ^ i) j))) → en_ex none (en_u (d + 2)) (en_code 14) (fun _ => false) (185, cl, [], t1, n, 0) Q) : ∀ j r t0 x, r + j = 16 → 1 ≤ r → ai_HG ah_G t0 → (∀ c i, ¬ (308 ≤ c ∧ c ≤ 322) → ai_hv t0 c i = ai_hv tb c i) → (∀ i, i < r → ∀ j, j < 64 → ai_hv t0 (307 + i) j = some (.inl (jmp O D F (2 ^ i) j))) → (∀ ls, ls = [(1, .inl r), (2, .inl x), (0, gx_r 257)] ∨ ls = [(1, .inl r), (0, gx_r 257)] → en_ex none (en_u (d + 2)) (en_code 14) (fun _ => false) (132, ls, [], t0, n, 0) Q) := by
  intro j
  induction j with
  | zero =>
    intro r t0 x hr hr1 g0 e0 i0 ls hls
    have hr : r = 16 := by omega
    subst hr
    rcases hls with rfl | rfl
    · refine ex_go (S := (133, [(1, .inl 16), (2, .inl x), (0, gx_r 257)], [.inl 16], t0, n, 0)) rfl (fun _ => rfl) rfl ?_
      refine ex_go (S := (135, [(1, .inl 16), (2, .inl x), (0, gx_r 257)], [.inl 16, .inl 16], t0, n, 0)) rfl (fun _ => rfl) rfl ?_
      refine ex_go (S := (185, [(1, .inl 16), (2, .inl x), (0, gx_r 257)], [], t0, n, 0)) rfl (fun _ => rfl) rfl ?_
      exact hQ _ t0 g0 e0 i0
    · refine ex_go (S := (133, [(1, .inl 16), (0, gx_r 257)], [.inl 16], t0, n, 0)) rfl (fun _ => rfl) rfl ?_
      refine ex_go (S := (135, [(1, .inl 16), (0, gx_r 257)], [.inl 16, .inl 16], t0, n, 0)) rfl (fun _ => rfl) rfl ?_
      refine ex_go (S := (185, [(1, .inl 16), (0, gx_r 257)], [], t0, n, 0)) rfl (fun _ => rfl) rfl ?_
      exact hQ _ t0 g0 e0 i0
  | succ j ih =>
    intro r t0 x hr hr1 g0 e0 i0 ls hls
    rcases hls with rfl | rfl
    · refine ex_go (S := (133, [(1, .inl r), (2, .inl x), (0, gx_r 257)], [.inl r], t0, n, 0)) rfl (fun _ => rfl) rfl ?_
      refine ex_go (S := (135, [(1, .inl r), (2, .inl x), (0, gx_r 257)], [.inl 16, .inl r], t0, n, 0)) rfl (fun _ => rfl) rfl ?_
      refine gx_2f (c := .ge) rfl (by first | decide | omega) (by first | decide | omega) (show ¬ (16 ≤ r) from by omega) rfl ?_
      refine ex_go (S := (139, [(1, .inl r), (2, .inl x), (0, gx_r 257)], [.inl 0], t0, n, 0)) rfl (fun _ => rfl) rfl ?_
      refine ex_go (S := (140, [(2, .inl 0), (1, .inl r), (0, gx_r 257)], [], t0, n, 0)) rfl (fun _ => rfl) rfl ?_
      exact st_b257 d n hO hD kr h0 hr1 (by first | decide | omega) (fun t1 g1 e1 i1 => ih (r + 1) t1 64 (by first | decide | omega) (by first | decide | omega) g1 e1 i1 _ (Or.inl rfl)) 64 0 _ (by first | decide | omega) g0 e0 i0 (fun j hj => absurd hj (Nat.not_lt_zero j))
    · refine ex_go (S := (133, [(1, .inl r), (0, gx_r 257)], [.inl r], t0, n, 0)) rfl (fun _ => rfl) rfl ?_
      refine ex_go (S := (135, [(1, .inl r), (0, gx_r 257)], [.inl 16, .inl r], t0, n, 0)) rfl (fun _ => rfl) rfl ?_
      refine gx_2f (c := .ge) rfl (by first | decide | omega) (by first | decide | omega) (show ¬ (16 ≤ r) from by omega) rfl ?_
      refine ex_go (S := (139, [(1, .inl r), (0, gx_r 257)], [.inl 0], t0, n, 0)) rfl (fun _ => rfl) rfl ?_
      refine ex_go (S := (140, [(2, .inl 0), (1, .inl r), (0, gx_r 257)], [], t0, n, 0)) rfl (fun _ => rfl) rfl ?_
      exact st_b257 d n hO hD kr h0 hr1 (by first | decide | omega) (fun t1 g1 e1 i1 => ih (r + 1) t1 64 (by first | decide | omega) (by first | decide | omega) g1 e1 i1 _ (Or.inl rfl)) 64 0 _ (by first | decide | omega) g0 e0 i0 (fun j hj => absurd hj (Nat.not_lt_zero j))
theorem st_257 (d n : Nat) {tb : en_H} {O D : Nat} {F : Nat → Nat} (g0 : ai_HG ah_G tb) (hO : O ≤ 8) (hD : D ≤ 8) (kO : ai_hv tb 257 0 = some (.inl O)) (kD : ai_hv tb 257 1 = some (.inl D)) (kF : ∀ j, j < 64 → ai_hv tb 258 j = some (.inl (F j)) ∧ F j ≤ 4) (kr : ∀ i, i < 16 → ai_hv tb 306 i = some (gx_r (307 + i))) : ∃ r, en_u (d + 3) 14 [gx_r 257] tb n = some r ∧ ∃ t', r = (none, t', n, 0) ∧ ai_HG ah_G t' ∧ (∀ c i, ¬ ((c = 257 ∧ i = 16) ∨ c = 259 ∨ c = 305 ∨ (307 ≤ c ∧ c ≤ 322)) → ai_hv t' c i = ai_hv tb c i) ∧ NX t' 257 := by
  refine en_u_ex (d := d + 2) rfl ?_
  show en_ex _ _ _ _ (0, [(0, gx_r 257)], [], tb, n, 0) _
  refine ex_go (S := (1, [(0, gx_r 257)], [gx_r 257], tb, n, 0)) rfl (fun _ => rfl) rfl ?_
  refine ex_go (S := (2, [(0, gx_r 257)], [.inr (.inl 0), gx_r 257], tb, n, 0)) rfl (fun _ => rfl) rfl ?_
  refine gxo_putr (a := 257) (h := .inr (.inl 0)) rfl g0 rfl rfl rfl ⟨_, rfl⟩ rfl (fun t121 g121 k121 e121 => ?_)
  refine ex_go (S := (6, [(0, gx_r 257)], [.inl 0], t121, n, 0)) rfl (fun _ => rfl) rfl ?_
  refine ex_go (S := (7, [(1, .inl 0), (0, gx_r 257)], [], t121, n, 0)) rfl (fun _ => rfl) rfl ?_
  refine ex_go (S := (8, [(1, .inl 0), (0, gx_r 257)], [.inl 0], t121, n, 0)) rfl (fun _ => rfl) rfl ?_
  refine ex_go (S := (9, [(1, .inl 0), (0, gx_r 257)], [.inl 4, .inl 0], t121, n, 0)) rfl (fun _ => rfl) rfl ?_
  refine ex_go (S := (12, [(1, .inl 0), (0, gx_r 257)], [], t121, n, 0)) rfl (fun _ => rfl) rfl ?_
  refine ex_go (S := (13, [(1, .inl 0), (0, gx_r 257)], [gx_r 257], t121, n, 0)) rfl (fun _ => rfl) rfl ?_
  refine gxo_ref (a := 257) (c := 305) rfl g121 rfl rfl rfl rfl rfl ?_
  refine ex_go (S := (17, [(1, .inl 0), (0, gx_r 257)], [.inl 0, gx_r 305], t121, n, 0)) rfl (fun _ => rfl) rfl ?_
  refine ex_go (S := (18, [(1, .inl 0), (0, gx_r 257)], [.inr (.inl 0), .inl 0, gx_r 305], t121, n, 0)) rfl (fun _ => rfl) rfl ?_
  refine gx_apv (d := 1) rfl (fun _ => rfl) g121 rfl rfl rfl (show 0 < 5 from by omega) rfl ⟨_, rfl⟩ rfl (fun t122 g122 k122 e122 => ?_)
  have k23 : ai_hv t122 257 16 = some (.inr (.inl 0)) := (e122 257 16 (by first | decide | omega)).trans k121
  refine ex_go (S := (22, [(1, .inl 1), (0, gx_r 257)], [], t122, n, 0)) rfl (fun _ => rfl) rfl ?_
  refine ex_go (S := (7, [(1, .inl 1), (0, gx_r 257)], [], t122, n, 0)) rfl (fun _ => rfl) rfl ?_
  refine ex_go (S := (8, [(1, .inl 1), (0, gx_r 257)], [.inl 1], t122, n, 0)) rfl (fun _ => rfl) rfl ?_
  refine ex_go (S := (9, [(1, .inl 1), (0, gx_r 257)], [.inl 4, .inl 1], t122, n, 0)) rfl (fun _ => rfl) rfl ?_
  refine ex_go (S := (12, [(1, .inl 1), (0, gx_r 257)], [], t122, n, 0)) rfl (fun _ => rfl) rfl ?_
  refine ex_go (S := (13, [(1, .inl 1), (0, gx_r 257)], [gx_r 257], t122, n, 0)) rfl (fun _ => rfl) rfl ?_
  refine gxo_ref (a := 257) (c := 305) rfl g122 rfl rfl rfl rfl rfl ?_
  refine ex_go (S := (17, [(1, .inl 1), (0, gx_r 257)], [.inl 1, gx_r 305], t122, n, 0)) rfl (fun _ => rfl) rfl ?_
  refine ex_go (S := (18, [(1, .inl 1), (0, gx_r 257)], [.inr (.inl 0), .inl 1, gx_r 305], t122, n, 0)) rfl (fun _ => rfl) rfl ?_
  refine gx_apv (d := 1) rfl (fun _ => rfl) g122 rfl rfl rfl (show 1 < 5 from by omega) rfl ⟨_, rfl⟩ rfl (fun t124 g124 k124 e124 => ?_)
  have k25 : ai_hv t124 257 16 = some (.inr (.inl 0)) := (e124 257 16 (by first | decide | omega)).trans k23
  have k26 : ai_hv t124 305 0 = some (.inr (.inl 0)) := (e124 305 0 (by first | decide | omega)).trans k122
  refine ex_go (S := (22, [(1, .inl 2), (0, gx_r 257)], [], t124, n, 0)) rfl (fun _ => rfl) rfl ?_
  refine ex_go (S := (7, [(1, .inl 2), (0, gx_r 257)], [], t124, n, 0)) rfl (fun _ => rfl) rfl ?_
  refine ex_go (S := (8, [(1, .inl 2), (0, gx_r 257)], [.inl 2], t124, n, 0)) rfl (fun _ => rfl) rfl ?_
  refine ex_go (S := (9, [(1, .inl 2), (0, gx_r 257)], [.inl 4, .inl 2], t124, n, 0)) rfl (fun _ => rfl) rfl ?_
  refine ex_go (S := (12, [(1, .inl 2), (0, gx_r 257)], [], t124, n, 0)) rfl (fun _ => rfl) rfl ?_
  refine ex_go (S := (13, [(1, .inl 2), (0, gx_r 257)], [gx_r 257], t124, n, 0)) rfl (fun _ => rfl) rfl ?_
  refine gxo_ref (a := 257) (c := 305) rfl g124 rfl rfl rfl rfl rfl ?_
  refine ex_go (S := (17, [(1, .inl 2), (0, gx_r 257)], [.inl 2, gx_r 305], t124, n, 0)) rfl (fun _ => rfl) rfl ?_
  refine ex_go (S := (18, [(1, .inl 2), (0, gx_r 257)], [.inr (.inl 0), .inl 2, gx_r 305], t124, n, 0)) rfl (fun _ => rfl) rfl ?_
  refine gx_apv (d := 1) rfl (fun _ => rfl) g124 rfl rfl rfl (show 2 < 5 from by omega) rfl ⟨_, rfl⟩ rfl (fun t127 g127 k127 e127 => ?_)
  have k28 : ai_hv t127 257 16 = some (.inr (.inl 0)) := (e127 257 16 (by first | decide | omega)).trans k25
  have k29 : ai_hv t127 305 0 = some (.inr (.inl 0)) := (e127 305 0 (by first | decide | omega)).trans k26
  have k30 : ai_hv t127 305 1 = some (.inr (.inl 0)) := (e127 305 1 (by first | decide | omega)).trans k124
  refine ex_go (S := (22, [(1, .inl 3), (0, gx_r 257)], [], t127, n, 0)) rfl (fun _ => rfl) rfl ?_
  refine ex_go (S := (7, [(1, .inl 3), (0, gx_r 257)], [], t127, n, 0)) rfl (fun _ => rfl) rfl ?_
  refine ex_go (S := (8, [(1, .inl 3), (0, gx_r 257)], [.inl 3], t127, n, 0)) rfl (fun _ => rfl) rfl ?_
  refine ex_go (S := (9, [(1, .inl 3), (0, gx_r 257)], [.inl 4, .inl 3], t127, n, 0)) rfl (fun _ => rfl) rfl ?_
  refine ex_go (S := (12, [(1, .inl 3), (0, gx_r 257)], [], t127, n, 0)) rfl (fun _ => rfl) rfl ?_
  refine ex_go (S := (13, [(1, .inl 3), (0, gx_r 257)], [gx_r 257], t127, n, 0)) rfl (fun _ => rfl) rfl ?_
  refine gxo_ref (a := 257) (c := 305) rfl g127 rfl rfl rfl rfl rfl ?_
  refine ex_go (S := (17, [(1, .inl 3), (0, gx_r 257)], [.inl 3, gx_r 305], t127, n, 0)) rfl (fun _ => rfl) rfl ?_
  refine ex_go (S := (18, [(1, .inl 3), (0, gx_r 257)], [.inr (.inl 0), .inl 3, gx_r 305], t127, n, 0)) rfl (fun _ => rfl) rfl ?_
  refine gx_apv (d := 1) rfl (fun _ => rfl) g127 rfl rfl rfl (show 3 < 5 from by omega) rfl ⟨_, rfl⟩ rfl (fun t131 g131 k131 e131 => ?_)
  have k32 : ai_hv t131 257 16 = some (.inr (.inl 0)) := (e131 257 16 (by first | decide | omega)).trans k28
  have k33 : ai_hv t131 305 0 = some (.inr (.inl 0)) := (e131 305 0 (by first | decide | omega)).trans k29
  have k34 : ai_hv t131 305 1 = some (.inr (.inl 0)) := (e131 305 1 (by first | decide | omega)).trans k30
  have k35 : ai_hv t131 305 2 = some (.inr (.inl 0)) := (e131 305 2 (by first | decide | omega)).trans k127
  refine ex_go (S := (22, [(1, .inl 4), (0, gx_r 257)], [], t131, n, 0)) rfl (fun _ => rfl) rfl ?_
  refine ex_go (S := (7, [(1, .inl 4), (0, gx_r 257)], [], t131, n, 0)) rfl (fun _ => rfl) rfl ?_
  refine ex_go (S := (8, [(1, .inl 4), (0, gx_r 257)], [.inl 4], t131, n, 0)) rfl (fun _ => rfl) rfl ?_
  refine ex_go (S := (9, [(1, .inl 4), (0, gx_r 257)], [.inl 4, .inl 4], t131, n, 0)) rfl (fun _ => rfl) rfl ?_
  refine ex_go (S := (12, [(1, .inl 4), (0, gx_r 257)], [], t131, n, 0)) rfl (fun _ => rfl) rfl ?_
  refine ex_go (S := (13, [(1, .inl 4), (0, gx_r 257)], [gx_r 257], t131, n, 0)) rfl (fun _ => rfl) rfl ?_
  refine gxo_ref (a := 257) (c := 305) rfl g131 rfl rfl rfl rfl rfl ?_
  refine ex_go (S := (17, [(1, .inl 4), (0, gx_r 257)], [.inl 4, gx_r 305], t131, n, 0)) rfl (fun _ => rfl) rfl ?_
  refine ex_go (S := (18, [(1, .inl 4), (0, gx_r 257)], [.inr (.inl 0), .inl 4, gx_r 305], t131, n, 0)) rfl (fun _ => rfl) rfl ?_
  refine gx_apv (d := 1) rfl (fun _ => rfl) g131 rfl rfl rfl (show 4 < 5 from by omega) rfl ⟨_, rfl⟩ rfl (fun t136 g136 k136 e136 => ?_)
  have k37 : ai_hv t136 257 16 = some (.inr (.inl 0)) := (e136 257 16 (by first | decide | omega)).trans k32
  have k38 : ai_hv t136 305 0 = some (.inr (.inl 0)) := (e136 305 0 (by first | decide | omega)).trans k33
  have k39 : ai_hv t136 305 1 = some (.inr (.inl 0)) := (e136 305 1 (by first | decide | omega)).trans k34
  have k40 : ai_hv t136 305 2 = some (.inr (.inl 0)) := (e136 305 2 (by first | decide | omega)).trans k35
  have k41 : ai_hv t136 305 3 = some (.inr (.inl 0)) := (e136 305 3 (by first | decide | omega)).trans k131
  refine ex_go (S := (22, [(1, .inl 5), (0, gx_r 257)], [], t136, n, 0)) rfl (fun _ => rfl) rfl ?_
  refine ex_go (S := (7, [(1, .inl 5), (0, gx_r 257)], [], t136, n, 0)) rfl (fun _ => rfl) rfl ?_
  refine ex_go (S := (8, [(1, .inl 5), (0, gx_r 257)], [.inl 5], t136, n, 0)) rfl (fun _ => rfl) rfl ?_
  refine ex_go (S := (9, [(1, .inl 5), (0, gx_r 257)], [.inl 4, .inl 5], t136, n, 0)) rfl (fun _ => rfl) rfl ?_
  refine ex_go (S := (25, [(1, .inl 5), (0, gx_r 257)], [], t136, n, 0)) rfl (fun _ => rfl) rfl ?_
  refine ex_go (S := (26, [(1, .inl 5), (0, gx_r 257)], [.inl 0], t136, n, 0)) rfl (fun _ => rfl) rfl ?_
  refine ex_go (S := (27, [(1, .inl 0), (0, gx_r 257)], [], t136, n, 0)) rfl (fun _ => rfl) rfl ?_
  refine st_a257 d n (tb := t136) (F := F) hO hD (((e136 257 0 (by first | decide | omega)).trans ((e131 257 0 (by first | decide | omega)).trans ((e127 257 0 (by first | decide | omega)).trans ((e124 257 0 (by first | decide | omega)).trans ((e122 257 0 (by first | decide | omega)).trans (e121 257 0 (by first | decide | omega))))))).trans kO) (((e136 257 1 (by first | decide | omega)).trans ((e131 257 1 (by first | decide | omega)).trans ((e127 257 1 (by first | decide | omega)).trans ((e124 257 1 (by first | decide | omega)).trans ((e122 257 1 (by first | decide | omega)).trans (e121 257 1 (by first | decide | omega))))))).trans kD) (fun j hj => ⟨((e136 258 j (by first | decide | omega)).trans ((e131 258 j (by first | decide | omega)).trans ((e127 258 j (by first | decide | omega)).trans ((e124 258 j (by first | decide | omega)).trans ((e122 258 j (by first | decide | omega)).trans (e121 258 j (by first | decide | omega))))))).trans (kF j hj).1, (kF j hj).2⟩) (fun i hi => ((e136 306 i (by first | decide | omega)).trans ((e131 306 i (by first | decide | omega)).trans ((e127 306 i (by first | decide | omega)).trans ((e124 306 i (by first | decide | omega)).trans ((e122 306 i (by first | decide | omega)).trans (e121 306 i (by first | decide | omega))))))).trans (kr i hi)) (fun t142 g142 e142 i142 => ?_) 64 0 _ (by first | decide | omega) g136 (fun _ _ _ => rfl) ⟨fun j hj => absurd hj (Nat.not_lt_zero j), ⟨0, k37, bts_mk (by decide) (fun j hj => ?_)⟩, fun _ => 0, fun s hs => ⟨?_, bts_mk (show (0 : Nat) < 18446744073709551616 by decide) (fun j hj => ?_)⟩⟩
  · refine ex_go (S := (131, [(1, .inl 64), (0, gx_r 257)], [.inl 1], t142, n, 0)) rfl (fun _ => rfl) rfl ?_
    refine ex_go (S := (132, [(1, .inl 1), (0, gx_r 257)], [], t142, n, 0)) rfl (fun _ => rfl) rfl ?_
    refine st_c257 d n (tb := t142) (O := O) (D := D) (F := F) hO hD (fun i hi => ((e142 306 i (by first | decide | omega)).trans ((e136 306 i (by first | decide | omega)).trans ((e131 306 i (by first | decide | omega)).trans ((e127 306 i (by first | decide | omega)).trans ((e124 306 i (by first | decide | omega)).trans ((e122 306 i (by first | decide | omega)).trans (e121 306 i (by first | decide | omega)))))))).trans (kr i hi)) (fun j hj => (i142.1 j hj).2) (fun cl143 t143 g143 e143 i143 => ?_) 15 1 _ 0 (by first | decide | omega) (by decide) g142 (fun _ _ _ => rfl) (fun i hi j hj => ?_) _ (Or.inr rfl)
    · refine ex_ret (r := (none, t143, n, 0)) rfl (fun _ => rfl) ?_
      obtain ⟨z1, ⟨g9, zg, bg⟩, fl, zf⟩ := i142
      refine ⟨_, rfl, t143, rfl, g143, (fun c i h => (e143 c i (by first | decide | omega)).trans ((e142 c i (by first | decide | omega)).trans ((e136 c i (by first | decide | omega)).trans ((e131 c i (by first | decide | omega)).trans ((e127 c i (by first | decide | omega)).trans ((e124 c i (by first | decide | omega)).trans ((e122 c i (by first | decide | omega)).trans (e121 c i (by first | decide | omega))))))))), O, D, F, g9, fl, hO, hD, ((e143 257 0 (by first | decide | omega)).trans ((e142 257 0 (by first | decide | omega)).trans ((e136 257 0 (by first | decide | omega)).trans ((e131 257 0 (by first | decide | omega)).trans ((e127 257 0 (by first | decide | omega)).trans ((e124 257 0 (by first | decide | omega)).trans ((e122 257 0 (by first | decide | omega)).trans (e121 257 0 (by first | decide | omega))))))))).trans kO, ((e143 257 1 (by first | decide | omega)).trans ((e142 257 1 (by first | decide | omega)).trans ((e136 257 1 (by first | decide | omega)).trans ((e131 257 1 (by first | decide | omega)).trans ((e127 257 1 (by first | decide | omega)).trans ((e124 257 1 (by first | decide | omega)).trans ((e122 257 1 (by first | decide | omega)).trans (e121 257 1 (by first | decide | omega))))))))).trans kD, (fun j hj => ⟨((e143 258 j (by first | decide | omega)).trans ((e142 258 j (by first | decide | omega)).trans ((e136 258 j (by first | decide | omega)).trans ((e131 258 j (by first | decide | omega)).trans ((e127 258 j (by first | decide | omega)).trans ((e124 258 j (by first | decide | omega)).trans ((e122 258 j (by first | decide | omega)).trans (e121 258 j (by first | decide | omega))))))))).trans (kF j hj).1, (kF j hj).2⟩), (fun j hj => (e143 _ _ (by first | decide | omega)).trans (z1 j hj).1), ⟨(e143 _ _ (by first | decide | omega)).trans zg, bts_mk bg.1 (fun j hj => ?_)⟩, (fun s hs => ⟨(e143 _ _ (by first | decide | omega)).trans (zf s hs).1, bts_mk (zf s hs).2.1 (fun j hj => ?_)⟩), (fun i hi => ((e143 306 i (by first | decide | omega)).trans ((e142 306 i (by first | decide | omega)).trans ((e136 306 i (by first | decide | omega)).trans ((e131 306 i (by first | decide | omega)).trans ((e127 306 i (by first | decide | omega)).trans ((e124 306 i (by first | decide | omega)).trans ((e122 306 i (by first | decide | omega)).trans (e121 306 i (by first | decide | omega))))))))).trans (kr i hi)), i143⟩
      · rw [bts_at bg hj, decide_eq_true hj, Bool.true_and]
      · rw [bts_at (zf s hs).2 hj, decide_eq_true hj, Bool.true_and]
    · have e9 : i = 0 := by omega
      subst e9
      exact (i142.1 j hj).2
  · rw [Nat.zero_testBit, decide_eq_false (Nat.not_lt_zero j), Bool.false_and]
  · rcases (show s = 0 ∨ s = 1 ∨ s = 2 ∨ s = 3 ∨ s = 4 by omega) with rfl | rfl | rfl | rfl | rfl
    · exact k38
    · exact k39
    · exact k40
    · exact k41
    · exact k136
  · rw [Nat.zero_testBit, decide_eq_false (Nat.not_lt_zero j), Bool.false_and]
end SSG
