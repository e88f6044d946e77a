section AI3
/-! ### ints by bounds -/
noncomputable def ai_in (p : Nat × Nat) (x : Nat) : Prop := x < 4294967296 ∧ p.1 ≤ ai_off x ∧ ai_off x ≤ p.2
theorem ai_off_int (m : Nat) : ((ai_off m : Nat) : Int) = (nI m).toInt + 2147483648 := (en_nI_toInt m).symm
theorem ai_off_lt (m : Nat) : ai_off m < 4294967296 := Nat.mod_lt _ (by decide)
theorem ai_off_32 (v : Int32) : v.toBitVec.toNat < 4294967296 ∧ ((ai_off v.toBitVec.toNat : Nat) : Int) = v.toInt + 2147483648 := by
  refine ⟨v.toBitVec.isLt, ?_⟩
  rw [ai_off_int, en_nI_tn]
noncomputable def ai_full : Nat × Nat := (0, 4294967295)
theorem ai_full_ok {x : Nat} (h : x < 4294967296) : ai_in ai_full x := ⟨h, Nat.zero_le _, by have := ai_off_lt x; show ai_off x ≤ 4294967295; omega⟩
theorem ai_full_32 (v : Int32) : ai_in ai_full v.toBitVec.toNat := ai_full_ok v.toBitVec.isLt
/-- what an abstract operation on ints says of the engine's -/
noncomputable def ai_op (g : en_V → en_V → Option en_V) (F : Nat × Nat → Nat × Nat → Option (Nat × Nat)) : Prop := ∀ (p q r : Nat × Nat) (x y : Nat), F p q = some r → ai_in p x → ai_in q y → ∃ z, g (.inl x) (.inl y) = some (.inl z) ∧ ai_in r z
noncomputable def ai_iadd (p q : Nat × Nat) : Option (Nat × Nat) := bif Nat.ble 2147483648 (p.1 + q.1) && Nat.blt (p.2 + q.2) 6442450944 then some (p.1 + q.1 - 2147483648, p.2 + q.2 - 2147483648) else some ai_full
theorem ai_bm {v : Int32} {s : Int} {l h : Nat} (hv : v.toInt = s.bmod 4294967296) (h1 : (l : Int) ≤ s + 2147483648) (h2 : s + 2147483648 ≤ (h : Int)) (h3 : h < 4294967296) : ai_in (l, h) v.toBitVec.toNat := by
  obtain ⟨z1, z2⟩ := ai_off_32 v
  refine ⟨z1, ?_, ?_⟩
  · show l ≤ _
    rw [hv, Int.bmod_def] at z2
    omega
  · show _ ≤ h
    rw [hv, Int.bmod_def] at z2
    omega
theorem ai_wrap_32 (x : Nat) (v : Int32) (h : nI x = v) : en_wrap x = v.toBitVec.toNat := by
  unfold en_wrap
  rw [← h]
  simp [nI]
theorem ai_iadd_ok : ai_op en_iadd ai_iadd := by
  intro p q r x y hF hx hy
  have e : en_wrap (x + y) = (nI x + nI y).toBitVec.toNat := ai_wrap_32 _ _ (by rw [nI_add])
  refine ⟨_, rfl, ?_⟩
  rw [e]
  have hx1 := hx.2
  have hy1 := hy.2
  have a1 := ai_off_int x
  have a2 := ai_off_int y
  unfold ai_iadd at hF
  cases hc : (Nat.ble 2147483648 (p.1 + q.1) && Nat.blt (p.2 + q.2) 6442450944) with
  | false => rw [hc] at hF; have e9 := Option.some.inj hF; subst e9; exact ai_full_32 _
  | true =>
    rw [hc] at hF
    have e9 := Option.some.inj hF
    subst e9
    rw [Bool.and_eq_true] at hc
    have c1 := Nat.le_of_ble_eq_true hc.1
    have c2 : p.2 + q.2 < 6442450944 := Nat.le_of_ble_eq_true hc.2
    exact ai_bm (s := (nI x).toInt + (nI y).toInt) (Int32.toInt_add _ _) (by first | decide | omega) (by first | decide | omega) (by first | decide | omega)
noncomputable def ai_isub (p q : Nat × Nat) : Option (Nat × Nat) := bif Nat.ble q.2 (p.1 + 2147483648) && Nat.blt (p.2 + 2147483648) (q.1 + 4294967296) then some (p.1 + 2147483648 - q.2, p.2 + 2147483648 - q.1) else some ai_full
theorem ai_isub_ok : ai_op (en_ii en_isub) ai_isub := by
  intro p q r x y hF hx hy
  refine ⟨_, rfl, ?_⟩
  have hx1 := hx.2
  have hy1 := hy.2
  have a1 := ai_off_int x
  have a2 := ai_off_int y
  have b2 := ai_off_lt x
  unfold ai_isub at hF
  cases hc : (Nat.ble q.2 (p.1 + 2147483648) && Nat.blt (p.2 + 2147483648) (q.1 + 4294967296)) with
  | false => rw [hc] at hF; have e9 := Option.some.inj hF; subst e9; exact ai_full_32 _
  | true =>
    rw [hc] at hF
    have e9 := Option.some.inj hF
    subst e9
    rw [Bool.and_eq_true] at hc
    have c1 := Nat.le_of_ble_eq_true hc.1
    have c2 : p.2 + 2147483648 < q.1 + 4294967296 := Nat.le_of_ble_eq_true hc.2
    exact ai_bm (s := (nI x).toInt - (nI y).toInt) (Int32.toInt_sub _ _) (by first | decide | omega) (by first | decide | omega) (by first | decide | omega)
theorem ai_bmN {z : Int} {V : Nat} (h : z = Int.bmod (V : Int) 4294967296) (hV : V < 2147483648) : z = (V : Int) := by
  rw [h, Int.bmod_def]
  omega
theorem ai_mul32 {a b : Int32} {u w : Nat} (ha : a.toInt = u) (hb : b.toInt = w) (h : u * w < 2147483648) : (a * b).toInt = ((u * w : Nat) : Int) := by
  have e : (a * b).toInt = Int.bmod (a.toInt * b.toInt) 4294967296 := Int32.toInt_mul a b
  rw [ha, hb, ← Int.natCast_mul] at e
  exact ai_bmN e h
theorem ai_neg32 {a b : Int32} (ha : a.toInt = -1) (hb : -2147483648 < b.toInt) : (a * b).toInt = - b.toInt := by
  have e : (a * b).toInt = Int.bmod (a.toInt * b.toInt) 4294967296 := Int32.toInt_mul a b
  have h2 := Int32.toInt_lt b
  rw [ha, Int.neg_one_mul] at e
  rw [e]
  generalize b.toInt = z at hb h2
  simp at h2
  rw [Int.bmod_def]
  omega
theorem ai_val {v : Int32} {V l h : Nat} (hv : v.toInt = V) (h1 : l ≤ V + 2147483648) (h2 : V + 2147483648 ≤ h) : ai_in (l, h) v.toBitVec.toNat := by
  obtain ⟨z1, z2⟩ := ai_off_32 v
  rw [hv] at z2
  refine ⟨z1, ?_, ?_⟩
  · show l ≤ _
    omega
  · show _ ≤ h
    omega
noncomputable def ai_sb (q : Nat) : Nat := 4294967296 - q
theorem ai_sb_ok {p : Nat × Nat} {a b : Int32} {o : Nat} (ha : a.toInt = -1) (ho : (o : Int) = b.toInt + 2147483648) (h1 : p.1 ≤ o) (h2 : o ≤ p.2) (h3 : 1 ≤ p.1) : ai_in (ai_sb p.2, ai_sb p.1) (a * b).toBitVec.toNat := by
  have hm := ai_neg32 (b := b) ha (by first | decide | omega)
  obtain ⟨z1, z2⟩ := ai_off_32 (a * b)
  rw [hm] at z2
  generalize b.toInt = z at ho z2
  refine ⟨z1, ?_, ?_⟩
  · show ai_sb p.2 ≤ _
    unfold ai_sb
    omega
  · show _ ≤ ai_sb p.1
    unfold ai_sb
    omega
noncomputable def ai_nb (p : Nat) : Nat := p - (bif Nat.ble 2147483648 p then 2147483648 else 0)
theorem ai_nb_eq {p : Nat} (h : 2147483648 ≤ p) : ai_nb p + 2147483648 = p := by
  unfold ai_nb
  rw [Nat.ble_eq_true_of_le h]
  dsimp only [cond]
  omega
noncomputable def ai_mb (p q : Nat) : Nat := ai_nb p * ai_nb q
theorem ai_mb_le {p q u w : Nat} (g1 : 2147483648 ≤ p) (g2 : 2147483648 ≤ q) (h1 : p ≤ u + 2147483648) (h2 : q ≤ w + 2147483648) : ai_mb p q ≤ u * w := Nat.mul_le_mul (by have := ai_nb_eq g1; omega) (by have := ai_nb_eq g2; omega)
theorem ai_mb_ge {p q u w : Nat} (h1 : u + 2147483648 ≤ p) (h2 : w + 2147483648 ≤ q) : u * w ≤ ai_mb p q := Nat.mul_le_mul (by have := ai_nb_eq (p := p) (by first | decide | omega); omega) (by have := ai_nb_eq (p := q) (by first | decide | omega); omega)
noncomputable def ai_imul (p q : Nat × Nat) : Option (Nat × Nat) := bif Nat.ble 2147483648 p.1 && Nat.ble 2147483648 q.1 then (bif Nat.blt (ai_mb p.2 q.2) 2147483648 then some (ai_mb p.1 q.1 + 2147483648, ai_mb p.2 q.2 + 2147483648) else some ai_full)
  else bif Nat.beq p.1 2147483647 && Nat.beq p.2 2147483647 && Nat.ble 1 q.1 then some (ai_sb q.2, ai_sb q.1) else some ai_full
theorem ai_ii_in {g : Nat → Nat → Option Nat} {x y z : Nat} (h : g x y = some z) : en_ii g (.inl x) (.inl y) = some (.inl z) := by
  unfold en_ii
  dsimp only
  rw [h]
theorem ai_imul_ok : ai_op (en_ii en_imul) ai_imul := by
  intro p q r x y hF hx hy
  have e : en_wrap (x * y) = (nI x * nI y).toBitVec.toNat := ai_wrap_32 _ _ (by rw [pk_mul])
  refine ⟨(nI x * nI y).toBitVec.toNat, ai_ii_in (by unfold en_imul; rw [e]), ?_⟩
  clear e
  obtain ⟨-, hx1, hx2⟩ := hx
  obtain ⟨-, hy1, hy2⟩ := hy
  have a1 := ai_off_int x
  have a2 := ai_off_int y
  unfold ai_imul at hF
  cases hc : (Nat.ble 2147483648 p.1 && Nat.ble 2147483648 q.1) with
  | true =>
    rw [hc] at hF
    dsimp only [cond] at hF
    rw [Bool.and_eq_true] at hc
    have c1 := Nat.le_of_ble_eq_true hc.1
    have c2 := Nat.le_of_ble_eq_true hc.2
    cases hd : Nat.blt (ai_mb p.2 q.2) 2147483648 with
    | false => rw [hd] at hF; have e9 := Option.some.inj hF; subst e9; exact ai_full_32 _
    | true =>
      rw [hd] at hF
      have e9 := Option.some.inj hF
      subst e9
      have c3 : ai_mb p.2 q.2 < 2147483648 := Nat.le_of_ble_eq_true hd
      obtain ⟨u, hu⟩ : ∃ u : Nat, (nI x).toInt = u := ⟨ai_off x - 2147483648, by omega⟩
      obtain ⟨w, hw⟩ : ∃ w : Nat, (nI y).toInt = w := ⟨ai_off y - 2147483648, by omega⟩
      have m1 : ai_mb p.1 q.1 ≤ u * w := ai_mb_le c1 c2 (by first | decide | omega) (by first | decide | omega)
      have m2 : u * w ≤ ai_mb p.2 q.2 := ai_mb_ge (by first | decide | omega) (by first | decide | omega)
      exact ai_val (ai_mul32 hu hw (Nat.lt_of_le_of_lt m2 c3)) (Nat.add_le_add_right m1 _) (Nat.add_le_add_right m2 _)
  | false =>
    rw [hc] at hF
    dsimp only [cond] at hF
    cases hd : (Nat.beq p.1 2147483647 && Nat.beq p.2 2147483647 && Nat.ble 1 q.1) with
    | false => rw [hd] at hF; have e9 := Option.some.inj hF; subst e9; exact ai_full_32 _
    | true =>
      rw [hd] at hF
      have e9 := Option.some.inj hF
      subst e9
      simp only [Bool.and_eq_true] at hd
      have d1 := Nat.eq_of_beq_eq_true hd.1.1
      have d2 := Nat.eq_of_beq_eq_true hd.1.2
      have d3 := Nat.le_of_ble_eq_true hd.2
      have hu : (nI x).toInt = -1 := by omega
      have b2 := ai_off_lt y
      exact ai_sb_ok hu a2 hy1 hy2 d3
noncomputable def ai_iand (p q : Nat × Nat) : Option (Nat × Nat) := bif Nat.ble 2147483648 q.1 then some (2147483648, q.2) else bif Nat.ble 2147483648 p.1 then some (2147483648, p.2) else some ai_full
theorem ai_nn {p : Nat × Nat} {x : Nat} (h : ai_in p x) (hp : 2147483648 ≤ p.1) : ai_off x = x + 2147483648 ∧ x < 2147483648 := by
  obtain ⟨h1, h2, h3⟩ := h
  have : 2147483648 ≤ ai_off x := Nat.le_trans hp h2
  unfold ai_off at this ⊢
  omega
theorem ai_off_nn {x : Nat} (h : x < 2147483648) : ai_off x = x + 2147483648 := by unfold ai_off; omega
theorem ai_tn (x : Nat) (h : x < 4294967296) : (nI x).toBitVec.toNat = x := by
  simp [nI]
  omega
theorem ai_iand_ok : ai_op (en_ii en_iand) ai_iand := by
  intro p q r x y hF hx hy
  refine ⟨_, rfl, ?_⟩
  have e : (nI x &&& nI y).toBitVec.toNat = x &&& y := by rw [Int32.toBitVec_and, BitVec.toNat_and, ai_tn x hx.1, ai_tn y hy.1]
  unfold ai_iand at hF
  cases c1 : Nat.ble 2147483648 q.1 with
  | true =>
    rw [c1] at hF
    have e9 := Option.some.inj hF
    subst e9
    obtain ⟨g1, g2⟩ := ai_nn hy (Nat.le_of_ble_eq_true c1)
    rw [e]
    have hl : x &&& y ≤ y := Nat.and_le_right
    refine ⟨by omega, ?_, ?_⟩ <;> rw [ai_off_nn (by first | decide | omega)]
    · exact Nat.le_add_left _ _
    · have := hy.2.2
      show _ ≤ q.2
      omega
  | false =>
    rw [c1] at hF
    dsimp only [cond] at hF
    cases c2 : Nat.ble 2147483648 p.1 with
    | true =>
      rw [c2] at hF
      have e9 := Option.some.inj hF
      subst e9
      obtain ⟨g1, g2⟩ := ai_nn hx (Nat.le_of_ble_eq_true c2)
      rw [e]
      have hl : x &&& y ≤ x := Nat.and_le_left
      refine ⟨by omega, ?_, ?_⟩ <;> rw [ai_off_nn (by first | decide | omega)]
      · exact Nat.le_add_left _ _
      · have := hx.2.2
        show _ ≤ p.2
        omega
    | false => rw [c2] at hF; have e9 := Option.some.inj hF; subst e9; exact ai_full_32 _
noncomputable def ai_ior (p q : Nat × Nat) : Option (Nat × Nat) := bif (Nat.ble 2147483648 p.1 && Nat.ble p.2 2147483711) && (Nat.ble 2147483648 q.1 && Nat.ble q.2 2147483711) then some (2147483648, 2147483711) else some ai_full
theorem ai_ior_ok : ai_op (en_ii en_ior) ai_ior := by
  intro p q r x y hF hx hy
  refine ⟨_, rfl, ?_⟩
  have e : (nI x ||| nI y).toBitVec.toNat = x ||| y := by rw [Int32.toBitVec_or, BitVec.toNat_or, ai_tn x hx.1, ai_tn y hy.1]
  unfold ai_ior at hF
  cases c1 : ((Nat.ble 2147483648 p.1 && Nat.ble p.2 2147483711) && (Nat.ble 2147483648 q.1 && Nat.ble q.2 2147483711)) with
  | false => rw [c1] at hF; have e9 := Option.some.inj hF; subst e9; exact ai_full_32 _
  | true =>
    rw [c1] at hF
    have e9 := Option.some.inj hF
    subst e9
    simp only [Bool.and_eq_true] at c1
    obtain ⟨⟨a1, a2⟩, a3, a4⟩ := c1
    obtain ⟨g1, g2⟩ := ai_nn hx (Nat.le_of_ble_eq_true a1)
    obtain ⟨g3, g4⟩ := ai_nn hy (Nat.le_of_ble_eq_true a3)
    have a2 := Nat.le_of_ble_eq_true a2
    have a4 := Nat.le_of_ble_eq_true a4
    have b1 := hx.2.2
    have b2 := hy.2.2
    have hl : x ||| y < 2 ^ 6 := Nat.or_lt_two_pow (by first | decide | omega) (by first | decide | omega)
    rw [e]
    refine ⟨by omega, ?_, ?_⟩ <;> rw [ai_off_nn (by first | decide | omega)]
    · exact Nat.le_add_left _ _
    · show _ ≤ 2147483711
      omega
noncomputable def ai_any2 (_ _ : Nat × Nat) : Option (Nat × Nat) := some ai_full
theorem ai_ixor_ok : ai_op (en_ii en_ixor) ai_any2 := by
  intro p q r x y hF hx hy
  cases hF
  exact ⟨_, rfl, ai_full_32 _⟩
noncomputable def ai_ishl (p q : Nat × Nat) : Option (Nat × Nat) := bif (Nat.beq p.1 2147483649 && Nat.beq p.2 2147483649) && (Nat.ble 2147483648 q.1 && Nat.ble q.2 2147483678) then some (Nat.pow 2 (q.1 - 2147483648) + 2147483648, Nat.pow 2 (q.2 - 2147483648) + 2147483648) else some ai_full
theorem ai_sh1 : ∀ k : Fin 31, (nI 1 <<< (nI k.val &&& 31)).toBitVec.toNat = 2 ^ k.val := by decide +kernel
theorem ai_ishl_ok : ai_op (en_ii en_ishl) ai_ishl := by
  intro p q r x y hF hx hy
  refine ⟨_, rfl, ?_⟩
  unfold ai_ishl at hF
  cases c1 : ((Nat.beq p.1 2147483649 && Nat.beq p.2 2147483649) && (Nat.ble 2147483648 q.1 && Nat.ble q.2 2147483678)) with
  | false => rw [c1] at hF; have e9 := Option.some.inj hF; subst e9; exact ai_full_32 _
  | true =>
    rw [c1] at hF
    have e9 := Option.some.inj hF
    subst e9
    simp only [Bool.and_eq_true] at c1
    obtain ⟨⟨a1, a2⟩, a3, a4⟩ := c1
    have a1 := Nat.eq_of_beq_eq_true a1
    have a2 := Nat.eq_of_beq_eq_true a2
    have a4 := Nat.le_of_ble_eq_true a4
    obtain ⟨g1, g2⟩ := ai_nn hx (by first | decide | omega)
    obtain ⟨g3, g4⟩ := ai_nn hy (Nat.le_of_ble_eq_true a3)
    have b1 := hx.2
    have b2 := hy.2
    have ex : x = 1 := by omega
    subst ex
    have hy31 : y < 31 := by omega
    have h1 := ai_sh1 ⟨y, hy31⟩
    dsimp only at h1
    rw [h1]
    have m1 : 2 ^ (q.1 - 2147483648) ≤ 2 ^ y := Nat.pow_le_pow_right (by decide) (by first | decide | omega)
    have m2 : 2 ^ y ≤ 2 ^ (q.2 - 2147483648) := Nat.pow_le_pow_right (by decide) (by first | decide | omega)
    have m3 : 2 ^ y ≤ 2 ^ 30 := Nat.pow_le_pow_right (by decide) (by first | decide | omega)
    refine ⟨by omega, ?_, ?_⟩ <;> rw [ai_off_nn (by first | decide | omega)]
    · exact Nat.add_le_add_right m1 _
    · exact Nat.add_le_add_right m2 _
noncomputable def ai_ishr (p q : Nat × Nat) : Option (Nat × Nat) := bif Nat.ble 2147483648 p.1 then (bif Nat.beq q.1 2147483651 && Nat.beq q.2 2147483651 then some ((p.1 - 2147483648) / 8 + 2147483648, (p.2 - 2147483648) / 8 + 2147483648) else some (2147483648, p.2)) else some ai_full
theorem ai_shr_nn {x : Nat} (y : Nat) (hx : x < 2147483648) : ∃ k, (nI x >>> (nI y &&& 31)).toBitVec.toNat = x >>> k ∧ (y = 3 → k = 3) := by
  have hm : ((nI x).toBitVec).msb = false := by
    rw [BitVec.msb_eq_decide, ai_tn x (by first | decide | omega)]
    simp
    omega
  refine ⟨((nI y &&& 31).toBitVec.smod 32).toNat, ?_, fun h => by subst h; decide⟩
  rw [Int32.toBitVec_shiftRight]
  show ((nI x).toBitVec.sshiftRight ((nI y &&& 31).toBitVec.smod 32).toNat).toNat = _
  rw [BitVec.sshiftRight_eq_of_msb_false hm, BitVec.toNat_ushiftRight, ai_tn x (by first | decide | omega)]
theorem ai_ishr_ok : ai_op (en_ii en_ishr) ai_ishr := by
  intro p q r x y hF hx hy
  refine ⟨_, rfl, ?_⟩
  unfold ai_ishr at hF
  cases c1 : Nat.ble 2147483648 p.1 with
  | false => rw [c1] at hF; have e9 := Option.some.inj hF; subst e9; exact ai_full_32 _
  | true =>
    rw [c1] at hF
    dsimp only [cond] at hF
    obtain ⟨g1, g2⟩ := ai_nn hx (Nat.le_of_ble_eq_true c1)
    obtain ⟨k, h1, h2⟩ := ai_shr_nn y g2
    rw [h1]
    have b1 := hx.2
    have hle : x >>> k ≤ x := Nat.shiftRight_le x k
    cases c2 : (Nat.beq q.1 2147483651 && Nat.beq q.2 2147483651) with
    | true =>
      rw [c2] at hF
      have e9 := Option.some.inj hF
      subst e9
      rw [Bool.and_eq_true] at c2
      have d1 := Nat.eq_of_beq_eq_true c2.1
      have d2 := Nat.eq_of_beq_eq_true c2.2
      obtain ⟨g3, g4⟩ := ai_nn hy (by first | decide | omega)
      have b2 := hy.2
      have hk := h2 (by first | decide | omega)
      subst hk
      have h8 : x >>> 3 = x / 8 := Nat.shiftRight_eq_div_pow x 3
      rw [h8]
      refine ⟨by omega, ?_, ?_⟩ <;> rw [ai_off_nn (by first | decide | omega)]
      · show (p.1 - 2147483648) / 8 + 2147483648 ≤ _
        omega
      · show _ ≤ (p.2 - 2147483648) / 8 + 2147483648
        omega
    | false =>
      rw [c2] at hF
      have e9 := Option.some.inj hF
      subst e9
      refine ⟨by omega, ?_, ?_⟩ <;> rw [ai_off_nn (by first | decide | omega)]
      · exact Nat.le_add_left _ _
      · show _ ≤ p.2
        omega
/-- a divisor that is 1 or more -/
noncomputable def ai_idiv (p q : Nat × Nat) : Option (Nat × Nat) := bif Nat.ble 2147483649 q.1 then (bif Nat.ble 2147483648 p.1 then some (2147483648, (p.2 - 2147483648) / (q.1 - 2147483648) + 2147483648) else some ai_full) else none
noncomputable def ai_irem (p q : Nat × Nat) : Option (Nat × Nat) := bif Nat.ble 2147483649 q.1 then (bif Nat.ble 2147483648 p.1 then some (2147483648, Nat.min p.2 (q.2 - 1)) else some ai_full) else none
theorem ai_n0 {q : Nat × Nat} {y : Nat} (hy : ai_in q y) (hq : 2147483649 ≤ q.1) : ¬ nI y = 0 := by
  intro h
  have a := ai_off_int y
  rw [h] at a
  have := hy.2.1
  have z : (0 : Int32).toInt = 0 := by decide
  rw [z] at a
  omega
theorem ai_div_nn {x y : Nat} (hx : x < 2147483648) (hy : y < 2147483648) (h0 : 0 < y) : (nI x / nI y).toInt = ((x / y : Nat) : Int) := by
  have a1 : (nI x).toInt = (x : Int) := by have := ai_off_int x; rw [ai_off_nn hx] at this; omega
  have a2 : (nI y).toInt = (y : Int) := by have := ai_off_int y; rw [ai_off_nn hy] at this; omega
  have hle : x / y ≤ x := Nat.div_le_self x y
  have h : (nI x / nI y).toInt = Int.bmod ((nI x).toInt.tdiv (nI y).toInt) 4294967296 := Int32.toInt_div _ _
  rw [h, a1, a2, ← Int.ofNat_tdiv]
  generalize x / y = k at hle
  rw [Int.bmod_def]
  omega
theorem ai_idiv_ok : ai_op (en_ii en_idiv) ai_idiv := by
  intro p q r x y hF hx hy
  unfold ai_idiv at hF
  cases c1 : Nat.ble 2147483649 q.1 with
  | false => rw [c1] at hF; cases hF
  | true =>
    rw [c1] at hF
    dsimp only [cond] at hF
    have c1 := Nat.le_of_ble_eq_true c1
    have h0 := ai_n0 hy c1
    refine ⟨(nI x / nI y).toBitVec.toNat, ?_, ?_⟩
    · show (match en_idiv x y with | some z => (some (Sum.inl z) : Option en_V) | none => none) = _
      unfold en_idiv
      rw [if_neg h0]
    · cases c2 : Nat.ble 2147483648 p.1 with
      | false => rw [c2] at hF; have e9 := Option.some.inj hF; subst e9; exact ai_full_32 _
      | true =>
        rw [c2] at hF
        have e9 := Option.some.inj hF
        subst e9
        obtain ⟨g1, g2⟩ := ai_nn hx (Nat.le_of_ble_eq_true c2)
        obtain ⟨g3, g4⟩ := ai_nn hy (by first | decide | omega)
        have b1 := hx.2
        have b2 := hy.2
        have hd := ai_div_nn g2 g4 (by first | decide | omega)
        obtain ⟨z1, z2⟩ := ai_off_32 (nI x / nI y)
        rw [hd] at z2
        have hm : x / y ≤ (p.2 - 2147483648) / (q.1 - 2147483648) := Nat.le_trans (Nat.div_le_div_right (c := y) (show x ≤ p.2 - 2147483648 by omega)) (Nat.div_le_div_left (by first | decide | omega) (by first | decide | omega))
        generalize x / y = k at hm z2
        refine ⟨z1, ?_, ?_⟩
        · show 2147483648 ≤ _
          omega
        · show _ ≤ (p.2 - 2147483648) / (q.1 - 2147483648) + 2147483648
          generalize (p.2 - 2147483648) / (q.1 - 2147483648) = K at hm ⊢
          omega
theorem ai_irem_ok : ai_op (en_ii en_irem) ai_irem := by
  intro p q r x y hF hx hy
  unfold ai_irem at hF
  cases c1 : Nat.ble 2147483649 q.1 with
  | false => rw [c1] at hF; cases hF
  | true =>
    rw [c1] at hF
    dsimp only [cond] at hF
    have c1 := Nat.le_of_ble_eq_true c1
    have h0 := ai_n0 hy c1
    refine ⟨(nI x - nI x / nI y * nI y).toBitVec.toNat, ?_, ?_⟩
    · show (match en_irem x y with | some z => (some (Sum.inl z) : Option en_V) | none => none) = _
      unfold en_irem
      rw [if_neg h0]
    · cases c2 : Nat.ble 2147483648 p.1 with
      | false => rw [c2] at hF; have e9 := Option.some.inj hF; subst e9; exact ai_full_32 _
      | true =>
        rw [c2] at hF
        have e9 := Option.some.inj hF
        subst e9
        obtain ⟨g1, g2⟩ := ai_nn hx (Nat.le_of_ble_eq_true c2)
        obtain ⟨g3, g4⟩ := ai_nn hy (by first | decide | omega)
        have b1 := hx.2
        have b2 := hy.2
        have hd := ai_div_nn g2 g4 (by first | decide | omega)
        have a1 : (nI x).toInt = (x : Int) := by have := ai_off_int x; omega
        have a2 : (nI y).toInt = (y : Int) := by have := ai_off_int y; omega
        have hmod : x / y * y + x % y = x := by rw [Nat.mul_comm]; exact Nat.div_add_mod x y
        have hlt : x % y < y := Nat.mod_lt _ (by first | decide | omega)
        have hle : x % y ≤ x := Nat.mod_le _ _
        have hm : (nI x / nI y * nI y).toInt = ((x / y * y : Nat) : Int) := ai_mul32 hd a2 (by
          generalize x / y * y = k at hmod
          omega)
        have hr : (nI x - nI x / nI y * nI y).toInt = ((x % y : Nat) : Int) := by
          have h : (nI x - nI x / nI y * nI y).toInt = Int.bmod ((nI x).toInt - (nI x / nI y * nI y).toInt) 4294967296 := Int32.toInt_sub _ _
          rw [h, hm, a1]
          generalize x / y * y = k at hmod
          generalize x % y = j at hmod hlt hle
          rw [Int.bmod_def]
          omega
        obtain ⟨z1, z2⟩ := ai_off_32 (nI x - nI x / nI y * nI y)
        rw [hr] at z2
        generalize x % y = j at hlt hle z2
        refine ⟨z1, ?_, ?_⟩
        · show 2147483648 ≤ _
          omega
        · show _ ≤ Nat.min p.2 (q.2 - 1)
          exact Nat.le_min.mpr ⟨by omega, by omega⟩
noncomputable def ai_imax (p q : Nat × Nat) : Option (Nat × Nat) := some (Nat.max p.1 q.1, Nat.max p.2 q.2)
noncomputable def ai_imin (p q : Nat × Nat) : Option (Nat × Nat) := some (Nat.min p.1 q.1, Nat.min p.2 q.2)
theorem ai_lt_off (x y : Nat) : nI x < nI y ↔ ai_off x < ai_off y := by
  rw [Int32.lt_iff_toInt_lt]
  have a1 := ai_off_int x
  have a2 := ai_off_int y
  omega
theorem ai_imax_ok : ai_op (en_ii en_imax) ai_imax := by
  intro p q r x y hF hx hy
  have e9 := Option.some.inj hF
  subst e9
  refine ⟨_, rfl, ?_⟩
  by_cases h : nI x < nI y
  · rw [if_pos h, ai_tn y hy.1]
    rw [ai_lt_off] at h
    exact ⟨hy.1, Nat.max_le.mpr ⟨by have := hx.2; omega, hy.2.1⟩, Nat.le_trans hy.2.2 (Nat.le_max_right _ _)⟩
  · rw [if_neg h, ai_tn x hx.1]
    rw [ai_lt_off] at h
    exact ⟨hx.1, Nat.max_le.mpr ⟨hx.2.1, by have := hy.2; omega⟩, Nat.le_trans hx.2.2 (Nat.le_max_left _ _)⟩
theorem ai_imin_ok : ai_op (en_ii en_imin) ai_imin := by
  intro p q r x y hF hx hy
  have e9 := Option.some.inj hF
  subst e9
  refine ⟨_, rfl, ?_⟩
  by_cases h : nI y < nI x
  · rw [if_pos h, ai_tn y hy.1]
    rw [ai_lt_off] at h
    exact ⟨hy.1, Nat.le_trans (Nat.min_le_right _ _) hy.2.1, Nat.le_min.mpr ⟨by have := hx.2; omega, hy.2.2⟩⟩
  · rw [if_neg h, ai_tn x hx.1]
    rw [ai_lt_off] at h
    exact ⟨hx.1, Nat.le_trans (Nat.min_le_left _ _) hx.2.1, Nat.le_min.mpr ⟨hx.2.2, by have := hy.2; omega⟩⟩
/-! ### comparing -/
theorem ai_en_lt (x y : Nat) : en_lt (.inl x) (.inl y) = some (decide (ai_off x < ai_off y)) := by
  unfold en_lt
  rw [show en_bnd (.inl x) = some (ai_off x, ai_off x) from rfl, show en_bnd (.inl y) = some (ai_off y, ai_off y) from rfl]
  generalize ai_off x = a
  generalize ai_off y = b
  dsimp only
  by_cases h : a < b
  · rw [show Nat.blt a b = true from Nat.ble_eq_true_of_le h, decide_eq_true h]
    rfl
  · rw [show Nat.blt a b = false from Bool.eq_false_iff.mpr (fun z => h (Nat.le_of_ble_eq_true z)), show Nat.ble b a = true from Nat.ble_eq_true_of_le (by first | decide | omega), decide_eq_false h]
    rfl
theorem ai_bnd_in (x : Nat) : en_bnd (.inl x) = some (ai_off x, ai_off x) := rfl
theorem ai_en_eq (x y : Nat) : en_eq (.inl x) (.inl y) = some (decide (ai_off x = ai_off y)) := by
  unfold en_eq
  rw [ai_bnd_in, ai_bnd_in]
  generalize ai_off x = a
  generalize ai_off y = b
  dsimp only
  rw [Nat.beq_refl, Nat.beq_refl, Bool.and_true, Bool.true_and, en_beq]
  by_cases h : a = b
  · rw [decide_eq_true h]
    rfl
  · rw [decide_eq_false h]
    rcases Nat.lt_or_gt_of_ne h with g | g
    · rw [show Nat.blt a b = true from Nat.ble_eq_true_of_le g]
      rfl
    · rw [show Nat.blt b a = true from Nat.ble_eq_true_of_le g, Bool.or_true]
      rfl
noncomputable def ai_lt (p q : Nat × Nat) : Option Bool := bif Nat.blt p.2 q.1 then some true else bif Nat.ble q.2 p.1 then some false else none
noncomputable def ai_eq (p q : Nat × Nat) : Option Bool := bif Nat.beq p.1 p.2 && (Nat.beq p.1 q.1 && Nat.beq q.1 q.2) then some true else bif Nat.blt p.2 q.1 || Nat.blt q.2 p.1 then some false else none
noncomputable def ai_rel (c : ClassFile.Cond) (p q : Nat × Nat) : Option Bool := match c with
  | .eq => ai_eq p q
  | .ne => en_not (ai_eq p q)
  | .lt => ai_lt p q
  | .ge => en_not (ai_lt p q)
  | .gt => ai_lt q p
  | .le => en_not (ai_lt q p)
theorem ai_lt_ok {p q : Nat × Nat} {x y : Nat} (hx : ai_in p x) (hy : ai_in q y) : ∃ b, en_lt (.inl x) (.inl y) = some b ∧ ∀ b', ai_lt p q = some b' → b' = b := by
  refine ⟨_, ai_en_lt x y, fun b' h => ?_⟩
  have h1 := hx.2
  have h2 := hy.2
  unfold ai_lt at h
  cases c1 : Nat.blt p.2 q.1 with
  | true =>
    rw [c1] at h
    cases h
    have : p.2 < q.1 := Nat.le_of_ble_eq_true c1
    rw [decide_eq_true (by first | decide | omega)]
  | false =>
    rw [c1] at h
    dsimp only [cond] at h
    cases c2 : Nat.ble q.2 p.1 with
    | false => rw [c2] at h; cases h
    | true =>
      rw [c2] at h
      cases h
      have := Nat.le_of_ble_eq_true c2
      rw [decide_eq_false (by first | decide | omega)]
theorem ai_eq_ok {p q : Nat × Nat} {x y : Nat} (hx : ai_in p x) (hy : ai_in q y) : ∃ b, en_eq (.inl x) (.inl y) = some b ∧ ∀ b', ai_eq p q = some b' → b' = b := by
  refine ⟨_, ai_en_eq x y, fun b' h => ?_⟩
  have h1 := hx.2
  have h2 := hy.2
  unfold ai_eq at h
  cases c1 : (Nat.beq p.1 p.2 && (Nat.beq p.1 q.1 && Nat.beq q.1 q.2)) with
  | true =>
    rw [c1] at h
    cases h
    simp only [Bool.and_eq_true] at c1
    have a1 := Nat.eq_of_beq_eq_true c1.1
    have a2 := Nat.eq_of_beq_eq_true c1.2.1
    have a3 := Nat.eq_of_beq_eq_true c1.2.2
    rw [decide_eq_true (by first | decide | omega)]
  | false =>
    rw [c1] at h
    dsimp only [cond] at h
    cases c2 : (Nat.blt p.2 q.1 || Nat.blt q.2 p.1) with
    | false => rw [c2] at h; cases h
    | true =>
      rw [c2] at h
      cases h
      have : p.2 < q.1 ∨ q.2 < p.1 := by
        rcases Bool.or_eq_true_iff.mp c2 with g | g
        · exact Or.inl (Nat.le_of_ble_eq_true g)
        · exact Or.inr (Nat.le_of_ble_eq_true g)
      rw [decide_eq_false (by first | decide | omega)]
theorem ai_rel_ok {c : ClassFile.Cond} {p q : Nat × Nat} {x y : Nat} (hx : ai_in p x) (hy : ai_in q y) : ∃ b, en_rel c (.inl x) (.inl y) = some b ∧ ∀ b', ai_rel c p q = some b' → b' = b := by
  have inv : ∀ {o o' : Option Bool}, (∃ b, o = some b ∧ ∀ b', o' = some b' → b' = b) → ∃ b, en_not o = some b ∧ ∀ b', en_not o' = some b' → b' = b := by
    rintro o o' ⟨b, rfl, h⟩
    refine ⟨!b, rfl, fun b' hb => ?_⟩
    cases o' with
    | none => cases hb
    | some d => cases hb; rw [h d rfl]
  have h1 := ai_eq_ok hx hy
  have h2 := ai_lt_ok hx hy
  have h3 := ai_lt_ok hy hx
  generalize (Sum.inl x : en_V) = a at h1 h2 h3 ⊢
  generalize (Sum.inl y : en_V) = b at h1 h2 h3 ⊢
  cases c with
  | eq => exact h1
  | ne => exact inv h1
  | lt => exact h2
  | ge => exact inv h2
  | gt => exact h3
  | le => exact inv h3
theorem ai_i2b_ok (x : Nat) : ai_in (2147483520, 2147483775) ((nI x).toInt8.toInt32).toBitVec.toNat := by
  obtain ⟨z1, z2⟩ := ai_off_32 ((nI x).toInt8.toInt32)
  have h1 := Int8.le_toInt (nI x).toInt8
  have h2 := Int8.toInt_lt (nI x).toInt8
  rw [Int8.toInt_toInt32] at z2
  refine ⟨z1, ?_, ?_⟩
  · show 2147483520 ≤ _
    omega
  · show _ ≤ 2147483775
    omega
theorem ai_lcmp_ok (x y : Int64) : ai_in (2147483647, 2147483649) (lg_cmp x y).toBitVec.toNat := by
  obtain ⟨z1, z2⟩ := ai_off_32 (lg_cmp x y)
  have h : (lg_cmp x y).toInt = -1 ∨ (lg_cmp x y).toInt = 0 ∨ (lg_cmp x y).toInt = 1 := by
    unfold lg_cmp
    repeat' split
    all_goals decide
  refine ⟨z1, ?_, ?_⟩
  · show 2147483647 ≤ _
    omega
  · show _ ≤ 2147483649
    omega
end AI3
