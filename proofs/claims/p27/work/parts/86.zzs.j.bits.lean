section SSJ
/-! shifts of longs, bit by bit -/
theorem sz_shl {x m j : Nat} (hm : m = 1 ∨ m = 8) (hj : j < 64) (hx : x < 18446744073709551616) : (en_lshl x m).testBit j = (decide (m ≤ j) && x.testBit (j - m)) := by
  show ((lN x <<< ((nI m).toInt64 &&& 63)).toBitVec).getLsbD j = _
  rw [Int64.toBitVec_shiftLeft]
  show ((lN x).toBitVec <<< (((nI m).toInt64 &&& 63).toBitVec.smod 64).toNat).getLsbD j = _
  have e : (((nI m).toInt64 &&& 63).toBitVec.smod 64).toNat = m := by rcases hm with rfl | rfl <;> decide
  have e2 : (lN x).toBitVec.getLsbD (j - m) = x.testBit (j - m) := by
    show ((lN x).toBitVec.toNat).testBit (j - m) = _
    rw [sz_lN, Nat.mod_eq_of_lt hx]
  rw [e, BitVec.getLsbD_shiftLeft, e2, decide_eq_true hj, Bool.true_and]
  by_cases c : j < m
  · rw [decide_eq_true c, decide_eq_false (show ¬ m ≤ j by omega)]; rfl
  · rw [decide_eq_false c, decide_eq_true (show m ≤ j by omega)]; rfl
theorem sz_shl_lt {x m : Nat} : en_lshl x m < 18446744073709551616 := (lN x <<< ((nI m).toInt64 &&& 63)).toBitVec.isLt
theorem sz_shr {x m j : Nat} (hm : m = 1 ∨ m = 8) (hx : x < 18446744073709551616) : (en_lushr x m).testBit j = x.testBit (m + j) := by
  show (((lN x).toUInt64 >>> ((nI m).toInt64.toUInt64 &&& Int64.toUInt64 63)).toBitVec).getLsbD j = _
  rw [UInt64.toBitVec_shiftRight]
  show ((lN x).toUInt64.toBitVec >>> (((nI m).toInt64.toUInt64 &&& Int64.toUInt64 63).toBitVec % 64).toNat).getLsbD j = _
  have e : (((nI m).toInt64.toUInt64 &&& Int64.toUInt64 63).toBitVec % 64).toNat = m := by rcases hm with rfl | rfl <;> decide
  have e2 : (lN x).toUInt64.toBitVec.getLsbD (m + j) = x.testBit (m + j) := by
    show ((lN x).toBitVec.toNat).testBit (m + j) = _
    rw [sz_lN, Nat.mod_eq_of_lt hx]
  rw [e, BitVec.getLsbD_ushiftRight, e2]
theorem sz_shr_lt {x m : Nat} : en_lushr x m < 18446744073709551616 := (((lN x).toUInt64 >>> ((nI m).toInt64.toUInt64 &&& Int64.toUInt64 63)).toInt64).toBitVec.isLt
theorem sz_not {x : Nat} (hx : x < 18446744073709551616) : en_lxor x 18446744073709551615 < 18446744073709551616 ∧ ∀ j, j < 64 → (en_lxor x 18446744073709551615).testBit j = !x.testBit j := by
  refine ⟨(lN x ^^^ lN 18446744073709551615).toBitVec.isLt, fun j hj => ?_⟩
  have e : en_lxor x 18446744073709551615 = x ^^^ 18446744073709551615 := by
    show (lN x ^^^ lN 18446744073709551615).toBitVec.toNat = _
    rw [Int64.toBitVec_xor, BitVec.toNat_xor, sz_lN, sz_lN, Nat.mod_eq_of_lt hx]
  have h : ∀ j, j < 64 → (18446744073709551615 : Nat).testBit j = true := by decide +kernel
  rw [e, Nat.testBit_xor, h j hj, Bool.xor_true]
theorem sz_and_lt {x y : Nat} (hx : x < 18446744073709551616) : x &&& y < 18446744073709551616 := Nat.lt_of_le_of_lt Nat.and_le_left hx
theorem sz_nl : ∀ j, j < 64 → (9187201950435737471 : Nat).testBit j = decide (j % 8 ≠ 7) := by decide +kernel
theorem sz_nf : ∀ j, j < 64 → (18374403900871474942 : Nat).testBit j = decide (j % 8 ≠ 0) := by decide +kernel
theorem sz_hi {x j : Nat} (hx : x < 18446744073709551616) (hj : 64 ≤ j) : x.testBit j = false := Nat.testBit_lt_two_pow (Nat.lt_of_lt_of_le hx (show 2 ^ 64 ≤ 2 ^ j from Nat.pow_le_pow_right (by decide) hj))
theorem bts_or2 {x y : Nat} {P Q R : Nat → Bool} (h : bts x P) (h' : bts y Q) (e : ∀ j, j < 64 → R j = (P j || Q j)) : bts (x ||| y) R := ⟨sz_or_lt h.1 h'.1, fun j hj => by rw [Nat.testBit_or, h.2 j hj, h'.2 j hj, e j hj]⟩
theorem bts_and2 {x y : Nat} {P Q R : Nat → Bool} (h : bts x P) (h' : bts y Q) (e : ∀ j, j < 64 → R j = (P j && Q j)) : bts (x &&& y) R := ⟨sz_and_lt h.1, fun j hj => by rw [Nat.testBit_and, h.2 j hj, h'.2 j hj, e j hj]⟩
/-- a place of H is beside q -/
noncomputable def nbr (H : Nat → Bool) (q : Nat) : Bool := (((decide (q + 8 < 64) && H (q + 8)) || (decide (8 ≤ q) && H (q - 8))) || (decide (q % 8 ≠ 0) && H (q - 1))) || (decide (q % 8 ≠ 7) && H (q + 1))
theorem nbr_iff {H : Nat → Bool} {q : Nat} : nbr H q = true ↔ (q + 8 < 64 ∧ H (q + 8) = true) ∨ (8 ≤ q ∧ H (q - 8) = true) ∨ (q % 8 ≠ 0 ∧ H (q - 1) = true) ∨ (q % 8 ≠ 7 ∧ H (q + 1) = true) := by
  unfold nbr
  simp only [Bool.or_eq_true, Bool.and_eq_true, decide_eq_true_eq, or_assoc]
theorem bts_nbr {x : Nat} {H : Nat → Bool} (h : bts x H) : bts (((en_lushr x 8 ||| en_lshl x 8) ||| en_lshl (x &&& 9187201950435737471) 1) ||| en_lushr (x &&& 18374403900871474942) 1) (nbr H) := by
  have h1 := h.1
  have a1 : x &&& 9187201950435737471 < 18446744073709551616 := sz_and_lt h1
  have a2 : x &&& 18374403900871474942 < 18446744073709551616 := sz_and_lt h1
  refine ⟨sz_or_lt (sz_or_lt (sz_or_lt sz_shr_lt sz_shl_lt) sz_shl_lt) sz_shr_lt, fun j hj => ?_⟩
  rw [Nat.testBit_or, Nat.testBit_or, Nat.testBit_or, sz_shr (Or.inr rfl) h1, sz_shl (Or.inr rfl) hj h1, sz_shl (Or.inl rfl) hj a1, sz_shr (Or.inl rfl) a2, Nat.testBit_and, Nat.testBit_and]
  unfold nbr
  congr 1
  · congr 1
    · congr 1
      · by_cases c : j + 8 < 64
        · rw [decide_eq_true c, Bool.true_and, Nat.add_comm 8 j, h.2 _ c]
        · rw [decide_eq_false c, Bool.false_and, sz_hi h1 (by first | decide | omega)]
      · by_cases c : 8 ≤ j
        · rw [decide_eq_true c, Bool.true_and, Bool.true_and, h.2 _ (by first | decide | omega)]
        · rw [decide_eq_false c, Bool.false_and, Bool.false_and]
    · by_cases c : 1 ≤ j
      · rw [decide_eq_true c, Bool.true_and, h.2 _ (by first | decide | omega), sz_nl _ (by first | decide | omega), Bool.and_comm]
        congr 1
        rw [decide_eq_decide]
        omega
      · rw [decide_eq_false c, Bool.false_and, decide_eq_false (show ¬ j % 8 ≠ 0 by omega), Bool.false_and]
  · by_cases c : j + 1 < 64
    · rw [Nat.add_comm 1 j, h.2 _ c, sz_nf _ c, Bool.and_comm]
      congr 1
      rw [decide_eq_decide]
      omega
    · rw [sz_hi h1 (by first | decide | omega), Bool.false_and, decide_eq_false (show ¬ j % 8 ≠ 7 by omega), Bool.false_and]
/-! both ways agree -/
theorem hsd_iff {w : Nat → Nat → Nat} {k q : Nat} : ∀ {m : Nat}, hsd w k q m = true ↔ ∃ i, i < m ∧ nb (w 0 0) (w 0 1) k i = q
  | 0 => ⟨fun h => absurd (show false = true from h) (by decide), fun ⟨i, h, _⟩ => absurd h (Nat.not_lt_zero i)⟩
  | m + 1 => by
    show (hsd w k q m || decide (nb (w 0 0) (w 0 1) k m = q)) = true ↔ _
    rw [Bool.or_eq_true, hsd_iff (m := m), decide_eq_true_eq]
    constructor
    · rintro (⟨i, h1, h2⟩ | h)
      · exact ⟨i, by omega, h2⟩
      · exact ⟨m, by omega, h⟩
    · rintro ⟨i, h1, h2⟩
      by_cases c : i = m
      · subst c; exact Or.inr h2
      · exact Or.inl ⟨i, by omega, h2⟩
theorem hin_iff {w : Nat → Nat → Nat} {H : Nat → Bool} {q : Nat} : ∀ {k : Nat}, hin w H q k = true ↔ ∃ p, p < k ∧ H p = true ∧ ∃ i, i < 4 ∧ nb (w 0 0) (w 0 1) p i = q
  | 0 => ⟨fun h => absurd (show false = true from h) (by decide), fun ⟨i, h, _⟩ => absurd h (Nat.not_lt_zero i)⟩
  | k + 1 => by
    show (hin w H q k || (H k && hsd w k q 4)) = true ↔ _
    rw [Bool.or_eq_true, hin_iff (k := k), Bool.and_eq_true, hsd_iff]
    constructor
    · rintro (⟨p, h1, h2⟩ | ⟨h1, h2⟩)
      · exact ⟨p, by omega, h2⟩
      · exact ⟨k, by omega, h1, h2⟩
    · rintro ⟨p, h1, h2, h3⟩
      by_cases c : p = k
      · subst c; exact Or.inr ⟨h2, h3⟩
      · exact Or.inl ⟨p, by omega, h2, h3⟩
theorem inG_iff {O D j : Nat} : inG O D j = true ↔ j % 8 < O ∧ j / 8 < D := by
  unfold inG
  rw [Bool.and_eq_true, decide_eq_true_eq, decide_eq_true_eq]
theorem nb_mv {O D p i q : Nat} (hO : O ≤ 8) (hi : i < 4) (h : nb O D p i = q) (hne : p ≠ q) : (q % 8 < O ∧ q / 8 < D) ∧ (p = q + 8 ∨ (8 ≤ q ∧ p = q - 8) ∨ (q % 8 ≠ 0 ∧ p = q - 1) ∨ (q % 8 ≠ 7 ∧ p = q + 1)) := by
  rcases (show i = 0 ∨ i = 1 ∨ i = 2 ∨ i = 3 by omega) with rfl | rfl | rfl | rfl
  · rw [nb_0] at h
    split at h <;> omega
  · rw [nb_1] at h
    split at h <;> omega
  · rw [nb_2] at h
    split at h <;> omega
  · rw [nb_3] at h
    split at h <;> omega
theorem nb_of {O D p q : Nat} (h1 : q % 8 < O) (h2 : q / 8 < D) (h : p = q + 8 ∨ (8 ≤ q ∧ p = q - 8) ∨ (q % 8 ≠ 0 ∧ p = q - 1) ∨ (q % 8 ≠ 7 ∧ p = q + 1)) : ∃ i, i < 4 ∧ nb O D p i = q := by
  rcases h with rfl | ⟨h, rfl⟩ | ⟨h, rfl⟩ | ⟨h, rfl⟩
  · exact ⟨0, by decide, by rw [nb_0, if_pos (by first | decide | omega)]; omega⟩
  · exact ⟨2, by decide, by rw [nb_2, if_pos (by first | decide | omega)]; omega⟩
  · exact ⟨1, by decide, by rw [nb_1, if_pos (by first | decide | omega)]; omega⟩
  · exact ⟨3, by decide, by rw [nb_3, if_pos (by first | decide | omega)]; omega⟩
theorem hin_nbr {w : Nat → Nat → Nat} {H : Nat → Bool} {q : Nat} (hO : w 0 0 ≤ 8) (hq : q < 64) (hH : H q = false) : hin w H q 64 = (nbr H q && inG (w 0 0) (w 0 1) q) := by
  apply Bool.eq_iff_iff.mpr
  rw [Bool.and_eq_true, hin_iff, nbr_iff, inG_iff]
  constructor
  · rintro ⟨p, h1, h2, i, h3, h4⟩
    have hne : p ≠ q := fun z => by rw [z, hH] at h2; cases h2
    obtain ⟨h5, h6⟩ := nb_mv hO h3 h4 hne
    refine ⟨?_, h5⟩
    rcases h6 with rfl | ⟨h6, rfl⟩ | ⟨h6, rfl⟩ | ⟨h6, rfl⟩
    · exact Or.inl ⟨h1, h2⟩
    · exact Or.inr (Or.inl ⟨h6, h2⟩)
    · exact Or.inr (Or.inr (Or.inl ⟨h6, h2⟩))
    · exact Or.inr (Or.inr (Or.inr ⟨h6, h2⟩))
  · rintro ⟨h, h5, h6⟩
    rcases h with ⟨h1, h2⟩ | ⟨h1, h2⟩ | ⟨h1, h2⟩ | ⟨h1, h2⟩
    · exact ⟨_, h1, h2, nb_of h5 h6 (Or.inl rfl)⟩
    · exact ⟨_, by omega, h2, nb_of h5 h6 (Or.inr (Or.inl ⟨h1, rfl⟩))⟩
    · exact ⟨_, by omega, h2, nb_of h5 h6 (Or.inr (Or.inr (Or.inl ⟨h1, rfl⟩)))⟩
    · refine ⟨_, ?_, h2, nb_of h5 h6 (Or.inr (Or.inr (Or.inr ⟨h1, rfl⟩)))⟩
      omega
theorem hst_bits {w : Nat → Nat → Nat} {H : Nat → Bool} {s q : Nat} (hO : w 0 0 ≤ 8) (hq : q < 64) : hst w s H q = (H q || (nbr H q && (inG (w 0 0) (w 0 1) q && !opn w s q))) := by
  unfold hst
  cases hH : H q with
  | true => rfl
  | false =>
    rw [hin_nbr hO hq hH]
    cases nbr H q <;> cases inG (w 0 0) (w 0 1) q <;> cases opn w s q <;> rfl
theorem sz_bes {x : Nat} (hx : x < 18446744073709551616) : en_lor (en_lor (en_lor (en_lushr x 8) (en_lshl x 8)) (en_lshl (en_land x 9187201950435737471) 1)) (en_lushr (en_land x 18374403900871474942) 1) = (((en_lushr x 8 ||| en_lshl x 8) ||| en_lshl (x &&& 9187201950435737471) 1) ||| en_lushr (x &&& 18374403900871474942) 1) := by
  rw [sz_land hx (by decide), sz_land hx (by decide), sz_lor sz_shr_lt sz_shl_lt, sz_lor (sz_or_lt sz_shr_lt sz_shl_lt) sz_shl_lt, sz_lor (sz_or_lt (sz_or_lt sz_shr_lt sz_shl_lt) sz_shl_lt) sz_shr_lt]
/-- what settle made, in the told numbers -/
noncomputable def CX (t : en_H) (p : Nat) (w : Nat → Nat → Nat) : Prop := (∃ g, ai_hv t p 16 = some (.inr (.inl g)) ∧ bts g (inG (w 0 0) (w 0 1))) ∧ (∀ i, i < 16 → ai_hv t (p + 49) i = some (gx_r (p + 50 + i))) ∧ (∀ i, i < 16 → ∀ j, j < 64 → ai_hv t (p + 50 + i) j = some (.inl (jmp (w 0 0) (w 0 1) (w 1) (2 ^ i) j))) ∧ ∃ fl : Nat → Nat, ∀ s, s < 5 → ai_hv t (p + 48) s = some (.inr (.inl (fl s))) ∧ bts (fl s) (fun j => inG (w 0 0) (w 0 1) j && decide (fdir (w 0 0) (w 0 1) (w 1) j = s))
theorem CX_keep {t t' : en_H} {p : Nat} {w : Nat → Nat → Nat} (h : CX t p w) (e : ∀ c i, (c = p ∧ i = 16) ∨ (p + 48 ≤ c ∧ c ≤ p + 65) → ai_hv t' c i = ai_hv t c i) : CX t' p w := by
  obtain ⟨⟨g, h1, h2⟩, h3, h4, fl, h5⟩ := h
  exact ⟨⟨g, (e _ _ (by first | decide | omega)).trans h1, h2⟩, fun i hi => (e _ _ (by first | decide | omega)).trans (h3 i hi), fun i hi j hj => (e _ _ (by first | decide | omega)).trans (h4 i hi j hj), fl, fun s hs => ⟨(e _ _ (by first | decide | omega)).trans (h5 s hs).1, (h5 s hs).2⟩⟩
theorem sc_hf_l191 (d n : Nat) {t0 : en_H} {w : Nat → Nat → Nat} {L : List Nat} {H : Nat → Bool} {s f : Nat} {Q : en_O → Prop} (g0 : ai_HG ah_G t0) (hC : CW t0 191 w L) (hw : WS w) (hf : bts f (fun q => inG (w 0 0) (w 0 1) q && !opn w s q)) (hQ : ∀ cl x, bts x (hit w s (w 0 5) H) → en_ld cl 6 = some (.inr (.inl x)) → en_ex none (en_u (d + 2)) (en_code 203) (fun _ => false) (78, cl, [], t0, n, 0) Q) : ∀ j k cl x, k + j = w 0 5 → bts x (hit w s k H) → en_ld cl 0 = some (gx_r 191) → en_ld cl 4 = some (.inr (.inl f)) → en_ld cl 6 = some (.inr (.inl x)) → en_ld cl 8 = some (.inl k) → en_ex none (en_u (d + 2)) (en_code 203) (fun _ => false) (22, cl, [], t0, n, 0) Q := by
  have kp := hC.1.2.2.1
  have hp := hw.1.2.2.2.2.2.2
  intro j
  induction j with
  | zero =>
    intro k cl x hk hx l0 l4 l6 l8
    have hk : k = w 0 5 := by omega
    rw [hk] at hx l8
    refine gx_ld (i := 8) (d := 0) (v := .inl (w 0 5)) rfl (fun _ => rfl) l8 rfl rfl ?_
    refine gx_ld (i := 0) (d := 2) (v := gx_r 191) rfl (fun _ => rfl) l0 rfl rfl ?_
    refine gxo_get (a := 191) rfl g0 rfl rfl kp rfl ?_
    refine gx_2t (c := .ge) rfl (by first | decide | omega) (by first | decide | omega) (show w 0 5 ≤ w 0 5 from by omega) rfl ?_
    exact hQ _ _ hx l6
  | succ j ih =>
    intro k cl x hk hx l0 l4 l6 l8
    have hx64 := hx.1
    have hf64 := hf.1
    have hb9 := bts_nbr hx
    refine gx_ld (i := 8) (d := 0) (v := .inl k) rfl (fun _ => rfl) l8 rfl rfl ?_
    refine gx_ld (i := 0) (d := 2) (v := gx_r 191) rfl (fun _ => rfl) l0 rfl rfl ?_
    refine gxo_get (a := 191) rfl g0 rfl rfl kp rfl ?_
    refine gx_2f (c := .ge) rfl (by first | decide | omega) (by first | decide | omega) (show ¬ (w 0 5 ≤ k) from by omega) rfl ?_
    refine gx_ld (i := 6) (d := 1) (v := .inr (.inl x)) rfl (fun _ => rfl) l6 rfl rfl ?_
    refine ex_go (S := (35, cl, [.inl 8, .inr (.inl x)], t0, n, 0)) rfl (fun _ => rfl) rfl ?_
    refine ex_go (S := (36, cl, [.inr (.inl (en_lushr x 8))], t0, n, 0)) rfl (fun _ => rfl) rfl ?_
    refine gx_ld (i := 6) (d := 1) (v := .inr (.inl x)) rfl (fun _ => rfl) l6 rfl rfl ?_
    refine ex_go (S := (40, cl, [.inl 8, .inr (.inl x), .inr (.inl (en_lushr x 8))], t0, n, 0)) rfl (fun _ => rfl) rfl ?_
    refine ex_go (S := (41, cl, [.inr (.inl (en_lshl x 8)), .inr (.inl (en_lushr x 8))], t0, n, 0)) rfl (fun _ => rfl) rfl ?_
    refine ex_go (S := (42, cl, [.inr (.inl (en_lor (en_lushr x 8) (en_lshl x 8)))], t0, n, 0)) rfl (fun _ => rfl) rfl ?_
    refine gx_ld (i := 6) (d := 1) (v := .inr (.inl x)) rfl (fun _ => rfl) l6 rfl rfl ?_
    refine ex_go (S := (47, cl, [.inr (.inl 9187201950435737471), .inr (.inl x), .inr (.inl (en_lor (en_lushr x 8) (en_lshl x 8)))], t0, n, 0)) rfl (fun _ => rfl) rfl ?_
    refine ex_go (S := (48, cl, [.inr (.inl (en_land x 9187201950435737471)), .inr (.inl (en_lor (en_lushr x 8) (en_lshl x 8)))], t0, n, 0)) rfl (fun _ => rfl) rfl ?_
    refine ex_go (S := (49, cl, [.inl 1, .inr (.inl (en_land x 9187201950435737471)), .inr (.inl (en_lor (en_lushr x 8) (en_lshl x 8)))], t0, n, 0)) rfl (fun _ => rfl) rfl ?_
    refine ex_go (S := (50, cl, [.inr (.inl (en_lshl (en_land x 9187201950435737471) 1)), .inr (.inl (en_lor (en_lushr x 8) (en_lshl x 8)))], t0, n, 0)) rfl (fun _ => rfl) rfl ?_
    refine ex_go (S := (51, cl, [.inr (.inl (en_lor (en_lor (en_lushr x 8) (en_lshl x 8)) (en_lshl (en_land x 9187201950435737471) 1)))], t0, n, 0)) rfl (fun _ => rfl) rfl ?_
    refine gx_ld (i := 6) (d := 1) (v := .inr (.inl x)) rfl (fun _ => rfl) l6 rfl rfl ?_
    refine ex_go (S := (56, cl, [.inr (.inl 18374403900871474942), .inr (.inl x), .inr (.inl (en_lor (en_lor (en_lushr x 8) (en_lshl x 8)) (en_lshl (en_land x 9187201950435737471) 1)))], t0, n, 0)) rfl (fun _ => rfl) rfl ?_
    refine ex_go (S := (57, cl, [.inr (.inl (en_land x 18374403900871474942)), .inr (.inl (en_lor (en_lor (en_lushr x 8) (en_lshl x 8)) (en_lshl (en_land x 9187201950435737471) 1)))], t0, n, 0)) rfl (fun _ => rfl) rfl ?_
    refine ex_go (S := (58, cl, [.inl 1, .inr (.inl (en_land x 18374403900871474942)), .inr (.inl (en_lor (en_lor (en_lushr x 8) (en_lshl x 8)) (en_lshl (en_land x 9187201950435737471) 1)))], t0, n, 0)) rfl (fun _ => rfl) rfl ?_
    refine ex_go (S := (59, cl, [.inr (.inl (en_lushr (en_land x 18374403900871474942) 1)), .inr (.inl (en_lor (en_lor (en_lushr x 8) (en_lshl x 8)) (en_lshl (en_land x 9187201950435737471) 1)))], t0, n, 0)) rfl (fun _ => rfl) rfl ?_
    refine ex_go (S := (60, cl, [.inr (.inl (en_lor (en_lor (en_lor (en_lushr x 8) (en_lshl x 8)) (en_lshl (en_land x 9187201950435737471) 1)) (en_lushr (en_land x 18374403900871474942) 1)))], t0, n, 0)) rfl (fun _ => rfl) rfl ?_
    rw [sz_bes hx64]
    refine gx_sto (i := 9) (d := 1) rfl (fun _ => rfl) rfl rfl (fun l21 hl21 ml21 => ?_)
    have l21_0 : en_ld l21 0 = some (gx_r 191) := ml21 0 _ l0 rfl
    have l21_4 : en_ld l21 4 = some (.inr (.inl f)) := ml21 4 _ l4 rfl
    have l21_6 : en_ld l21 6 = some (.inr (.inl x)) := ml21 6 _ l6 rfl
    have l21_8 : en_ld l21 8 = some (.inl k) := ml21 8 _ l8 rfl
    refine gx_ld (i := 6) (d := 1) (v := .inr (.inl x)) rfl (fun _ => rfl) l21_6 rfl rfl ?_
    refine gx_ld (i := 9) (d := 1) (v := .inr (.inl (((((en_lushr x 8) ||| (en_lshl x 8)) ||| (en_lshl (x &&& 9187201950435737471) 1)) ||| (en_lushr (x &&& 18374403900871474942) 1))))) rfl (fun _ => rfl) hl21 rfl rfl ?_
    refine gx_ld (i := 4) (d := 1) (v := .inr (.inl f)) rfl (fun _ => rfl) l21_4 rfl rfl ?_
    refine ex_go (S := (69, l21, [.inr (.inl (en_land (((((en_lushr x 8) ||| (en_lshl x 8)) ||| (en_lshl (x &&& 9187201950435737471) 1)) ||| (en_lushr (x &&& 18374403900871474942) 1))) f)), .inr (.inl x)], t0, n, 0)) rfl (fun _ => rfl) rfl ?_
    rw [sz_land hb9.1 hf64]
    refine ex_go (S := (70, l21, [.inr (.inl (en_lor x ((((((en_lushr x 8) ||| (en_lshl x 8)) ||| (en_lshl (x &&& 9187201950435737471) 1)) ||| (en_lushr (x &&& 18374403900871474942) 1)) &&& f))))], t0, n, 0)) rfl (fun _ => rfl) rfl ?_
    rw [sz_lor hx64 (sz_and_lt hb9.1)]
    refine gx_sto (i := 6) (d := 1) rfl (fun _ => rfl) rfl rfl (fun l22 hl22 ml22 => ?_)
    have l22_0 : en_ld l22 0 = some (gx_r 191) := ml22 0 _ l21_0 rfl
    have l22_4 : en_ld l22 4 = some (.inr (.inl f)) := ml22 4 _ l21_4 rfl
    have l22_8 : en_ld l22 8 = some (.inl k) := ml22 8 _ l21_8 rfl
    have l22_9 : en_ld l22 9 = some (.inr (.inl (((((en_lushr x 8) ||| (en_lshl x 8)) ||| (en_lshl (x &&& 9187201950435737471) 1)) ||| (en_lushr (x &&& 18374403900871474942) 1))))) := ml22 9 _ hl21 rfl
    refine gx_incS (i := 8) (a := k) (x := 1) rfl (fun _ => rfl) l22_8 (by first | decide | omega) rfl (fun l23 hl23 ml23 => ?_)
    have l23_0 : en_ld l23 0 = some (gx_r 191) := ml23 0 _ l22_0 rfl
    have l23_4 : en_ld l23 4 = some (.inr (.inl f)) := ml23 4 _ l22_4 rfl
    have l23_9 : en_ld l23 9 = some (.inr (.inl (((((en_lushr x 8) ||| (en_lshl x 8)) ||| (en_lshl (x &&& 9187201950435737471) 1)) ||| (en_lushr (x &&& 18374403900871474942) 1))))) := ml23 9 _ l22_9 rfl
    have l23_6 : en_ld l23 6 = some (.inr (.inl ((x ||| (((((en_lushr x 8) ||| (en_lshl x 8)) ||| (en_lshl (x &&& 9187201950435737471) 1)) ||| (en_lushr (x &&& 18374403900871474942) 1)) &&& f))))) := ml23 6 _ hl22 rfl
    refine ex_go (S := (22, l23, [], t0, n, 0)) rfl (fun _ => rfl) rfl ?_
    exact ih (k + 1) _ _ (by first | decide | omega) (bts_or2 hx (bts_and2 hb9 hf (fun q hq => rfl)) (fun q hq => hst_bits hw.1.1 hq)) l23_0 l23_4 l23_6 hl23
theorem sc_hauled191 (d n : Nat) {t0 : en_H} {w : Nat → Nat → Nat} {L : List Nat} {H : Nat → Bool} {s x : Nat} (g0 : ai_HG ah_G t0) (hC : CW t0 191 w L) (hX : CX t0 191 w) (hw : WS w) (hs : s ≤ 1000000) (hx : bts x H) : ∃ r, en_u (d + 3) 203 [gx_r 191, .inr (.inl x), .inl s] t0 n = some r ∧ ∃ y, r = (some (.inr (.inl y)), t0, n, 0) ∧ bts y (hit w s (w 0 5) H) := by
  obtain ⟨⟨g, kg, hg⟩, -⟩ := hX
  refine en_u_ex (d := d + 2) rfl ?_
  show en_ex _ _ _ _ (0, [(0, gx_r 191), (1, .inr (.inl x)), (3, .inl s)], [], t0, n, 0) _
  refine ex_go (S := (1, [(0, gx_r 191), (1, .inr (.inl x)), (3, .inl s)], [gx_r 191], t0, n, 0)) rfl (fun _ => rfl) rfl ?_
  refine gxo_get (a := 191) rfl g0 rfl rfl kg rfl ?_
  refine ex_go (S := (5, [(0, gx_r 191), (1, .inr (.inl x)), (3, .inl s)], [gx_r 191, .inr (.inl g)], t0, n, 0)) rfl (fun _ => rfl) rfl ?_
  refine ex_go (S := (6, [(0, gx_r 191), (1, .inr (.inl x)), (3, .inl s)], [.inl s, gx_r 191, .inr (.inl g)], t0, n, 0)) rfl (fun _ => rfl) rfl ?_
  obtain ⟨_, r1, o, rfl, ho⟩ := sc_openLeads191 d n (s := s) g0 hC hw hs
  obtain ⟨hn1, hn2⟩ := sz_not ho.1
  refine gx_callo (a := 191) rfl rfl g0 rfl rfl rfl r1 rfl ?_
  show en_ex _ _ _ _ (9, [(0, gx_r 191), (1, .inr (.inl x)), (3, .inl s)], [.inr (.inl o), .inr (.inl g)], t0, n, 0) _
  refine ex_go (S := (12, [(0, gx_r 191), (1, .inr (.inl x)), (3, .inl s)], [.inr (.inl 18446744073709551615), .inr (.inl o), .inr (.inl g)], t0, n, 0)) rfl (fun _ => rfl) rfl ?_
  refine ex_go (S := (13, [(0, gx_r 191), (1, .inr (.inl x)), (3, .inl s)], [.inr (.inl (en_lxor o 18446744073709551615)), .inr (.inl g)], t0, n, 0)) rfl (fun _ => rfl) rfl ?_
  refine ex_go (S := (14, [(0, gx_r 191), (1, .inr (.inl x)), (3, .inl s)], [.inr (.inl (en_land g (en_lxor o 18446744073709551615)))], t0, n, 0)) rfl (fun _ => rfl) rfl ?_
  rw [sz_land hg.1 hn1]
  refine ex_go (S := (16, [(4, .inr (.inl ((g &&& (en_lxor o 18446744073709551615))))), (0, gx_r 191), (1, .inr (.inl x)), (3, .inl s)], [], t0, n, 0)) rfl (fun _ => rfl) rfl ?_
  refine ex_go (S := (17, [(4, .inr (.inl ((g &&& (en_lxor o 18446744073709551615))))), (0, gx_r 191), (1, .inr (.inl x)), (3, .inl s)], [.inr (.inl x)], t0, n, 0)) rfl (fun _ => rfl) rfl ?_
  refine ex_go (S := (19, [(6, .inr (.inl x)), (4, .inr (.inl ((g &&& (en_lxor o 18446744073709551615))))), (0, gx_r 191), (1, .inr (.inl x)), (3, .inl s)], [], t0, n, 0)) rfl (fun _ => rfl) rfl ?_
  refine ex_go (S := (20, [(6, .inr (.inl x)), (4, .inr (.inl ((g &&& (en_lxor o 18446744073709551615))))), (0, gx_r 191), (1, .inr (.inl x)), (3, .inl s)], [.inl 0], t0, n, 0)) rfl (fun _ => rfl) rfl ?_
  refine ex_go (S := (22, [(8, .inl 0), (6, .inr (.inl x)), (4, .inr (.inl ((g &&& (en_lxor o 18446744073709551615))))), (0, gx_r 191), (1, .inr (.inl x)), (3, .inl s)], [], t0, n, 0)) rfl (fun _ => rfl) rfl ?_
  refine sc_hf_l191 d n (H := H) (s := s) g0 hC hw (bts_and2 hg (bts_mk hn1 hn2) (fun q hq => by rw [bts_at ho hq])) (fun cl y hy m6 => ?_) (w 0 5) 0 _ x (by first | decide | omega) hx rfl rfl rfl rfl
  refine gx_ld (i := 6) (d := 1) (v := .inr (.inl y)) rfl (fun _ => rfl) m6 rfl rfl ?_
  refine ex_ret (r := (some (.inr (.inl y)), t0, n, 0)) rfl (fun _ => rfl) ?_
  exact ⟨_, rfl, y, rfl, hy⟩
theorem sc_hf_l257 (d n : Nat) {t0 : en_H} {w : Nat → Nat → Nat} {L : List Nat} {H : Nat → Bool} {s f : Nat} {Q : en_O → Prop} (g0 : ai_HG ah_G t0) (hC : CW t0 257 w L) (hw : WS w) (hf : bts f (fun q => inG (w 0 0) (w 0 1) q && !opn w s q)) (hQ : ∀ cl x, bts x (hit w s (w 0 5) H) → en_ld cl 6 = some (.inr (.inl x)) → en_ex none (en_u (d + 2)) (en_code 203) (fun _ => false) (78, cl, [], t0, n, 0) Q) : ∀ j k cl x, k + j = w 0 5 → bts x (hit w s k H) → en_ld cl 0 = some (gx_r 257) → en_ld cl 4 = some (.inr (.inl f)) → en_ld cl 6 = some (.inr (.inl x)) → en_ld cl 8 = some (.inl k) → en_ex none (en_u (d + 2)) (en_code 203) (fun _ => false) (22, cl, [], t0, n, 0) Q := by
  have kp := hC.1.2.2.1
  have hp := hw.1.2.2.2.2.2.2
  intro j
  induction j with
  | zero =>
    intro k cl x hk hx l0 l4 l6 l8
    have hk : k = w 0 5 := by omega
    rw [hk] at hx l8
    refine gx_ld (i := 8) (d := 0) (v := .inl (w 0 5)) rfl (fun _ => rfl) l8 rfl rfl ?_
    refine gx_ld (i := 0) (d := 2) (v := gx_r 257) rfl (fun _ => rfl) l0 rfl rfl ?_
    refine gxo_get (a := 257) rfl g0 rfl rfl kp rfl ?_
    refine gx_2t (c := .ge) rfl (by first | decide | omega) (by first | decide | omega) (show w 0 5 ≤ w 0 5 from by omega) rfl ?_
    exact hQ _ _ hx l6
  | succ j ih =>
    intro k cl x hk hx l0 l4 l6 l8
    have hx64 := hx.1
    have hf64 := hf.1
    have hb9 := bts_nbr hx
    refine gx_ld (i := 8) (d := 0) (v := .inl k) rfl (fun _ => rfl) l8 rfl rfl ?_
    refine gx_ld (i := 0) (d := 2) (v := gx_r 257) rfl (fun _ => rfl) l0 rfl rfl ?_
    refine gxo_get (a := 257) rfl g0 rfl rfl kp rfl ?_
    refine gx_2f (c := .ge) rfl (by first | decide | omega) (by first | decide | omega) (show ¬ (w 0 5 ≤ k) from by omega) rfl ?_
    refine gx_ld (i := 6) (d := 1) (v := .inr (.inl x)) rfl (fun _ => rfl) l6 rfl rfl ?_
    refine ex_go (S := (35, cl, [.inl 8, .inr (.inl x)], t0, n, 0)) rfl (fun _ => rfl) rfl ?_
    refine ex_go (S := (36, cl, [.inr (.inl (en_lushr x 8))], t0, n, 0)) rfl (fun _ => rfl) rfl ?_
    refine gx_ld (i := 6) (d := 1) (v := .inr (.inl x)) rfl (fun _ => rfl) l6 rfl rfl ?_
    refine ex_go (S := (40, cl, [.inl 8, .inr (.inl x), .inr (.inl (en_lushr x 8))], t0, n, 0)) rfl (fun _ => rfl) rfl ?_
    refine ex_go (S := (41, cl, [.inr (.inl (en_lshl x 8)), .inr (.inl (en_lushr x 8))], t0, n, 0)) rfl (fun _ => rfl) rfl ?_
    refine ex_go (S := (42, cl, [.inr (.inl (en_lor (en_lushr x 8) (en_lshl x 8)))], t0, n, 0)) rfl (fun _ => rfl) rfl ?_
    refine gx_ld (i := 6) (d := 1) (v := .inr (.inl x)) rfl (fun _ => rfl) l6 rfl rfl ?_
    refine ex_go (S := (47, cl, [.inr (.inl 9187201950435737471), .inr (.inl x), .inr (.inl (en_lor (en_lushr x 8) (en_lshl x 8)))], t0, n, 0)) rfl (fun _ => rfl) rfl ?_
    refine ex_go (S := (48, cl, [.inr (.inl (en_land x 9187201950435737471)), .inr (.inl (en_lor (en_lushr x 8) (en_lshl x 8)))], t0, n, 0)) rfl (fun _ => rfl) rfl ?_
    refine ex_go (S := (49, cl, [.inl 1, .inr (.inl (en_land x 9187201950435737471)), .inr (.inl (en_lor (en_lushr x 8) (en_lshl x 8)))], t0, n, 0)) rfl (fun _ => rfl) rfl ?_
    refine ex_go (S := (50, cl, [.inr (.inl (en_lshl (en_land x 9187201950435737471) 1)), .inr (.inl (en_lor (en_lushr x 8) (en_lshl x 8)))], t0, n, 0)) rfl (fun _ => rfl) rfl ?_
    refine ex_go (S := (51, cl, [.inr (.inl (en_lor (en_lor (en_lushr x 8) (en_lshl x 8)) (en_lshl (en_land x 9187201950435737471) 1)))], t0, n, 0)) rfl (fun _ => rfl) rfl ?_
    refine gx_ld (i := 6) (d := 1) (v := .inr (.inl x)) rfl (fun _ => rfl) l6 rfl rfl ?_
    refine ex_go (S := (56, cl, [.inr (.inl 18374403900871474942), .inr (.inl x), .inr (.inl (en_lor (en_lor (en_lushr x 8) (en_lshl x 8)) (en_lshl (en_land x 9187201950435737471) 1)))], t0, n, 0)) rfl (fun _ => rfl) rfl ?_
    refine ex_go (S := (57, cl, [.inr (.inl (en_land x 18374403900871474942)), .inr (.inl (en_lor (en_lor (en_lushr x 8) (en_lshl x 8)) (en_lshl (en_land x 9187201950435737471) 1)))], t0, n, 0)) rfl (fun _ => rfl) rfl ?_
    refine ex_go (S := (58, cl, [.inl 1, .inr (.inl (en_land x 18374403900871474942)), .inr (.inl (en_lor (en_lor (en_lushr x 8) (en_lshl x 8)) (en_lshl (en_land x 9187201950435737471) 1)))], t0, n, 0)) rfl (fun _ => rfl) rfl ?_
    refine ex_go (S := (59, cl, [.inr (.inl (en_lushr (en_land x 18374403900871474942) 1)), .inr (.inl (en_lor (en_lor (en_lushr x 8) (en_lshl x 8)) (en_lshl (en_land x 9187201950435737471) 1)))], t0, n, 0)) rfl (fun _ => rfl) rfl ?_
    refine ex_go (S := (60, cl, [.inr (.inl (en_lor (en_lor (en_lor (en_lushr x 8) (en_lshl x 8)) (en_lshl (en_land x 9187201950435737471) 1)) (en_lushr (en_land x 18374403900871474942) 1)))], t0, n, 0)) rfl (fun _ => rfl) rfl ?_
    rw [sz_bes hx64]
    refine gx_sto (i := 9) (d := 1) rfl (fun _ => rfl) rfl rfl (fun l21 hl21 ml21 => ?_)
    have l21_0 : en_ld l21 0 = some (gx_r 257) := ml21 0 _ l0 rfl
    have l21_4 : en_ld l21 4 = some (.inr (.inl f)) := ml21 4 _ l4 rfl
    have l21_6 : en_ld l21 6 = some (.inr (.inl x)) := ml21 6 _ l6 rfl
    have l21_8 : en_ld l21 8 = some (.inl k) := ml21 8 _ l8 rfl
    refine gx_ld (i := 6) (d := 1) (v := .inr (.inl x)) rfl (fun _ => rfl) l21_6 rfl rfl ?_
    refine gx_ld (i := 9) (d := 1) (v := .inr (.inl (((((en_lushr x 8) ||| (en_lshl x 8)) ||| (en_lshl (x &&& 9187201950435737471) 1)) ||| (en_lushr (x &&& 18374403900871474942) 1))))) rfl (fun _ => rfl) hl21 rfl rfl ?_
    refine gx_ld (i := 4) (d := 1) (v := .inr (.inl f)) rfl (fun _ => rfl) l21_4 rfl rfl ?_
    refine ex_go (S := (69, l21, [.inr (.inl (en_land (((((en_lushr x 8) ||| (en_lshl x 8)) ||| (en_lshl (x &&& 9187201950435737471) 1)) ||| (en_lushr (x &&& 18374403900871474942) 1))) f)), .inr (.inl x)], t0, n, 0)) rfl (fun _ => rfl) rfl ?_
    rw [sz_land hb9.1 hf64]
    refine ex_go (S := (70, l21, [.inr (.inl (en_lor x ((((((en_lushr x 8) ||| (en_lshl x 8)) ||| (en_lshl (x &&& 9187201950435737471) 1)) ||| (en_lushr (x &&& 18374403900871474942) 1)) &&& f))))], t0, n, 0)) rfl (fun _ => rfl) rfl ?_
    rw [sz_lor hx64 (sz_and_lt hb9.1)]
    refine gx_sto (i := 6) (d := 1) rfl (fun _ => rfl) rfl rfl (fun l22 hl22 ml22 => ?_)
    have l22_0 : en_ld l22 0 = some (gx_r 257) := ml22 0 _ l21_0 rfl
    have l22_4 : en_ld l22 4 = some (.inr (.inl f)) := ml22 4 _ l21_4 rfl
    have l22_8 : en_ld l22 8 = some (.inl k) := ml22 8 _ l21_8 rfl
    have l22_9 : en_ld l22 9 = some (.inr (.inl (((((en_lushr x 8) ||| (en_lshl x 8)) ||| (en_lshl (x &&& 9187201950435737471) 1)) ||| (en_lushr (x &&& 18374403900871474942) 1))))) := ml22 9 _ hl21 rfl
    refine gx_incS (i := 8) (a := k) (x := 1) rfl (fun _ => rfl) l22_8 (by first | decide | omega) rfl (fun l23 hl23 ml23 => ?_)
    have l23_0 : en_ld l23 0 = some (gx_r 257) := ml23 0 _ l22_0 rfl
    have l23_4 : en_ld l23 4 = some (.inr (.inl f)) := ml23 4 _ l22_4 rfl
    have l23_9 : en_ld l23 9 = some (.inr (.inl (((((en_lushr x 8) ||| (en_lshl x 8)) ||| (en_lshl (x &&& 9187201950435737471) 1)) ||| (en_lushr (x &&& 18374403900871474942) 1))))) := ml23 9 _ l22_9 rfl
    have l23_6 : en_ld l23 6 = some (.inr (.inl ((x ||| (((((en_lushr x 8) ||| (en_lshl x 8)) ||| (en_lshl (x &&& 9187201950435737471) 1)) ||| (en_lushr (x &&& 18374403900871474942) 1)) &&& f))))) := ml23 6 _ hl22 rfl
    refine ex_go (S := (22, l23, [], t0, n, 0)) rfl (fun _ => rfl) rfl ?_
    exact ih (k + 1) _ _ (by first | decide | omega) (bts_or2 hx (bts_and2 hb9 hf (fun q hq => rfl)) (fun q hq => hst_bits hw.1.1 hq)) l23_0 l23_4 l23_6 hl23
theorem sc_hauled257 (d n : Nat) {t0 : en_H} {w : Nat → Nat → Nat} {L : List Nat} {H : Nat → Bool} {s x : Nat} (g0 : ai_HG ah_G t0) (hC : CW t0 257 w L) (hX : CX t0 257 w) (hw : WS w) (hs : s ≤ 1000000) (hx : bts x H) : ∃ r, en_u (d + 3) 203 [gx_r 257, .inr (.inl x), .inl s] t0 n = some r ∧ ∃ y, r = (some (.inr (.inl y)), t0, n, 0) ∧ bts y (hit w s (w 0 5) H) := by
  obtain ⟨⟨g, kg, hg⟩, -⟩ := hX
  refine en_u_ex (d := d + 2) rfl ?_
  show en_ex _ _ _ _ (0, [(0, gx_r 257), (1, .inr (.inl x)), (3, .inl s)], [], t0, n, 0) _
  refine ex_go (S := (1, [(0, gx_r 257), (1, .inr (.inl x)), (3, .inl s)], [gx_r 257], t0, n, 0)) rfl (fun _ => rfl) rfl ?_
  refine gxo_get (a := 257) rfl g0 rfl rfl kg rfl ?_
  refine ex_go (S := (5, [(0, gx_r 257), (1, .inr (.inl x)), (3, .inl s)], [gx_r 257, .inr (.inl g)], t0, n, 0)) rfl (fun _ => rfl) rfl ?_
  refine ex_go (S := (6, [(0, gx_r 257), (1, .inr (.inl x)), (3, .inl s)], [.inl s, gx_r 257, .inr (.inl g)], t0, n, 0)) rfl (fun _ => rfl) rfl ?_
  obtain ⟨_, r1, o, rfl, ho⟩ := sc_openLeads257 d n (s := s) g0 hC hw hs
  obtain ⟨hn1, hn2⟩ := sz_not ho.1
  refine gx_callo (a := 257) rfl rfl g0 rfl rfl rfl r1 rfl ?_
  show en_ex _ _ _ _ (9, [(0, gx_r 257), (1, .inr (.inl x)), (3, .inl s)], [.inr (.inl o), .inr (.inl g)], t0, n, 0) _
  refine ex_go (S := (12, [(0, gx_r 257), (1, .inr (.inl x)), (3, .inl s)], [.inr (.inl 18446744073709551615), .inr (.inl o), .inr (.inl g)], t0, n, 0)) rfl (fun _ => rfl) rfl ?_
  refine ex_go (S := (13, [(0, gx_r 257), (1, .inr (.inl x)), (3, .inl s)], [.inr (.inl (en_lxor o 18446744073709551615)), .inr (.inl g)], t0, n, 0)) rfl (fun _ => rfl) rfl ?_
  refine ex_go (S := (14, [(0, gx_r 257), (1, .inr (.inl x)), (3, .inl s)], [.inr (.inl (en_land g (en_lxor o 18446744073709551615)))], t0, n, 0)) rfl (fun _ => rfl) rfl ?_
  rw [sz_land hg.1 hn1]
  refine ex_go (S := (16, [(4, .inr (.inl ((g &&& (en_lxor o 18446744073709551615))))), (0, gx_r 257), (1, .inr (.inl x)), (3, .inl s)], [], t0, n, 0)) rfl (fun _ => rfl) rfl ?_
  refine ex_go (S := (17, [(4, .inr (.inl ((g &&& (en_lxor o 18446744073709551615))))), (0, gx_r 257), (1, .inr (.inl x)), (3, .inl s)], [.inr (.inl x)], t0, n, 0)) rfl (fun _ => rfl) rfl ?_
  refine ex_go (S := (19, [(6, .inr (.inl x)), (4, .inr (.inl ((g &&& (en_lxor o 18446744073709551615))))), (0, gx_r 257), (1, .inr (.inl x)), (3, .inl s)], [], t0, n, 0)) rfl (fun _ => rfl) rfl ?_
  refine ex_go (S := (20, [(6, .inr (.inl x)), (4, .inr (.inl ((g &&& (en_lxor o 18446744073709551615))))), (0, gx_r 257), (1, .inr (.inl x)), (3, .inl s)], [.inl 0], t0, n, 0)) rfl (fun _ => rfl) rfl ?_
  refine ex_go (S := (22, [(8, .inl 0), (6, .inr (.inl x)), (4, .inr (.inl ((g &&& (en_lxor o 18446744073709551615))))), (0, gx_r 257), (1, .inr (.inl x)), (3, .inl s)], [], t0, n, 0)) rfl (fun _ => rfl) rfl ?_
  refine sc_hf_l257 d n (H := H) (s := s) g0 hC hw (bts_and2 hg (bts_mk hn1 hn2) (fun q hq => by rw [bts_at ho hq])) (fun cl y hy m6 => ?_) (w 0 5) 0 _ x (by first | decide | omega) hx rfl rfl rfl rfl
  refine gx_ld (i := 6) (d := 1) (v := .inr (.inl y)) rfl (fun _ => rfl) m6 rfl rfl ?_
  refine ex_ret (r := (some (.inr (.inl y)), t0, n, 0)) rfl (fun _ => rfl) ?_
  exact ⟨_, rfl, y, rfl, hy⟩
end SSJ
