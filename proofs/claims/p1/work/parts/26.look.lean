section ENS
variable {oc : Option (List en_V)} {f : en_F} {code : Nat → Option en_I} {stop : Nat → Bool} {P : en_O → Prop}
variable {pc nx : Nat} {ls : en_L} {st : List en_V} {t : en_H} {n sl : Nat}
theorem ex_alen {x1 x2 a : Nat} {q : Nat × List en_V} (hc : code pc = some (.arraylength, nx, x1, x2)) (hg : en_get t a = some (.inl q)) (hx : Nat.blt q.1 8 = true) (hp : stop nx = false) (h : en_ex oc f code stop (nx, ls, .inl (en_len q.2) :: st, t, n, sl) P) : en_ex oc f code stop (pc, ls, .inr (.inr (.inl (some a))) :: st, t, n, sl) P := by
  refine ex_go (S := (nx, ls, .inl (en_len q.2) :: st, t, n, sl)) hc (fun k => ?_) hp h
  show (match en_get t a with
    | some (.inl q) => bif Nat.blt q.1 8 then k nx ls (.inl (en_len q.2) :: st) t n sl else none
    | _ => none) = _
  rw [hg]
  dsimp only
  rw [hx]
  rfl
theorem nI_tn {x : Nat} (hx : x < 4294967296) : (nI x).toBitVec.toNat = x := by
  have h : (nI x).toBitVec.toNat = x % 4294967296 := by simp [nI]
  rw [h, Nat.mod_eq_of_lt hx]
theorem nI_ltn {x y : Nat} (hx : x < 2147483648) (hy : y < 2147483648) : nI x < nI y ↔ x < y := by
  have h1 := en_nI_toInt x
  have h2 := en_nI_toInt y
  rw [Nat.mod_eq_of_lt (by omega)] at h1 h2
  rw [Int32.lt_iff_toInt_lt]
  omega
theorem ex_max {i x1 x2 x y : Nat} (hc : code pc = some (.invokestatic i, nx, x1, x2)) (hq : Nat.beq x1 9991 = true) (hx : x < 2147483648) (hy : y < 2147483648) (hs : Nat.ble (en_sum st) 8 = true) (hp : stop nx = false) (h : en_ex oc f code stop (nx, ls, .inl (max x y) :: st, t, n, sl) P) : en_ex oc f code stop (pc, ls, .inl y :: .inl x :: st, t, n, sl) P := by
  refine ex_go (S := (nx, ls, .inl (max x y) :: st, t, n, sl)) hc (fun k => ?_) hp h
  show (bif Nat.beq x1 9991 then (bif Nat.ble (en_sum st) 8 then (match en_ii en_imax (.inl x) (.inl y) with | some v => k nx ls (v :: st) t n sl | none => none) else none) else _) = _
  rw [hq, hs]
  have e : en_imax x y = some (max x y) := by
    unfold en_imax
    by_cases hxy : x < y
    · rw [if_pos ((nI_ltn hx hy).mpr hxy), nI_tn (by omega), Nat.max_eq_right (Nat.le_of_lt hxy)]
    · rw [if_neg (fun z => hxy ((nI_ltn hx hy).mp z)), nI_tn (by omega), Nat.max_eq_left (by omega)]
  show (match (match en_imax x y with | some z => some (.inl z) | none => none : Option en_V) with | some v => k nx ls (v :: st) t n sl | none => none) = _
  rw [e]
theorem ex_min {i x1 x2 x y : Nat} (hc : code pc = some (.invokestatic i, nx, x1, x2)) (hq0 : Nat.beq x1 9991 = false) (hq : Nat.beq x1 9992 = true) (hx : x < 2147483648) (hy : y < 2147483648) (hs : Nat.ble (en_sum st) 8 = true) (hp : stop nx = false) (h : en_ex oc f code stop (nx, ls, .inl (min x y) :: st, t, n, sl) P) : en_ex oc f code stop (pc, ls, .inl y :: .inl x :: st, t, n, sl) P := by
  refine ex_go (S := (nx, ls, .inl (min x y) :: st, t, n, sl)) hc (fun k => ?_) hp h
  show (bif Nat.beq x1 9991 then _ else bif Nat.beq x1 9992 then (bif Nat.ble (en_sum st) 8 then (match en_ii en_imin (.inl x) (.inl y) with | some v => k nx ls (v :: st) t n sl | none => none) else none) else _) = _
  rw [hq0, hq, hs]
  have e : en_imin x y = some (min x y) := by
    unfold en_imin
    by_cases hxy : y < x
    · rw [if_pos ((nI_ltn hy hx).mpr hxy), nI_tn (by omega), Nat.min_eq_right (Nat.le_of_lt hxy)]
    · rw [if_neg (fun z => hxy ((nI_ltn hy hx).mp z)), nI_tn (by omega), Nat.min_eq_left (by omega)]
  show (match (match en_imin x y with | some z => some (.inl z) | none => none : Option en_V) with | some v => k nx ls (v :: st) t n sl | none => none) = _
  rw [e]
theorem en_nth_upd_same {l : List en_V} {k : Nat} (v : en_V) (h : k < en_len l) : en_nth (en_upd l k v) k = some v := by
  rw [en_len_eq] at h
  rw [en_nth_eq, en_upd_eq, List.getElem?_set_self h]
theorem en_nth_upd_ne {l : List en_V} {k j : Nat} (v : en_V) (h : k ≠ j) : en_nth (en_upd l k v) j = en_nth l j := by
  rw [en_nth_eq, en_nth_eq, en_upd_eq, List.getElem?_set_ne h]
theorem en_nth_refs : ∀ (m a i : Nat), i < m → en_nth (en_refs a m) i = some (.inr (.inr (.inl (some (a + i)))))
  | 0, _, _, h => absurd h (Nat.not_lt_zero _)
  | m + 1, a, 0, _ => rfl
  | m + 1, a, i + 1, h => by
    have ih := en_nth_refs m (a + 1) i (by omega)
    rw [show a + (i + 1) = a + 1 + i by omega]
    exact ih
theorem en_blt_t {x y : Nat} (h : x < y) : Nat.blt x y = true := Nat.ble_eq_true_of_le h
theorem en_agi {i k : Nat} (h : i < 2147483648) (hk : (k == 0) = true) : (Nat.beq k 0 && Nat.blt i 2147483648) = true := by
  have hk0 : k = 0 := by simpa using hk
  subst hk0
  rw [en_blt_t h]
  rfl
theorem en_aga {i : Nat} (h : i < 2147483648) : ((fun c => Nat.ble 4 c && Nat.ble c 7) 7 && Nat.blt i 2147483648) = true := by
  rw [en_blt_t h]
  rfl
theorem en_afi2 {t : en_H} {L x N : Nat} {sg : List en_V} (hL : L < N) (hN : N < 2147483648) (hsg : en_len sg = N) : (en_afit t 0 0 (.inl x) && (Nat.blt L 2147483648 && Nat.blt L (en_len sg))) = true := by
  rw [hsg, en_blt_t (show L < 2147483648 by omega), en_blt_t hL]
  rfl
/-! ### looks: the least at worst for so many days more than one -/
def lkG (k : Nat) : Nat := if k = 0 then 0 else if k < 2 then 1 else if k < 4 then 2 else if k < 8 then 3 else if k < 16 then 4 else 5
def lkC (k j : Nat) : Nat := 1 + max (lkG j) (lkG (k - 1 - j))
/-- the least of the first j, and where -/
def lkF (k : Nat) : Nat → Nat × Nat
  | 0 => (1000000000, 0)
  | j + 1 => if lkC k j < (lkF k j).1 then (lkC k j, j) else lkF k j
def lkB (k : Nat) : Nat → Nat
  | 0 => 0
  | j + 1 => if lkC k (j + 1) < lkC k (lkB k j) then j + 1 else lkB k j
theorem lkG_le (k : Nat) : lkG k ≤ 5 := by
  unfold lkG
  repeat' split
  all_goals omega
theorem lkC_le (k j : Nat) : lkC k j ≤ 6 := by
  unfold lkC
  have h1 := lkG_le j
  have h2 := lkG_le (k - 1 - j)
  rw [Nat.max_def]
  split <;> omega
theorem lkF_le (k j : Nat) : (lkF k j).1 ≤ 1000000000 := by
  induction j with
  | zero => exact Nat.le_refl _
  | succ j ih =>
    unfold lkF
    split
    · have := lkC_le k j
      show lkC k j ≤ _
      omega
    · exact ih
theorem lk_all : (List.range 30).all (fun k => k == 0 || ((lkF k k).1 == lkG k && ((lkF k k).2 == lkB k (k - 1) && (lkC k (lkB k (k - 1)) == lkG k && decide (lkB k (k - 1) < k))))) = true := by decide +kernel
theorem lk_at {k : Nat} (h1 : 1 ≤ k) (h2 : k < 30) : (lkF k k).1 = lkG k ∧ (lkF k k).2 = lkB k (k - 1) ∧ lkC k (lkB k (k - 1)) = lkG k ∧ lkB k (k - 1) < k := by
  have h := List.all_eq_true.mp lk_all k (List.mem_range.mpr h2)
  rw [show (k == 0) = false by simp; omega] at h
  simp only [Bool.false_or, Bool.and_eq_true, beq_iff_eq, decide_eq_true_eq] at h
  exact ⟨h.1, h.2.1, h.2.2.1, h.2.2.2⟩
theorem lkB_lt (k : Nat) : ∀ j, lkB k j ≤ j
  | 0 => Nat.le_refl _
  | j + 1 => by
    have := lkB_lt k j
    unfold lkB
    split <;> omega
end ENS
