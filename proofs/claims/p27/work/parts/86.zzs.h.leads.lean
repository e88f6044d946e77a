section SSH
/-- how far into its round a lead is -/
noncomputable def ldv (w : Nat → Nat → Nat) (k s : Nat) : Nat := (s + 30 * w 8 k - w 9 k) % w 8 k
noncomputable def opk (w : Nat → Nat → Nat) (q s : Nat) : Nat → Bool
  | 0 => false
  | k + 1 => opk w q s k || (decide (w 7 k = q) && decide (ldv w k s < w 10 k))
/-- a place's lead is open -/
noncomputable def opn (w : Nat → Nat → Nat) (s q : Nat) : Bool := opk w q s (w 0 3)
/-- what the rest of a division of any two ints is, when the second is small -/
noncomputable def rmv (s f r : Nat) : Nat := if f ≤ s then (s - f) % r else if (f - s) % r = 0 then 0 else 4294967296 - (f - s) % r
noncomputable def isv (s f : Nat) : Nat := if f ≤ s then s - f else s + 4294967296 - f
theorem isv_lt {s f : Nat} (hs : s ≤ 1000000) (hf : f ≤ 29) : isv s f < 4294967296 := by unfold isv; split <;> omega
theorem sz_isub {s f : Nat} (hs : s ≤ 1000000) (hf : f ≤ 29) : en_isub s f = some (isv s f) := by
  unfold isv
  by_cases c : f ≤ s
  · rw [if_pos c, ha_sub c (by first | decide | omega)]
  · rw [if_neg c]
    unfold en_isub
    obtain ⟨z1, z2⟩ := ai_off_32 (nI s - nI f)
    have e1 : (nI s - nI f).toInt = Int.bmod ((nI s).toInt - (nI f).toInt) 4294967296 := Int32.toInt_sub _ _
    have a1 := ai_off_int s
    have a2 := ai_off_int f
    rw [ai_off_nn (by first | decide | omega)] at a1 a2
    rw [e1, Int.bmod_def] at z2
    unfold ai_off at z2
    congr 1
    split at z2 <;> omega
theorem sz_irem_neg : ∀ y, y < 30 → ∀ r, r < 31 → 1 ≤ y → 1 ≤ r → en_irem (4294967296 - y) r = some (if y % r = 0 then 0 else 4294967296 - y % r) := by decide +kernel
theorem sz_rem_neg : ∀ y, y < 30 → ∀ r, r < 31 → 1 ≤ y → 1 ≤ r → (30 * r - y) % r = if y % r = 0 then 0 else r - y % r := by decide +kernel
theorem sz_irem {s f r : Nat} (hs : s ≤ 1000000) (hf : f ≤ 29) (h1 : 1 ≤ r) (hr : r ≤ 30) : en_irem (isv s f) r = some (rmv s f r) := by
  unfold isv rmv
  by_cases c : f ≤ s
  · rw [if_pos c, if_pos c, zk_rem (by first | decide | omega) (by first | decide | omega) (by first | decide | omega)]
  · rw [if_neg c, if_neg c, show s + 4294967296 - f = 4294967296 - (f - s) by omega]
    exact sz_irem_neg (f - s) (by first | decide | omega) r (by first | decide | omega) (by first | decide | omega) h1
theorem rmv_lt {s f r : Nat} (hs : s ≤ 1000000) (h1 : 1 ≤ r) (hr : r ≤ 30) : rmv s f r < 4294967296 := by
  unfold rmv
  by_cases c : f ≤ s
  · rw [if_pos c]
    have := Nat.mod_lt (s - f) (show r > 0 by omega)
    omega
  · rw [if_neg c]; split <;> omega
theorem rmv_v {s f r : Nat} (hs : s ≤ 1000000) (hf : f ≤ 29) (h1 : 1 ≤ r) (hr : r ≤ 30) : (rmv s f r < 2147483648 ∧ rmv s f r = (s + 30 * r - f) % r) ∨ (2147483648 ≤ rmv s f r ∧ en_wrap (rmv s f r + r) = (s + 30 * r - f) % r) := by
  unfold rmv
  by_cases c : f ≤ s
  · have h2 := Nat.mod_lt (s - f) (show r > 0 by omega)
    have h3 : (s + 30 * r - f) % r = (s - f) % r := by
      rw [show s + 30 * r - f = s - f + r * 30 by omega, Nat.add_mul_mod_self_left]
    rw [if_pos c, h3]
    exact Or.inl ⟨by omega, rfl⟩
  · have h3 := sz_rem_neg (f - s) (by first | decide | omega) r (by first | decide | omega) (by first | decide | omega) h1
    have h2 := Nat.mod_lt (f - s) (show r > 0 by omega)
    rw [if_neg c, show s + 30 * r - f = 30 * r - (f - s) by omega, h3]
    by_cases c2 : (f - s) % r = 0
    · rw [if_pos c2, if_pos c2]; exact Or.inl ⟨by decide, rfl⟩
    · rw [if_neg c2, if_neg c2]
      refine Or.inr ⟨by omega, ?_⟩
      unfold en_wrap
      omega
theorem ldv_lt {w : Nat → Nat → Nat} {k s : Nat} (h1 : 1 ≤ w 8 k) (h2 : w 8 k ≤ 30) : ldv w k s < 31 := by
  have := Nat.mod_lt (s + 30 * w 8 k - w 9 k) (show w 8 k > 0 by omega)
  unfold ldv
  omega
theorem sz_xor {x y : Nat} (hx : x < 4294967296) (hy : y < 2147483648) : (nI x ^^^ nI y).toBitVec.toNat < 4294967296 ∧ (x < 2147483648 → (nI x ^^^ nI y).toBitVec.toNat < 2147483648) ∧ (2147483648 ≤ x → 2147483648 ≤ (nI x ^^^ nI y).toBitVec.toNat) := by
  have e : (nI x ^^^ nI y).toBitVec.toNat = x ^^^ y := by
    have hx' := ai_tn x hx
    have hy' := ai_tn y (by first | decide | omega)
    rw [Int32.toBitVec_xor, BitVec.toNat_xor, hx', hy']
  rw [e]
  refine ⟨Nat.xor_lt_two_pow (n := 32) hx (show y < 2 ^ 32 by omega), fun h => Nat.xor_lt_two_pow (n := 31) h hy, fun h => ?_⟩
  apply Nat.le_of_not_lt
  intro z
  have h9 := Nat.xor_lt_two_pow (n := 31) z hy
  rw [Nat.xor_assoc, Nat.xor_self, Nat.xor_zero] at h9
  have h9 : x < 2147483648 := h9
  omega
section
variable {oc : Option (List en_V)} {f : en_F} {code : Nat → Option en_I} {stop : Nat → Bool} {P : en_O → Prop}
variable {pc nx : Nat} {ls : en_L} {st : List en_V} {t : en_H} {n sl : Nat}
theorem gx_iremo {x1 x2 a b z : Nat} (hc : code pc = some (.irem, nx, x1, x2)) (hz : en_irem a b = some z) (hp : stop nx = false) (h : en_ex oc f code stop (nx, ls, .inl z :: st, t, n, sl) P) : en_ex oc f code stop (pc, ls, .inl b :: .inl a :: st, t, n, sl) P := by
  refine ex_go (S := (nx, ls, .inl z :: st, t, n, sl)) hc (fun k => ?_) hp h
  show (match (match en_irem a b with | some z => some (.inl z) | none => none) with | some v => k nx ls (v :: st) t n sl | none => none) = _
  rw [hz]
theorem gx_isubo {x1 x2 a b z : Nat} (hc : code pc = some (.isub, nx, x1, x2)) (hz : en_isub a b = some z) (hp : stop nx = false) (h : en_ex oc f code stop (nx, ls, .inl z :: st, t, n, sl) P) : en_ex oc f code stop (pc, ls, .inl b :: .inl a :: st, t, n, sl) P := by
  refine ex_go (S := (nx, ls, .inl z :: st, t, n, sl)) hc (fun k => ?_) hp h
  show (match (match en_isub a b with | some z => some (.inl z) | none => none) with | some v => k nx ls (v :: st) t n sl | none => none) = _
  rw [hz]
theorem gx_ixoro {x1 x2 a b : Nat} (hc : code pc = some (.ixor, nx, x1, x2)) (hp : stop nx = false) (h : ∀ z, z = (nI a ^^^ nI b).toBitVec.toNat → en_ex oc f code stop (nx, ls, .inl z :: st, t, n, sl) P) : en_ex oc f code stop (pc, ls, .inl b :: .inl a :: st, t, n, sl) P :=
  ex_go (S := (nx, ls, .inl (nI a ^^^ nI b).toBitVec.toNat :: st, t, n, sl)) hc (fun k => rfl) hp (h _ rfl)
end
theorem pz_floorMod (d n : Nat) {t0 : en_H} {s f r : Nat} (hs : s ≤ 1000000) (hf : f ≤ 29) (h1 : 1 ≤ r) (hr : r ≤ 30) : ∃ z, en_u (d + 1) 196 [.inl (isv s f), .inl r] t0 n = some z ∧ z = (some (.inl ((s + 30 * r - f) % r)), t0, n, 0) := by
  have hm := rmv_lt (f := f) hs h1 hr
  have hx := isv_lt hs hf
  rcases rmv_v hs hf h1 hr with ⟨c9, v9⟩ | ⟨c9, v9⟩
  · by_cases c : f ≤ s
    · have e8 : isv s f = s - f := if_pos c
      refine en_u_ex rfl ?_
      show en_ex _ _ _ _ (0, [(0, .inl (isv s f)), (1, .inl r)], [], t0, n, 0) _
      refine ex_go (S := (1, [(0, .inl (isv s f)), (1, .inl r)], [.inl (isv s f)], t0, n, 0)) rfl (fun _ => rfl) rfl ?_
      refine ex_go (S := (2, [(0, .inl (isv s f)), (1, .inl r)], [.inl r, .inl (isv s f)], t0, n, 0)) rfl (fun _ => rfl) rfl ?_
      refine gx_iremo rfl (sz_irem hs hf h1 hr) rfl ?_
      refine ex_go (S := (4, [(2, .inl (rmv s f r)), (0, .inl (isv s f)), (1, .inl r)], [], t0, n, 0)) rfl (fun _ => rfl) rfl ?_
      refine ex_go (S := (5, [(2, .inl (rmv s f r)), (0, .inl (isv s f)), (1, .inl r)], [.inl (isv s f)], t0, n, 0)) rfl (fun _ => rfl) rfl ?_
      refine ex_go (S := (6, [(2, .inl (rmv s f r)), (0, .inl (isv s f)), (1, .inl r)], [.inl r, .inl (isv s f)], t0, n, 0)) rfl (fun _ => rfl) rfl ?_
      refine gx_ixoro rfl rfl (fun z21 hz21 => ?_)
      obtain ⟨z21a, z21b, z21c⟩ := sz_xor (x := isv s f) (y := r) (by first | decide | omega) (by first | decide | omega)
      rw [← hz21] at z21a z21b z21c
      refine gx_1t (c := .ge) rfl (by first | decide | omega) (show 0 ≤ z21 from by omega) rfl ?_
      refine ex_go (S := (19, [(2, .inl (rmv s f r)), (0, .inl (isv s f)), (1, .inl r)], [.inl (rmv s f r)], t0, n, 0)) rfl (fun _ => rfl) rfl ?_
      refine ex_ret (r := (some (.inl (rmv s f r)), t0, n, 0)) rfl (fun _ => rfl) ?_
      exact ⟨_, rfl, by rw [← v9]⟩
    · have e8 : isv s f = s + 4294967296 - f := if_neg c
      have h0 : rmv s f r = 0 := by
        have e9 : rmv s f r = if (f - s) % r = 0 then 0 else 4294967296 - (f - s) % r := if_neg c
        have := Nat.mod_lt (f - s) (show r > 0 by omega)
        rw [e9] at c9 ⊢
        split at c9
        · rename_i z; rw [if_pos z]
        · omega
      refine en_u_ex rfl ?_
      show en_ex _ _ _ _ (0, [(0, .inl (isv s f)), (1, .inl r)], [], t0, n, 0) _
      refine ex_go (S := (1, [(0, .inl (isv s f)), (1, .inl r)], [.inl (isv s f)], t0, n, 0)) rfl (fun _ => rfl) rfl ?_
      refine ex_go (S := (2, [(0, .inl (isv s f)), (1, .inl r)], [.inl r, .inl (isv s f)], t0, n, 0)) rfl (fun _ => rfl) rfl ?_
      refine gx_iremo rfl (sz_irem hs hf h1 hr) rfl ?_
      refine ex_go (S := (4, [(2, .inl (rmv s f r)), (0, .inl (isv s f)), (1, .inl r)], [], t0, n, 0)) rfl (fun _ => rfl) rfl ?_
      refine ex_go (S := (5, [(2, .inl (rmv s f r)), (0, .inl (isv s f)), (1, .inl r)], [.inl (isv s f)], t0, n, 0)) rfl (fun _ => rfl) rfl ?_
      refine ex_go (S := (6, [(2, .inl (rmv s f r)), (0, .inl (isv s f)), (1, .inl r)], [.inl r, .inl (isv s f)], t0, n, 0)) rfl (fun _ => rfl) rfl ?_
      refine gx_ixoro rfl rfl (fun z21 hz21 => ?_)
      obtain ⟨z21a, z21b, z21c⟩ := sz_xor (x := isv s f) (y := r) (by first | decide | omega) (by first | decide | omega)
      rw [← hz21] at z21a z21b z21c
      refine gx_negf (c := .ge) rfl (by first | decide | omega) (by first | decide | omega) rfl rfl ?_
      refine ex_go (S := (11, [(2, .inl (rmv s f r)), (0, .inl (isv s f)), (1, .inl r)], [.inl (rmv s f r)], t0, n, 0)) rfl (fun _ => rfl) rfl ?_
      refine gx_1t (c := .eq) rfl (by first | decide | omega) (show rmv s f r = 0 from by omega) rfl ?_
      refine ex_go (S := (19, [(2, .inl (rmv s f r)), (0, .inl (isv s f)), (1, .inl r)], [.inl (rmv s f r)], t0, n, 0)) rfl (fun _ => rfl) rfl ?_
      refine ex_ret (r := (some (.inl (rmv s f r)), t0, n, 0)) rfl (fun _ => rfl) ?_
      exact ⟨_, rfl, by rw [← v9]⟩
  · by_cases c : f ≤ s
    · have e9 : rmv s f r = (s - f) % r := if_pos c
      have := Nat.mod_lt (s - f) (show r > 0 by omega)
      omega
    · have e8 : isv s f = s + 4294967296 - f := if_neg c
      refine en_u_ex rfl ?_
      show en_ex _ _ _ _ (0, [(0, .inl (isv s f)), (1, .inl r)], [], t0, n, 0) _
      refine ex_go (S := (1, [(0, .inl (isv s f)), (1, .inl r)], [.inl (isv s f)], t0, n, 0)) rfl (fun _ => rfl) rfl ?_
      refine ex_go (S := (2, [(0, .inl (isv s f)), (1, .inl r)], [.inl r, .inl (isv s f)], t0, n, 0)) rfl (fun _ => rfl) rfl ?_
      refine gx_iremo rfl (sz_irem hs hf h1 hr) rfl ?_
      refine ex_go (S := (4, [(2, .inl (rmv s f r)), (0, .inl (isv s f)), (1, .inl r)], [], t0, n, 0)) rfl (fun _ => rfl) rfl ?_
      refine ex_go (S := (5, [(2, .inl (rmv s f r)), (0, .inl (isv s f)), (1, .inl r)], [.inl (isv s f)], t0, n, 0)) rfl (fun _ => rfl) rfl ?_
      refine ex_go (S := (6, [(2, .inl (rmv s f r)), (0, .inl (isv s f)), (1, .inl r)], [.inl r, .inl (isv s f)], t0, n, 0)) rfl (fun _ => rfl) rfl ?_
      refine gx_ixoro rfl rfl (fun z21 hz21 => ?_)
      obtain ⟨z21a, z21b, z21c⟩ := sz_xor (x := isv s f) (y := r) (by first | decide | omega) (by first | decide | omega)
      rw [← hz21] at z21a z21b z21c
      refine gx_negf (c := .ge) rfl (by first | decide | omega) (by first | decide | omega) rfl rfl ?_
      refine ex_go (S := (11, [(2, .inl (rmv s f r)), (0, .inl (isv s f)), (1, .inl r)], [.inl (rmv s f r)], t0, n, 0)) rfl (fun _ => rfl) rfl ?_
      refine gx_negf (c := .eq) rfl (by first | decide | omega) (by first | decide | omega) rfl rfl ?_
      refine ex_go (S := (15, [(2, .inl (rmv s f r)), (0, .inl (isv s f)), (1, .inl r)], [.inl (rmv s f r)], t0, n, 0)) rfl (fun _ => rfl) rfl ?_
      refine ex_go (S := (16, [(2, .inl (rmv s f r)), (0, .inl (isv s f)), (1, .inl r)], [.inl r, .inl (rmv s f r)], t0, n, 0)) rfl (fun _ => rfl) rfl ?_
      have hw22 : en_wrap ((rmv s f r) + r) < 4294967296 := wrap_lt
      refine gs_iaddx rfl rfl ?_
      refine ex_ret (r := (some (.inl (en_wrap ((rmv s f r) + r))), t0, n, 0)) rfl (fun _ => rfl) ?_
      exact ⟨_, rfl, by rw [← v9]⟩
theorem sr_open_l (d n : Nat) {t0 : en_H} {w : Nat → Nat → Nat} {L : List Nat} {q s : Nat} {Q : en_O → Prop} (g0 : ai_HG ah_G t0) (hR : RW t0 w L) (hq : q < 64) (hs : s ≤ 1000000) (hQ : ∀ cl, en_ld cl 3 = some (.inl (if opk w q s (w 0 3) then 1 else 0)) → en_ex none (en_u d) (en_code 108) (fun _ => false) (113, cl, [], t0, n, 0) Q) : ∀ j k cl, k + j = w 0 3 → en_ld cl 0 = some (gx_r 383) → en_ld cl 1 = some (.inl q) → en_ld cl 2 = some (.inl s) → en_ld cl 3 = some (.inl (if opk w q s k then 1 else 0)) → en_ld cl 4 = some (.inl k) → en_ex none (en_u d) (en_code 108) (fun _ => false) (5, cl, [], t0, n, 0) Q := by
  have kN := hR.1 3 (by first | decide | omega)
  have hN := hR.2.1.2.2.2.1
  intro j
  induction j with
  | zero =>
    intro k cl hk l0 l1 l2 l3 l4
    have hb9 : (if opk w q s k then 1 else 0) ≤ 1 := by split <;> omega
    have hk : k = w 0 3 := by omega
    rw [hk] at l3 l4 hb9
    refine gx_ld (i := 4) (d := 0) (v := .inl (w 0 3)) rfl (fun _ => rfl) l4 rfl rfl ?_
    refine gx_ld (i := 0) (d := 2) (v := gx_r 383) rfl (fun _ => rfl) l0 rfl rfl ?_
    refine gx_ref (c := 389) rfl g0 rfl rfl rfl rfl ?_
    refine ex_go (S := (12, cl, [.inl 3, gx_r 389, .inl (w 0 3)], t0, n, 0)) rfl (fun _ => rfl) rfl ?_
    refine gx_ag (v := .inl (w 0 3)) (cb := fun c => Nat.beq c 0) rfl (fun _ => rfl) g0 rfl rfl kN (by first | decide | omega) rfl ?_
    refine gx_2t (c := .ge) rfl (by first | decide | omega) (by first | decide | omega) (show w 0 3 ≤ w 0 3 from by omega) rfl ?_
    exact hQ _ l3
  | succ j ih =>
    intro k cl hk l0 l1 l2 l3 l4
    have hb9 : (if opk w q s k then 1 else 0) ≤ 1 := by split <;> omega
    obtain ⟨k7, h7, k8, ⟨h81, h82⟩, k9, h9, k10, h10⟩ := hR.2.2.2.2.2.1 k (by first | decide | omega)
    have hrm := rmv_lt (s := s) (f := w 9 k) hs h81 h82
    have hrv := rmv_v (s := s) (f := w 9 k) hs h9 h81 h82
    have hlv : ldv w k s = (s + 30 * w 8 k - w 9 k) % w 8 k := rfl
    rw [← hlv] at hrv
    have hll := ldv_lt (w := w) (k := k) (s := s) h81 h82
    have hw9 : en_wrap (rmv s (w 9 k) (w 8 k) + w 8 k) < 4294967296 := wrap_lt
    refine gx_ld (i := 4) (d := 0) (v := .inl k) rfl (fun _ => rfl) l4 rfl rfl ?_
    refine gx_ld (i := 0) (d := 2) (v := gx_r 383) rfl (fun _ => rfl) l0 rfl rfl ?_
    refine gx_ref (c := 389) rfl g0 rfl rfl rfl rfl ?_
    refine ex_go (S := (12, cl, [.inl 3, gx_r 389, .inl k], t0, n, 0)) rfl (fun _ => rfl) rfl ?_
    refine gx_ag (v := .inl (w 0 3)) (cb := fun c => Nat.beq c 0) rfl (fun _ => rfl) g0 rfl rfl kN (by first | decide | omega) rfl ?_
    refine gx_2f (c := .ge) rfl (by first | decide | omega) (by first | decide | omega) (show ¬ (w 0 3 ≤ k) from by omega) rfl ?_
    refine ex_go (S := (18, cl, [.inl 94], t0, n, 0)) rfl (fun _ => rfl) rfl ?_
    refine ex_go (S := (19, cl, [.inl 4, .inl 94], t0, n, 0)) rfl (fun _ => rfl) rfl ?_
    refine gx_ld (i := 4) (d := 0) (v := .inl k) rfl (fun _ => rfl) l4 rfl rfl ?_
    refine gx_imul rfl (by first | decide | omega) rfl ?_
    refine ex_iadd rfl (by first | decide | omega) rfl ?_
    refine gx_sto (i := 5) (d := 0) rfl (fun _ => rfl) rfl rfl (fun l21 hl21 ml21 => ?_)
    have l21_0 : en_ld l21 0 = some (gx_r 383) := ml21 0 _ l0 rfl
    have l21_1 : en_ld l21 1 = some (.inl q) := ml21 1 _ l1 rfl
    have l21_2 : en_ld l21 2 = some (.inl s) := ml21 2 _ l2 rfl
    have l21_3 : en_ld l21 3 = some (.inl ((if opk w q s k then 1 else 0))) := ml21 3 _ l3 rfl
    have l21_4 : en_ld l21 4 = some (.inl k) := ml21 4 _ l4 rfl
    refine gx_ld (i := 2) (d := 0) (v := .inl s) rfl (fun _ => rfl) l21_2 rfl rfl ?_
    refine gx_ld (i := 0) (d := 2) (v := gx_r 383) rfl (fun _ => rfl) l21_0 rfl rfl ?_
    refine gx_ref (c := 389) rfl g0 rfl rfl rfl rfl ?_
    refine gx_ld (i := 5) (d := 0) (v := .inl (94 + (4 * k))) rfl (fun _ => rfl) hl21 rfl rfl ?_
    refine ex_go (S := (33, l21, [.inl 2, .inl (94 + (4 * k)), gx_r 389, .inl s], t0, n, 0)) rfl (fun _ => rfl) rfl ?_
    refine ex_iadd rfl (by first | decide | omega) rfl ?_
    refine gx_ag (v := .inl (w 9 k)) (cb := fun c => Nat.beq c 0) rfl (fun _ => rfl) g0 rfl rfl (by rw [show 94 + 4 * k + 2 = 96 + 4 * k by omega]; exact k9) (by first | decide | omega) rfl ?_
    refine gx_isubo rfl (sz_isub hs h9) rfl ?_
    refine gx_ld (i := 0) (d := 2) (v := gx_r 383) rfl (fun _ => rfl) l21_0 rfl rfl ?_
    refine gx_ref (c := 389) rfl g0 rfl rfl rfl rfl ?_
    refine gx_ld (i := 5) (d := 0) (v := .inl (94 + (4 * k))) rfl (fun _ => rfl) hl21 rfl rfl ?_
    refine ex_go (S := (43, l21, [.inl 1, .inl (94 + (4 * k)), gx_r 389, .inl (isv s (w 9 k))], t0, n, 0)) rfl (fun _ => rfl) rfl ?_
    refine ex_iadd rfl (by first | decide | omega) rfl ?_
    refine gx_ag (v := .inl (w 8 k)) (cb := fun c => Nat.beq c 0) rfl (fun _ => rfl) g0 rfl rfl (by rw [show 94 + 4 * k + 1 = 95 + 4 * k by omega]; exact k8) (by first | decide | omega) rfl ?_
    refine gx_iremo rfl (sz_irem hs h9 h81 h82) rfl ?_
    refine gx_sto (i := 6) (d := 0) rfl (fun _ => rfl) rfl rfl (fun l22 hl22 ml22 => ?_)
    have l22_0 : en_ld l22 0 = some (gx_r 383) := ml22 0 _ l21_0 rfl
    have l22_1 : en_ld l22 1 = some (.inl q) := ml22 1 _ l21_1 rfl
    have l22_2 : en_ld l22 2 = some (.inl s) := ml22 2 _ l21_2 rfl
    have l22_3 : en_ld l22 3 = some (.inl ((if opk w q s k then 1 else 0))) := ml22 3 _ l21_3 rfl
    have l22_4 : en_ld l22 4 = some (.inl k) := ml22 4 _ l21_4 rfl
    have l22_5 : en_ld l22 5 = some (.inl (94 + (4 * k))) := ml22 5 _ hl21 rfl
    refine gx_ld (i := 6) (d := 0) (v := .inl (rmv s (w 9 k) (w 8 k))) rfl (fun _ => rfl) hl22 rfl rfl ?_
    rcases hrv with ⟨c9, v9⟩ | ⟨c9, v9⟩
    · refine gx_1t (c := .ge) rfl (by first | decide | omega) (show 0 ≤ rmv s (w 9 k) (w 8 k) from by omega) rfl ?_
      refine gx_ld (i := 6) (d := 0) (v := .inl (rmv s (w 9 k) (w 8 k))) rfl (fun _ => rfl) hl22 rfl rfl ?_
      refine gx_sto (i := 6) (d := 0) rfl (fun _ => rfl) rfl rfl (fun l23 hl23 ml23 => ?_)
      have l23_0 : en_ld l23 0 = some (gx_r 383) := ml23 0 _ l22_0 rfl
      have l23_1 : en_ld l23 1 = some (.inl q) := ml23 1 _ l22_1 rfl
      have l23_2 : en_ld l23 2 = some (.inl s) := ml23 2 _ l22_2 rfl
      have l23_3 : en_ld l23 3 = some (.inl ((if opk w q s k then 1 else 0))) := ml23 3 _ l22_3 rfl
      have l23_4 : en_ld l23 4 = some (.inl k) := ml23 4 _ l22_4 rfl
      have l23_5 : en_ld l23 5 = some (.inl (94 + (4 * k))) := ml23 5 _ l22_5 rfl
      refine gx_ld (i := 3) (d := 0) (v := .inl ((if opk w q s k then 1 else 0))) rfl (fun _ => rfl) l23_3 rfl rfl ?_
      by_cases hx73 : (if opk w q s k then 1 else 0) = 0
      · refine gx_1f (c := .ne) rfl (by first | decide | omega) (fun z => z hx73) rfl ?_
        refine gx_ld (i := 0) (d := 2) (v := gx_r 383) rfl (fun _ => rfl) l23_0 rfl rfl ?_
        refine gx_ref (c := 389) rfl g0 rfl rfl rfl rfl ?_
        refine gx_ld (i := 5) (d := 0) (v := .inl (94 + (4 * k))) rfl (fun _ => rfl) l23_5 rfl rfl ?_
        refine gx_ag (v := .inl (w 7 k)) (cb := fun c => Nat.beq c 0) rfl (fun _ => rfl) g0 rfl rfl k7 (by first | decide | omega) rfl ?_
        refine gx_ld (i := 1) (d := 0) (v := .inl q) rfl (fun _ => rfl) l23_1 rfl rfl ?_
        by_cases hc24 : w 7 k ≠ q
        · refine gx_2t (c := .ne) rfl (by first | decide | omega) (by first | decide | omega) hc24 rfl ?_
          refine ex_go (S := (106, l23, [.inl 0], t0, n, 0)) rfl (fun _ => rfl) rfl ?_
          refine gx_sto (i := 3) (d := 0) rfl (fun _ => rfl) rfl rfl (fun l25 hl25 ml25 => ?_)
          have l25_0 : en_ld l25 0 = some (gx_r 383) := ml25 0 _ l23_0 rfl
          have l25_1 : en_ld l25 1 = some (.inl q) := ml25 1 _ l23_1 rfl
          have l25_2 : en_ld l25 2 = some (.inl s) := ml25 2 _ l23_2 rfl
          have l25_4 : en_ld l25 4 = some (.inl k) := ml25 4 _ l23_4 rfl
          have l25_5 : en_ld l25 5 = some (.inl (94 + (4 * k))) := ml25 5 _ l23_5 rfl
          have l25_6 : en_ld l25 6 = some (.inl (rmv s (w 9 k) (w 8 k))) := ml25 6 _ hl23 rfl
          refine gx_incS (i := 4) (a := k) (x := 1) rfl (fun _ => rfl) l25_4 (by first | decide | omega) rfl (fun l26 hl26 ml26 => ?_)
          have l26_0 : en_ld l26 0 = some (gx_r 383) := ml26 0 _ l25_0 rfl
          have l26_1 : en_ld l26 1 = some (.inl q) := ml26 1 _ l25_1 rfl
          have l26_2 : en_ld l26 2 = some (.inl s) := ml26 2 _ l25_2 rfl
          have l26_5 : en_ld l26 5 = some (.inl (94 + (4 * k))) := ml26 5 _ l25_5 rfl
          have l26_6 : en_ld l26 6 = some (.inl (rmv s (w 9 k) (w 8 k))) := ml26 6 _ l25_6 rfl
          have l26_3 : en_ld l26 3 = some (.inl 0) := ml26 3 _ hl25 rfl
          refine ex_go (S := (5, l26, [], t0, n, 0)) rfl (fun _ => rfl) rfl ?_
          have hs9 : opk w q s (k + 1) = (opk w q s k || (decide (w 7 k = q) && decide (ldv w k s < w 10 k))) := rfl
          have ho : ¬ opk w q s k = true := fun c9 => by
            rw [if_pos c9] at hx73
            exact absurd hx73 (by decide)
          have ho : opk w q s k = false := by revert ho; cases opk w q s k <;> simp
          have h3 : ¬ opk w q s (k + 1) = true := by
            rw [hs9, ho, Bool.false_or]
            intro z9
            rw [Bool.and_eq_true, decide_eq_true_eq, decide_eq_true_eq] at z9
            omega
          exact ih (k + 1) _ (by first | decide | omega) l26_0 l26_1 l26_2 (by rw [if_neg h3]; exact l26_3) hl26
        · refine gx_2f (c := .ne) rfl (by first | decide | omega) (by first | decide | omega) hc24 rfl ?_
          refine gx_ld (i := 6) (d := 0) (v := .inl (rmv s (w 9 k) (w 8 k))) rfl (fun _ => rfl) hl23 rfl rfl ?_
          refine gx_ld (i := 0) (d := 2) (v := gx_r 383) rfl (fun _ => rfl) l23_0 rfl rfl ?_
          refine gx_ref (c := 389) rfl g0 rfl rfl rfl rfl ?_
          refine gx_ld (i := 5) (d := 0) (v := .inl (94 + (4 * k))) rfl (fun _ => rfl) l23_5 rfl rfl ?_
          refine ex_go (S := (96, l23, [.inl 3, .inl (94 + (4 * k)), gx_r 389, .inl (rmv s (w 9 k) (w 8 k))], t0, n, 0)) rfl (fun _ => rfl) rfl ?_
          refine ex_iadd rfl (by first | decide | omega) rfl ?_
          refine gx_ag (v := .inl (w 10 k)) (cb := fun c => Nat.beq c 0) rfl (fun _ => rfl) g0 rfl rfl (by rw [show 94 + 4 * k + 3 = 97 + 4 * k by omega]; exact k10) (by first | decide | omega) rfl ?_
          by_cases hc27 : w 10 k ≤ rmv s (w 9 k) (w 8 k)
          · refine gx_2t (c := .ge) rfl (by first | decide | omega) (by first | decide | omega) hc27 rfl ?_
            refine ex_go (S := (106, l23, [.inl 0], t0, n, 0)) rfl (fun _ => rfl) rfl ?_
            refine gx_sto (i := 3) (d := 0) rfl (fun _ => rfl) rfl rfl (fun l28 hl28 ml28 => ?_)
            have l28_0 : en_ld l28 0 = some (gx_r 383) := ml28 0 _ l23_0 rfl
            have l28_1 : en_ld l28 1 = some (.inl q) := ml28 1 _ l23_1 rfl
            have l28_2 : en_ld l28 2 = some (.inl s) := ml28 2 _ l23_2 rfl
            have l28_4 : en_ld l28 4 = some (.inl k) := ml28 4 _ l23_4 rfl
            have l28_5 : en_ld l28 5 = some (.inl (94 + (4 * k))) := ml28 5 _ l23_5 rfl
            have l28_6 : en_ld l28 6 = some (.inl (rmv s (w 9 k) (w 8 k))) := ml28 6 _ hl23 rfl
            refine gx_incS (i := 4) (a := k) (x := 1) rfl (fun _ => rfl) l28_4 (by first | decide | omega) rfl (fun l29 hl29 ml29 => ?_)
            have l29_0 : en_ld l29 0 = some (gx_r 383) := ml29 0 _ l28_0 rfl
            have l29_1 : en_ld l29 1 = some (.inl q) := ml29 1 _ l28_1 rfl
            have l29_2 : en_ld l29 2 = some (.inl s) := ml29 2 _ l28_2 rfl
            have l29_5 : en_ld l29 5 = some (.inl (94 + (4 * k))) := ml29 5 _ l28_5 rfl
            have l29_6 : en_ld l29 6 = some (.inl (rmv s (w 9 k) (w 8 k))) := ml29 6 _ l28_6 rfl
            have l29_3 : en_ld l29 3 = some (.inl 0) := ml29 3 _ hl28 rfl
            refine ex_go (S := (5, l29, [], t0, n, 0)) rfl (fun _ => rfl) rfl ?_
            have hs9 : opk w q s (k + 1) = (opk w q s k || (decide (w 7 k = q) && decide (ldv w k s < w 10 k))) := rfl
            have ho : ¬ opk w q s k = true := fun c9 => by
              rw [if_pos c9] at hx73
              exact absurd hx73 (by decide)
            have ho : opk w q s k = false := by revert ho; cases opk w q s k <;> simp
            have h3 : ¬ opk w q s (k + 1) = true := by
              rw [hs9, ho, Bool.false_or]
              intro z9
              rw [Bool.and_eq_true, decide_eq_true_eq, decide_eq_true_eq] at z9
              omega
            exact ih (k + 1) _ (by first | decide | omega) l29_0 l29_1 l29_2 (by rw [if_neg h3]; exact l29_3) hl29
          · refine gx_2f (c := .ge) rfl (by first | decide | omega) (by first | decide | omega) hc27 rfl ?_
            refine ex_go (S := (102, l23, [.inl 1], t0, n, 0)) rfl (fun _ => rfl) rfl ?_
            refine ex_go (S := (106, l23, [.inl 1], t0, n, 0)) rfl (fun _ => rfl) rfl ?_
            refine gx_sto (i := 3) (d := 0) rfl (fun _ => rfl) rfl rfl (fun l30 hl30 ml30 => ?_)
            have l30_0 : en_ld l30 0 = some (gx_r 383) := ml30 0 _ l23_0 rfl
            have l30_1 : en_ld l30 1 = some (.inl q) := ml30 1 _ l23_1 rfl
            have l30_2 : en_ld l30 2 = some (.inl s) := ml30 2 _ l23_2 rfl
            have l30_4 : en_ld l30 4 = some (.inl k) := ml30 4 _ l23_4 rfl
            have l30_5 : en_ld l30 5 = some (.inl (94 + (4 * k))) := ml30 5 _ l23_5 rfl
            have l30_6 : en_ld l30 6 = some (.inl (rmv s (w 9 k) (w 8 k))) := ml30 6 _ hl23 rfl
            refine gx_incS (i := 4) (a := k) (x := 1) rfl (fun _ => rfl) l30_4 (by first | decide | omega) rfl (fun l31 hl31 ml31 => ?_)
            have l31_0 : en_ld l31 0 = some (gx_r 383) := ml31 0 _ l30_0 rfl
            have l31_1 : en_ld l31 1 = some (.inl q) := ml31 1 _ l30_1 rfl
            have l31_2 : en_ld l31 2 = some (.inl s) := ml31 2 _ l30_2 rfl
            have l31_5 : en_ld l31 5 = some (.inl (94 + (4 * k))) := ml31 5 _ l30_5 rfl
            have l31_6 : en_ld l31 6 = some (.inl (rmv s (w 9 k) (w 8 k))) := ml31 6 _ l30_6 rfl
            have l31_3 : en_ld l31 3 = some (.inl 1) := ml31 3 _ hl30 rfl
            refine ex_go (S := (5, l31, [], t0, n, 0)) rfl (fun _ => rfl) rfl ?_
            have hs9 : opk w q s (k + 1) = (opk w q s k || (decide (w 7 k = q) && decide (ldv w k s < w 10 k))) := rfl
            have h3 : opk w q s (k + 1) = true := by rw [hs9, decide_eq_true (show w 7 k = q by omega), decide_eq_true (show ldv w k s < w 10 k by omega), Bool.and_true, Bool.or_true]
            exact ih (k + 1) _ (by first | decide | omega) l31_0 l31_1 l31_2 (by rw [if_pos h3]; exact l31_3) hl31
      · refine gx_1t (c := .ne) rfl (by first | decide | omega) hx73 rfl ?_
        refine ex_go (S := (102, l23, [.inl 1], t0, n, 0)) rfl (fun _ => rfl) rfl ?_
        refine ex_go (S := (106, l23, [.inl 1], t0, n, 0)) rfl (fun _ => rfl) rfl ?_
        refine gx_sto (i := 3) (d := 0) rfl (fun _ => rfl) rfl rfl (fun l32 hl32 ml32 => ?_)
        have l32_0 : en_ld l32 0 = some (gx_r 383) := ml32 0 _ l23_0 rfl
        have l32_1 : en_ld l32 1 = some (.inl q) := ml32 1 _ l23_1 rfl
        have l32_2 : en_ld l32 2 = some (.inl s) := ml32 2 _ l23_2 rfl
        have l32_4 : en_ld l32 4 = some (.inl k) := ml32 4 _ l23_4 rfl
        have l32_5 : en_ld l32 5 = some (.inl (94 + (4 * k))) := ml32 5 _ l23_5 rfl
        have l32_6 : en_ld l32 6 = some (.inl (rmv s (w 9 k) (w 8 k))) := ml32 6 _ hl23 rfl
        refine gx_incS (i := 4) (a := k) (x := 1) rfl (fun _ => rfl) l32_4 (by first | decide | omega) rfl (fun l33 hl33 ml33 => ?_)
        have l33_0 : en_ld l33 0 = some (gx_r 383) := ml33 0 _ l32_0 rfl
        have l33_1 : en_ld l33 1 = some (.inl q) := ml33 1 _ l32_1 rfl
        have l33_2 : en_ld l33 2 = some (.inl s) := ml33 2 _ l32_2 rfl
        have l33_5 : en_ld l33 5 = some (.inl (94 + (4 * k))) := ml33 5 _ l32_5 rfl
        have l33_6 : en_ld l33 6 = some (.inl (rmv s (w 9 k) (w 8 k))) := ml33 6 _ l32_6 rfl
        have l33_3 : en_ld l33 3 = some (.inl 1) := ml33 3 _ hl32 rfl
        refine ex_go (S := (5, l33, [], t0, n, 0)) rfl (fun _ => rfl) rfl ?_
        have hs9 : opk w q s (k + 1) = (opk w q s k || (decide (w 7 k = q) && decide (ldv w k s < w 10 k))) := rfl
        have ho : opk w q s k = true := by
          by_cases c9 : opk w q s k = true
          · exact c9
          · rw [if_neg c9] at hx73; exact absurd rfl hx73
        have h3 : opk w q s (k + 1) = true := by rw [hs9, ho, Bool.true_or]
        exact ih (k + 1) _ (by first | decide | omega) l33_0 l33_1 l33_2 (by rw [if_pos h3]; exact l33_3) hl33
    · refine gx_negf (c := .ge) rfl (by first | decide | omega) (by first | decide | omega) rfl rfl ?_
      refine gx_ld (i := 6) (d := 0) (v := .inl (rmv s (w 9 k) (w 8 k))) rfl (fun _ => rfl) hl22 rfl rfl ?_
      refine gx_ld (i := 0) (d := 2) (v := gx_r 383) rfl (fun _ => rfl) l22_0 rfl rfl ?_
      refine gx_ref (c := 389) rfl g0 rfl rfl rfl rfl ?_
      refine gx_ld (i := 5) (d := 0) (v := .inl (94 + (4 * k))) rfl (fun _ => rfl) l22_5 rfl rfl ?_
      refine ex_go (S := (62, l22, [.inl 1, .inl (94 + (4 * k)), gx_r 389, .inl (rmv s (w 9 k) (w 8 k))], t0, n, 0)) rfl (fun _ => rfl) rfl ?_
      refine ex_iadd rfl (by first | decide | omega) rfl ?_
      refine gx_ag (v := .inl (w 8 k)) (cb := fun c => Nat.beq c 0) rfl (fun _ => rfl) g0 rfl rfl (by rw [show 94 + 4 * k + 1 = 95 + 4 * k by omega]; exact k8) (by first | decide | omega) rfl ?_
      have hw34 : en_wrap ((rmv s (w 9 k) (w 8 k)) + (w 8 k)) < 4294967296 := wrap_lt
      refine gs_iaddx rfl rfl ?_
      refine ex_go (S := (70, l22, [.inl (en_wrap ((rmv s (w 9 k) (w 8 k)) + (w 8 k)))], t0, n, 0)) rfl (fun _ => rfl) rfl ?_
      refine gx_sto (i := 6) (d := 0) rfl (fun _ => rfl) rfl rfl (fun l35 hl35 ml35 => ?_)
      have l35_0 : en_ld l35 0 = some (gx_r 383) := ml35 0 _ l22_0 rfl
      have l35_1 : en_ld l35 1 = some (.inl q) := ml35 1 _ l22_1 rfl
      have l35_2 : en_ld l35 2 = some (.inl s) := ml35 2 _ l22_2 rfl
      have l35_3 : en_ld l35 3 = some (.inl ((if opk w q s k then 1 else 0))) := ml35 3 _ l22_3 rfl
      have l35_4 : en_ld l35 4 = some (.inl k) := ml35 4 _ l22_4 rfl
      have l35_5 : en_ld l35 5 = some (.inl (94 + (4 * k))) := ml35 5 _ l22_5 rfl
      refine gx_ld (i := 3) (d := 0) (v := .inl ((if opk w q s k then 1 else 0))) rfl (fun _ => rfl) l35_3 rfl rfl ?_
      by_cases hx73 : (if opk w q s k then 1 else 0) = 0
      · refine gx_1f (c := .ne) rfl (by first | decide | omega) (fun z => z hx73) rfl ?_
        refine gx_ld (i := 0) (d := 2) (v := gx_r 383) rfl (fun _ => rfl) l35_0 rfl rfl ?_
        refine gx_ref (c := 389) rfl g0 rfl rfl rfl rfl ?_
        refine gx_ld (i := 5) (d := 0) (v := .inl (94 + (4 * k))) rfl (fun _ => rfl) l35_5 rfl rfl ?_
        refine gx_ag (v := .inl (w 7 k)) (cb := fun c => Nat.beq c 0) rfl (fun _ => rfl) g0 rfl rfl k7 (by first | decide | omega) rfl ?_
        refine gx_ld (i := 1) (d := 0) (v := .inl q) rfl (fun _ => rfl) l35_1 rfl rfl ?_
        by_cases hc36 : w 7 k ≠ q
        · refine gx_2t (c := .ne) rfl (by first | decide | omega) (by first | decide | omega) hc36 rfl ?_
          refine ex_go (S := (106, l35, [.inl 0], t0, n, 0)) rfl (fun _ => rfl) rfl ?_
          refine gx_sto (i := 3) (d := 0) rfl (fun _ => rfl) rfl rfl (fun l37 hl37 ml37 => ?_)
          have l37_0 : en_ld l37 0 = some (gx_r 383) := ml37 0 _ l35_0 rfl
          have l37_1 : en_ld l37 1 = some (.inl q) := ml37 1 _ l35_1 rfl
          have l37_2 : en_ld l37 2 = some (.inl s) := ml37 2 _ l35_2 rfl
          have l37_4 : en_ld l37 4 = some (.inl k) := ml37 4 _ l35_4 rfl
          have l37_5 : en_ld l37 5 = some (.inl (94 + (4 * k))) := ml37 5 _ l35_5 rfl
          have l37_6 : en_ld l37 6 = some (.inl (en_wrap ((rmv s (w 9 k) (w 8 k)) + (w 8 k)))) := ml37 6 _ hl35 rfl
          refine gx_incS (i := 4) (a := k) (x := 1) rfl (fun _ => rfl) l37_4 (by first | decide | omega) rfl (fun l38 hl38 ml38 => ?_)
          have l38_0 : en_ld l38 0 = some (gx_r 383) := ml38 0 _ l37_0 rfl
          have l38_1 : en_ld l38 1 = some (.inl q) := ml38 1 _ l37_1 rfl
          have l38_2 : en_ld l38 2 = some (.inl s) := ml38 2 _ l37_2 rfl
          have l38_5 : en_ld l38 5 = some (.inl (94 + (4 * k))) := ml38 5 _ l37_5 rfl
          have l38_6 : en_ld l38 6 = some (.inl (en_wrap ((rmv s (w 9 k) (w 8 k)) + (w 8 k)))) := ml38 6 _ l37_6 rfl
          have l38_3 : en_ld l38 3 = some (.inl 0) := ml38 3 _ hl37 rfl
          refine ex_go (S := (5, l38, [], t0, n, 0)) rfl (fun _ => rfl) rfl ?_
          have hs9 : opk w q s (k + 1) = (opk w q s k || (decide (w 7 k = q) && decide (ldv w k s < w 10 k))) := rfl
          have ho : ¬ opk w q s k = true := fun c9 => by
            rw [if_pos c9] at hx73
            exact absurd hx73 (by decide)
          have ho : opk w q s k = false := by revert ho; cases opk w q s k <;> simp
          have h3 : ¬ opk w q s (k + 1) = true := by
            rw [hs9, ho, Bool.false_or]
            intro z9
            rw [Bool.and_eq_true, decide_eq_true_eq, decide_eq_true_eq] at z9
            omega
          exact ih (k + 1) _ (by first | decide | omega) l38_0 l38_1 l38_2 (by rw [if_neg h3]; exact l38_3) hl38
        · refine gx_2f (c := .ne) rfl (by first | decide | omega) (by first | decide | omega) hc36 rfl ?_
          refine gx_ld (i := 6) (d := 0) (v := .inl (en_wrap ((rmv s (w 9 k) (w 8 k)) + (w 8 k)))) rfl (fun _ => rfl) hl35 rfl rfl ?_
          refine gx_ld (i := 0) (d := 2) (v := gx_r 383) rfl (fun _ => rfl) l35_0 rfl rfl ?_
          refine gx_ref (c := 389) rfl g0 rfl rfl rfl rfl ?_
          refine gx_ld (i := 5) (d := 0) (v := .inl (94 + (4 * k))) rfl (fun _ => rfl) l35_5 rfl rfl ?_
          refine ex_go (S := (96, l35, [.inl 3, .inl (94 + (4 * k)), gx_r 389, .inl (en_wrap ((rmv s (w 9 k) (w 8 k)) + (w 8 k)))], t0, n, 0)) rfl (fun _ => rfl) rfl ?_
          refine ex_iadd rfl (by first | decide | omega) rfl ?_
          refine gx_ag (v := .inl (w 10 k)) (cb := fun c => Nat.beq c 0) rfl (fun _ => rfl) g0 rfl rfl (by rw [show 94 + 4 * k + 3 = 97 + 4 * k by omega]; exact k10) (by first | decide | omega) rfl ?_
          by_cases hc39 : w 10 k ≤ en_wrap ((rmv s (w 9 k) (w 8 k)) + (w 8 k))
          · refine gx_2t (c := .ge) rfl (by first | decide | omega) (by first | decide | omega) hc39 rfl ?_
            refine ex_go (S := (106, l35, [.inl 0], t0, n, 0)) rfl (fun _ => rfl) rfl ?_
            refine gx_sto (i := 3) (d := 0) rfl (fun _ => rfl) rfl rfl (fun l40 hl40 ml40 => ?_)
            have l40_0 : en_ld l40 0 = some (gx_r 383) := ml40 0 _ l35_0 rfl
            have l40_1 : en_ld l40 1 = some (.inl q) := ml40 1 _ l35_1 rfl
            have l40_2 : en_ld l40 2 = some (.inl s) := ml40 2 _ l35_2 rfl
            have l40_4 : en_ld l40 4 = some (.inl k) := ml40 4 _ l35_4 rfl
            have l40_5 : en_ld l40 5 = some (.inl (94 + (4 * k))) := ml40 5 _ l35_5 rfl
            have l40_6 : en_ld l40 6 = some (.inl (en_wrap ((rmv s (w 9 k) (w 8 k)) + (w 8 k)))) := ml40 6 _ hl35 rfl
            refine gx_incS (i := 4) (a := k) (x := 1) rfl (fun _ => rfl) l40_4 (by first | decide | omega) rfl (fun l41 hl41 ml41 => ?_)
            have l41_0 : en_ld l41 0 = some (gx_r 383) := ml41 0 _ l40_0 rfl
            have l41_1 : en_ld l41 1 = some (.inl q) := ml41 1 _ l40_1 rfl
            have l41_2 : en_ld l41 2 = some (.inl s) := ml41 2 _ l40_2 rfl
            have l41_5 : en_ld l41 5 = some (.inl (94 + (4 * k))) := ml41 5 _ l40_5 rfl
            have l41_6 : en_ld l41 6 = some (.inl (en_wrap ((rmv s (w 9 k) (w 8 k)) + (w 8 k)))) := ml41 6 _ l40_6 rfl
            have l41_3 : en_ld l41 3 = some (.inl 0) := ml41 3 _ hl40 rfl
            refine ex_go (S := (5, l41, [], t0, n, 0)) rfl (fun _ => rfl) rfl ?_
            have hs9 : opk w q s (k + 1) = (opk w q s k || (decide (w 7 k = q) && decide (ldv w k s < w 10 k))) := rfl
            have ho : ¬ opk w q s k = true := fun c9 => by
              rw [if_pos c9] at hx73
              exact absurd hx73 (by decide)
            have ho : opk w q s k = false := by revert ho; cases opk w q s k <;> simp
            have h3 : ¬ opk w q s (k + 1) = true := by
              rw [hs9, ho, Bool.false_or]
              intro z9
              rw [Bool.and_eq_true, decide_eq_true_eq, decide_eq_true_eq] at z9
              omega
            exact ih (k + 1) _ (by first | decide | omega) l41_0 l41_1 l41_2 (by rw [if_neg h3]; exact l41_3) hl41
          · refine gx_2f (c := .ge) rfl (by first | decide | omega) (by first | decide | omega) hc39 rfl ?_
            refine ex_go (S := (102, l35, [.inl 1], t0, n, 0)) rfl (fun _ => rfl) rfl ?_
            refine ex_go (S := (106, l35, [.inl 1], t0, n, 0)) rfl (fun _ => rfl) rfl ?_
            refine gx_sto (i := 3) (d := 0) rfl (fun _ => rfl) rfl rfl (fun l42 hl42 ml42 => ?_)
            have l42_0 : en_ld l42 0 = some (gx_r 383) := ml42 0 _ l35_0 rfl
            have l42_1 : en_ld l42 1 = some (.inl q) := ml42 1 _ l35_1 rfl
            have l42_2 : en_ld l42 2 = some (.inl s) := ml42 2 _ l35_2 rfl
            have l42_4 : en_ld l42 4 = some (.inl k) := ml42 4 _ l35_4 rfl
            have l42_5 : en_ld l42 5 = some (.inl (94 + (4 * k))) := ml42 5 _ l35_5 rfl
            have l42_6 : en_ld l42 6 = some (.inl (en_wrap ((rmv s (w 9 k) (w 8 k)) + (w 8 k)))) := ml42 6 _ hl35 rfl
            refine gx_incS (i := 4) (a := k) (x := 1) rfl (fun _ => rfl) l42_4 (by first | decide | omega) rfl (fun l43 hl43 ml43 => ?_)
            have l43_0 : en_ld l43 0 = some (gx_r 383) := ml43 0 _ l42_0 rfl
            have l43_1 : en_ld l43 1 = some (.inl q) := ml43 1 _ l42_1 rfl
            have l43_2 : en_ld l43 2 = some (.inl s) := ml43 2 _ l42_2 rfl
            have l43_5 : en_ld l43 5 = some (.inl (94 + (4 * k))) := ml43 5 _ l42_5 rfl
            have l43_6 : en_ld l43 6 = some (.inl (en_wrap ((rmv s (w 9 k) (w 8 k)) + (w 8 k)))) := ml43 6 _ l42_6 rfl
            have l43_3 : en_ld l43 3 = some (.inl 1) := ml43 3 _ hl42 rfl
            refine ex_go (S := (5, l43, [], t0, n, 0)) rfl (fun _ => rfl) rfl ?_
            have hs9 : opk w q s (k + 1) = (opk w q s k || (decide (w 7 k = q) && decide (ldv w k s < w 10 k))) := rfl
            have h3 : opk w q s (k + 1) = true := by rw [hs9, decide_eq_true (show w 7 k = q by omega), decide_eq_true (show ldv w k s < w 10 k by omega), Bool.and_true, Bool.or_true]
            exact ih (k + 1) _ (by first | decide | omega) l43_0 l43_1 l43_2 (by rw [if_pos h3]; exact l43_3) hl43
      · refine gx_1t (c := .ne) rfl (by first | decide | omega) hx73 rfl ?_
        refine ex_go (S := (102, l35, [.inl 1], t0, n, 0)) rfl (fun _ => rfl) rfl ?_
        refine ex_go (S := (106, l35, [.inl 1], t0, n, 0)) rfl (fun _ => rfl) rfl ?_
        refine gx_sto (i := 3) (d := 0) rfl (fun _ => rfl) rfl rfl (fun l44 hl44 ml44 => ?_)
        have l44_0 : en_ld l44 0 = some (gx_r 383) := ml44 0 _ l35_0 rfl
        have l44_1 : en_ld l44 1 = some (.inl q) := ml44 1 _ l35_1 rfl
        have l44_2 : en_ld l44 2 = some (.inl s) := ml44 2 _ l35_2 rfl
        have l44_4 : en_ld l44 4 = some (.inl k) := ml44 4 _ l35_4 rfl
        have l44_5 : en_ld l44 5 = some (.inl (94 + (4 * k))) := ml44 5 _ l35_5 rfl
        have l44_6 : en_ld l44 6 = some (.inl (en_wrap ((rmv s (w 9 k) (w 8 k)) + (w 8 k)))) := ml44 6 _ hl35 rfl
        refine gx_incS (i := 4) (a := k) (x := 1) rfl (fun _ => rfl) l44_4 (by first | decide | omega) rfl (fun l45 hl45 ml45 => ?_)
        have l45_0 : en_ld l45 0 = some (gx_r 383) := ml45 0 _ l44_0 rfl
        have l45_1 : en_ld l45 1 = some (.inl q) := ml45 1 _ l44_1 rfl
        have l45_2 : en_ld l45 2 = some (.inl s) := ml45 2 _ l44_2 rfl
        have l45_5 : en_ld l45 5 = some (.inl (94 + (4 * k))) := ml45 5 _ l44_5 rfl
        have l45_6 : en_ld l45 6 = some (.inl (en_wrap ((rmv s (w 9 k) (w 8 k)) + (w 8 k)))) := ml45 6 _ l44_6 rfl
        have l45_3 : en_ld l45 3 = some (.inl 1) := ml45 3 _ hl44 rfl
        refine ex_go (S := (5, l45, [], t0, n, 0)) rfl (fun _ => rfl) rfl ?_
        have hs9 : opk w q s (k + 1) = (opk w q s k || (decide (w 7 k = q) && decide (ldv w k s < w 10 k))) := rfl
        have ho : opk w q s k = true := by
          by_cases c9 : opk w q s k = true
          · exact c9
          · rw [if_neg c9] at hx73; exact absurd rfl hx73
        have h3 : opk w q s (k + 1) = true := by rw [hs9, ho, Bool.true_or]
        exact ih (k + 1) _ (by first | decide | omega) l45_0 l45_1 l45_2 (by rw [if_pos h3]; exact l45_3) hl45
theorem sr_isOpen (d n : Nat) {t0 : en_H} {w : Nat → Nat → Nat} {L : List Nat} {q s : Nat} (g0 : ai_HG ah_G t0) (hR : RW t0 w L) (hq : q < 64) (hs : s ≤ 1000000) : ∃ r, en_u (d + 1) 108 [gx_r 383, .inl q, .inl s] t0 n = some r ∧ r = (some (.inl (if opn w s q then 1 else 0)), t0, n, 0) := by
  refine en_u_ex rfl ?_
  show en_ex _ _ _ _ (0, [(0, gx_r 383), (1, .inl q), (2, .inl s)], [], t0, n, 0) _
  refine ex_go (S := (1, [(0, gx_r 383), (1, .inl q), (2, .inl s)], [.inl 0], t0, n, 0)) rfl (fun _ => rfl) rfl ?_
  refine ex_go (S := (2, [(3, .inl 0), (0, gx_r 383), (1, .inl q), (2, .inl s)], [], t0, n, 0)) rfl (fun _ => rfl) rfl ?_
  refine ex_go (S := (3, [(3, .inl 0), (0, gx_r 383), (1, .inl q), (2, .inl s)], [.inl 0], t0, n, 0)) rfl (fun _ => rfl) rfl ?_
  refine ex_go (S := (5, [(4, .inl 0), (3, .inl 0), (0, gx_r 383), (1, .inl q), (2, .inl s)], [], t0, n, 0)) rfl (fun _ => rfl) rfl ?_
  refine sr_open_l d n g0 hR hq hs (fun cl l3 => ?_) (w 0 3) 0 _ (by first | decide | omega) rfl rfl rfl rfl rfl
  have hb9 : (if opk w q s (w 0 3) then 1 else 0) ≤ 1 := by split <;> omega
  refine gx_ld (i := 3) (d := 0) (v := .inl ((if opk w q s (w 0 3) then 1 else 0))) rfl (fun _ => rfl) l3 rfl rfl ?_
  refine gx_retb rfl (by first | decide | omega) ?_
  exact ⟨_, rfl, rfl⟩
theorem sz_zero {x : Nat} (hx : x < 18446744073709551616) : (lN x).toInt = (lN 0).toInt ↔ x = 0 := by
  constructor
  · intro h
    have h2 := congrArg (fun v => v.toBitVec.toNat) (Int64.toInt_inj.mp h)
    have h3 : (lN x).toBitVec.toNat = (lN 0).toBitVec.toNat := h2
    rw [sz_lN, sz_lN, Nat.mod_eq_of_lt hx] at h3
    exact h3
  · intro h
    rw [h]
theorem sz_has {x k : Nat} (hk : k < 64) : (x &&& 2 ^ k = 0) ↔ x.testBit k = false := by
  constructor
  · intro h
    have h2 : (x &&& 2 ^ k).testBit k = false := by rw [h, Nat.zero_testBit]
    rw [Nat.testBit_and, Nat.testBit_two_pow, decide_eq_true (rfl : k = k), Bool.and_true] at h2
    exact h2
  · intro h
    apply Nat.eq_of_testBit_eq
    intro i
    rw [Nat.testBit_and, Nat.testBit_two_pow, Nat.zero_testBit]
    by_cases c : k = i
    · subst c; rw [h, Bool.false_and]
    · rw [decide_eq_false c, Bool.and_false]
theorem pz_has (d n : Nat) {t0 : en_H} {x k : Nat} (hx : x < 18446744073709551616) (hk : k < 64) : ∃ r, en_u (d + 2) 106 [.inr (.inl x), .inl k] t0 n = some r ∧ r = (some (.inl (if x.testBit k then 1 else 0)), t0, n, 0) := by
  have ha : x &&& 2 ^ k < 18446744073709551616 := Nat.lt_of_le_of_lt Nat.and_le_left hx
  refine en_u_ex (d := d + 1) rfl ?_
  show en_ex _ _ _ _ (0, [(0, .inr (.inl x)), (2, .inl k)], [], t0, n, 0) _
  refine ex_go (S := (1, [(0, .inr (.inl x)), (2, .inl k)], [.inr (.inl x)], t0, n, 0)) rfl (fun _ => rfl) rfl ?_
  refine ex_go (S := (2, [(0, .inr (.inl x)), (2, .inl k)], [.inl k, .inr (.inl x)], t0, n, 0)) rfl (fun _ => rfl) rfl ?_
  obtain ⟨_, r21, rfl⟩ := pz_bit (d) n (t0 := t0) (x := k) (by first | decide | omega)
  refine ex_stat rfl rfl rfl rfl rfl r21 (Nat.le_refl _) rfl ?_
  show en_ex _ _ _ _ (5, [(0, .inr (.inl x)), (2, .inl k)], [.inr (.inl (2 ^ k)), .inr (.inl x)], t0, n, 0) _
  refine ex_go (S := (6, [(0, .inr (.inl x)), (2, .inl k)], [.inr (.inl (en_land x (2 ^ k)))], t0, n, 0)) rfl (fun _ => rfl) rfl ?_
  rw [sz_land hx (sz_two hk)]
  refine ex_go (S := (7, [(0, .inr (.inl x)), (2, .inl k)], [.inr (.inl 0), .inr (.inl (x &&& 2 ^ k))], t0, n, 0)) rfl (fun _ => rfl) rfl ?_
  refine gx_lcmp rfl rfl (fun hl1 => ?_) (fun hl1 => ?_) (fun hl1 => ?_)
  · refine ex_go (S := (15, [(0, .inr (.inl x)), (2, .inl k)], [], t0, n, 0)) rfl (fun _ => rfl) rfl ?_
    refine ex_go (S := (16, [(0, .inr (.inl x)), (2, .inl k)], [.inl 0], t0, n, 0)) rfl (fun _ => rfl) rfl ?_
    refine ex_ret (r := (some (.inl 0), t0, n, 0)) rfl (fun _ => rfl) ?_
    have hb := (sz_has (x := x) hk).mp ((sz_zero ha).mp hl1)
    exact ⟨_, rfl, by rw [hb]; rfl⟩
  · refine ex_go (S := (11, [(0, .inr (.inl x)), (2, .inl k)], [], t0, n, 0)) rfl (fun _ => rfl) rfl ?_
    refine ex_go (S := (12, [(0, .inr (.inl x)), (2, .inl k)], [.inl 1], t0, n, 0)) rfl (fun _ => rfl) rfl ?_
    refine ex_go (S := (16, [(0, .inr (.inl x)), (2, .inl k)], [.inl 1], t0, n, 0)) rfl (fun _ => rfl) rfl ?_
    refine ex_ret (r := (some (.inl 1), t0, n, 0)) rfl (fun _ => rfl) ?_
    have hb : x.testBit k = true := by
      cases hb9 : x.testBit k with
      | true => rfl
      | false =>
        have h9 := (sz_zero ha).mpr ((sz_has (x := x) hk).mpr hb9)
        omega
    exact ⟨_, rfl, by rw [hb]; rfl⟩
  · refine ex_go (S := (11, [(0, .inr (.inl x)), (2, .inl k)], [], t0, n, 0)) rfl (fun _ => rfl) rfl ?_
    refine ex_go (S := (12, [(0, .inr (.inl x)), (2, .inl k)], [.inl 1], t0, n, 0)) rfl (fun _ => rfl) rfl ?_
    refine ex_go (S := (16, [(0, .inr (.inl x)), (2, .inl k)], [.inl 1], t0, n, 0)) rfl (fun _ => rfl) rfl ?_
    refine ex_ret (r := (some (.inl 1), t0, n, 0)) rfl (fun _ => rfl) ?_
    have hb : x.testBit k = true := by
      cases hb9 : x.testBit k with
      | true => rfl
      | false =>
        have h9 := (sz_zero ha).mpr ((sz_has (x := x) hk).mpr hb9)
        omega
    exact ⟨_, rfl, by rw [hb]; rfl⟩
theorem sc_open_l191 (d n : Nat) {t0 : en_H} {w : Nat → Nat → Nat} {L : List Nat} {s : Nat} {Q : en_O → Prop} (g0 : ai_HG ah_G t0) (hC : CW t0 191 w L) (hw : WS w) (hs : s ≤ 1000000) (hQ : ∀ cl x, bts x (fun q => opk w q s (w 0 3)) → en_ld cl 2 = some (.inr (.inl x)) → en_ex none (en_u (d + 1)) (en_code 105) (fun _ => false) (86, cl, [], t0, n, 0) Q) : ∀ j k cl x, k + j = w 0 3 → bts x (fun q => opk w q s k) → en_ld cl 0 = some (gx_r 191) → en_ld cl 1 = some (.inl s) → en_ld cl 2 = some (.inr (.inl x)) → en_ld cl 4 = some (.inl k) → en_ex none (en_u (d + 1)) (en_code 105) (fun _ => false) (5, cl, [], t0, n, 0) Q := by
  have kN := hC.1.2.2.2.2.1
  have hN := hw.1.2.2.2.1
  intro j
  induction j with
  | zero =>
    intro k cl x hk hx l0 l1 l2 l4
    have hk : k = w 0 3 := by omega
    rw [hk] at hx l4
    refine gx_ld (i := 4) (d := 0) (v := .inl (w 0 3)) rfl (fun _ => rfl) l4 rfl rfl ?_
    refine gx_ld (i := 0) (d := 2) (v := gx_r 191) rfl (fun _ => rfl) l0 rfl rfl ?_
    refine gxo_ref (a := 191) (c := 200) rfl g0 rfl rfl rfl rfl rfl ?_
    refine gxo_get (a := 200) rfl g0 rfl rfl kN rfl ?_
    refine gx_2t (c := .ge) rfl (by first | decide | omega) (by first | decide | omega) (show w 0 3 ≤ w 0 3 from by omega) rfl ?_
    exact hQ _ _ hx l2
  | succ j ih =>
    intro k cl x hk hx l0 l1 l2 l4
    obtain ⟨k7, k8, k9, k10⟩ := hC.2.2.2.2.1 k (by first | decide | omega)
    obtain ⟨h7, ⟨h81, h82⟩, h9, h10⟩ := hw.2.2.2 k (by first | decide | omega)
    have hlv : ldv w k s = (s + 30 * w 8 k - w 9 k) % w 8 k := rfl
    have hll := ldv_lt (w := w) (k := k) (s := s) h81 h82
    have hx64 := hx.1
    have hs9 : ∀ q, opk w q s (k + 1) = (opk w q s k || (decide (w 7 k = q) && decide (ldv w k s < w 10 k))) := fun q => rfl
    refine gx_ld (i := 4) (d := 0) (v := .inl k) rfl (fun _ => rfl) l4 rfl rfl ?_
    refine gx_ld (i := 0) (d := 2) (v := gx_r 191) rfl (fun _ => rfl) l0 rfl rfl ?_
    refine gxo_ref (a := 191) (c := 200) rfl g0 rfl rfl rfl rfl rfl ?_
    refine gxo_get (a := 200) rfl g0 rfl rfl kN rfl ?_
    refine gx_2f (c := .ge) rfl (by first | decide | omega) (by first | decide | omega) (show ¬ (w 0 3 ≤ k) from by omega) rfl ?_
    refine gx_ld (i := 0) (d := 2) (v := gx_r 191) rfl (fun _ => rfl) l0 rfl rfl ?_
    refine gxo_ref (a := 191) (c := 200) rfl g0 rfl rfl rfl rfl rfl ?_
    refine gxo_ref (a := 200) (c := 203) rfl g0 rfl rfl rfl rfl rfl ?_
    refine gx_ld (i := 4) (d := 0) (v := .inl k) rfl (fun _ => rfl) l4 rfl rfl ?_
    refine gx_ag (v := .inl (w 8 k)) (cb := fun c => Nat.beq c 0) rfl (fun _ => rfl) g0 rfl rfl k8 (by first | decide | omega) rfl ?_
    refine gx_sto (i := 5) (d := 0) rfl (fun _ => rfl) rfl rfl (fun l21 hl21 ml21 => ?_)
    have l21_0 : en_ld l21 0 = some (gx_r 191) := ml21 0 _ l0 rfl
    have l21_1 : en_ld l21 1 = some (.inl s) := ml21 1 _ l1 rfl
    have l21_2 : en_ld l21 2 = some (.inr (.inl x)) := ml21 2 _ l2 rfl
    have l21_4 : en_ld l21 4 = some (.inl k) := ml21 4 _ l4 rfl
    refine gx_ld (i := 5) (d := 0) (v := .inl (w 8 k)) rfl (fun _ => rfl) hl21 rfl rfl ?_
    refine gx_1f (c := .le) rfl (by first | decide | omega) (show ¬ (w 8 k ≤ 0) from by omega) rfl ?_
    refine gx_ld (i := 1) (d := 0) (v := .inl s) rfl (fun _ => rfl) l21_1 rfl rfl ?_
    refine gx_ld (i := 0) (d := 2) (v := gx_r 191) rfl (fun _ => rfl) l21_0 rfl rfl ?_
    refine gxo_ref (a := 191) (c := 200) rfl g0 rfl rfl rfl rfl rfl ?_
    refine gxo_ref (a := 200) (c := 204) rfl g0 rfl rfl rfl rfl rfl ?_
    refine gx_ld (i := 4) (d := 0) (v := .inl k) rfl (fun _ => rfl) l21_4 rfl rfl ?_
    refine gx_ag (v := .inl (w 9 k)) (cb := fun c => Nat.beq c 0) rfl (fun _ => rfl) g0 rfl rfl k9 (by first | decide | omega) rfl ?_
    refine gx_isubo rfl (sz_isub hs h9) rfl ?_
    refine gx_ld (i := 5) (d := 0) (v := .inl (w 8 k)) rfl (fun _ => rfl) hl21 rfl rfl ?_
    obtain ⟨_, r22, rfl⟩ := pz_floorMod d n (t0 := t0) (s := s) (f := w 9 k) (r := w 8 k) hs h9 h81 h82
    rw [← hlv] at r22
    refine ex_stat rfl rfl rfl rfl rfl r22 (Nat.le_refl _) rfl ?_
    show en_ex _ _ _ _ (51, l21, [.inl (ldv w k s)], t0, n, 0) _
    refine gx_ld (i := 0) (d := 2) (v := gx_r 191) rfl (fun _ => rfl) l21_0 rfl rfl ?_
    refine gxo_ref (a := 191) (c := 200) rfl g0 rfl rfl rfl rfl rfl ?_
    refine gxo_ref (a := 200) (c := 205) rfl g0 rfl rfl rfl rfl rfl ?_
    refine gx_ld (i := 4) (d := 0) (v := .inl k) rfl (fun _ => rfl) l21_4 rfl rfl ?_
    refine gx_ag (v := .inl (w 10 k)) (cb := fun c => Nat.beq c 0) rfl (fun _ => rfl) g0 rfl rfl k10 (by first | decide | omega) rfl ?_
    by_cases hc23 : w 10 k ≤ ldv w k s
    · refine gx_2t (c := .ge) rfl (by first | decide | omega) (by first | decide | omega) hc23 rfl ?_
      refine gx_incS (i := 4) (a := k) (x := 1) rfl (fun _ => rfl) l21_4 (by first | decide | omega) rfl (fun l24 hl24 ml24 => ?_)
      have l24_0 : en_ld l24 0 = some (gx_r 191) := ml24 0 _ l21_0 rfl
      have l24_1 : en_ld l24 1 = some (.inl s) := ml24 1 _ l21_1 rfl
      have l24_2 : en_ld l24 2 = some (.inr (.inl x)) := ml24 2 _ l21_2 rfl
      have l24_5 : en_ld l24 5 = some (.inl (w 8 k)) := ml24 5 _ hl21 rfl
      refine ex_go (S := (5, l24, [], t0, n, 0)) rfl (fun _ => rfl) rfl ?_
      exact ih (k + 1) _ x (by first | decide | omega) (bts_mk hx.1 (fun q hq => by rw [bts_at hx hq, hs9 q, decide_eq_false (show ¬ ldv w k s < w 10 k by omega), Bool.and_false, Bool.or_false])) l24_0 l24_1 l24_2 hl24
    · refine gx_2f (c := .ge) rfl (by first | decide | omega) (by first | decide | omega) hc23 rfl ?_
      refine gx_ld (i := 2) (d := 1) (v := .inr (.inl x)) rfl (fun _ => rfl) l21_2 rfl rfl ?_
      refine gx_ld (i := 0) (d := 2) (v := gx_r 191) rfl (fun _ => rfl) l21_0 rfl rfl ?_
      refine gxo_ref (a := 191) (c := 200) rfl g0 rfl rfl rfl rfl rfl ?_
      refine gxo_ref (a := 200) (c := 202) rfl g0 rfl rfl rfl rfl rfl ?_
      refine gx_ld (i := 4) (d := 0) (v := .inl k) rfl (fun _ => rfl) l21_4 rfl rfl ?_
      refine gx_ag (v := .inl (w 7 k)) (cb := fun c => Nat.beq c 0) rfl (fun _ => rfl) g0 rfl rfl k7 (by first | decide | omega) rfl ?_
      obtain ⟨_, r25, rfl⟩ := pz_bit (d) n (t0 := t0) (x := w 7 k) (by first | decide | omega)
      refine ex_stat rfl rfl rfl rfl rfl r25 (Nat.le_refl _) rfl ?_
      show en_ex _ _ _ _ (78, l21, [.inr (.inl (2 ^ (w 7 k))), .inr (.inl x)], t0, n, 0) _
      refine ex_go (S := (79, l21, [.inr (.inl (en_lor x (2 ^ (w 7 k))))], t0, n, 0)) rfl (fun _ => rfl) rfl ?_
      rw [sz_lor (by first | decide | omega) (sz_two (by first | decide | omega))]
      refine gx_sto (i := 2) (d := 1) rfl (fun _ => rfl) rfl rfl (fun l26 hl26 ml26 => ?_)
      have l26_0 : en_ld l26 0 = some (gx_r 191) := ml26 0 _ l21_0 rfl
      have l26_1 : en_ld l26 1 = some (.inl s) := ml26 1 _ l21_1 rfl
      have l26_4 : en_ld l26 4 = some (.inl k) := ml26 4 _ l21_4 rfl
      have l26_5 : en_ld l26 5 = some (.inl (w 8 k)) := ml26 5 _ hl21 rfl
      refine gx_incS (i := 4) (a := k) (x := 1) rfl (fun _ => rfl) l26_4 (by first | decide | omega) rfl (fun l27 hl27 ml27 => ?_)
      have l27_0 : en_ld l27 0 = some (gx_r 191) := ml27 0 _ l26_0 rfl
      have l27_1 : en_ld l27 1 = some (.inl s) := ml27 1 _ l26_1 rfl
      have l27_5 : en_ld l27 5 = some (.inl (w 8 k)) := ml27 5 _ l26_5 rfl
      have l27_2 : en_ld l27 2 = some (.inr (.inl (x ||| (2 ^ (w 7 k))))) := ml27 2 _ hl26 rfl
      refine ex_go (S := (5, l27, [], t0, n, 0)) rfl (fun _ => rfl) rfl ?_
      exact ih (k + 1) _ _ (by first | decide | omega) (bts_or hx (by first | decide | omega) (fun q hq => by rw [hs9 q, decide_eq_true (show ldv w k s < w 10 k by omega), Bool.and_true])) l27_0 l27_1 l27_2 hl27
theorem sc_openLeads191 (d n : Nat) {t0 : en_H} {w : Nat → Nat → Nat} {L : List Nat} {s : Nat} (g0 : ai_HG ah_G t0) (hC : CW t0 191 w L) (hw : WS w) (hs : s ≤ 1000000) : ∃ r, en_u (d + 2) 105 [gx_r 191, .inl s] t0 n = some r ∧ ∃ x, r = (some (.inr (.inl x)), t0, n, 0) ∧ bts x (opn w s) := by
  refine en_u_ex (d := d + 1) rfl ?_
  show en_ex _ _ _ _ (0, [(0, gx_r 191), (1, .inl s)], [], t0, n, 0) _
  refine ex_go (S := (1, [(0, gx_r 191), (1, .inl s)], [.inr (.inl 0)], t0, n, 0)) rfl (fun _ => rfl) rfl ?_
  refine ex_go (S := (2, [(2, .inr (.inl 0)), (0, gx_r 191), (1, .inl s)], [], t0, n, 0)) rfl (fun _ => rfl) rfl ?_
  refine ex_go (S := (3, [(2, .inr (.inl 0)), (0, gx_r 191), (1, .inl s)], [.inl 0], t0, n, 0)) rfl (fun _ => rfl) rfl ?_
  refine ex_go (S := (5, [(4, .inl 0), (2, .inr (.inl 0)), (0, gx_r 191), (1, .inl s)], [], t0, n, 0)) rfl (fun _ => rfl) rfl ?_
  refine sc_open_l191 d n g0 hC hw hs (fun cl x hx l2 => ?_) (w 0 3) 0 _ 0 (by first | decide | omega) (bts_mk (by decide) (fun q hq => Nat.zero_testBit q)) rfl rfl rfl rfl
  refine gx_ld (i := 2) (d := 1) (v := .inr (.inl x)) rfl (fun _ => rfl) l2 rfl rfl ?_
  refine ex_ret (r := (some (.inr (.inl x)), t0, n, 0)) rfl (fun _ => rfl) ?_
  exact ⟨_, rfl, x, rfl, hx⟩
theorem sc_open_l257 (d n : Nat) {t0 : en_H} {w : Nat → Nat → Nat} {L : List Nat} {s : Nat} {Q : en_O → Prop} (g0 : ai_HG ah_G t0) (hC : CW t0 257 w L) (hw : WS w) (hs : s ≤ 1000000) (hQ : ∀ cl x, bts x (fun q => opk w q s (w 0 3)) → en_ld cl 2 = some (.inr (.inl x)) → en_ex none (en_u (d + 1)) (en_code 105) (fun _ => false) (86, cl, [], t0, n, 0) Q) : ∀ j k cl x, k + j = w 0 3 → bts x (fun q => opk w q s k) → en_ld cl 0 = some (gx_r 257) → en_ld cl 1 = some (.inl s) → en_ld cl 2 = some (.inr (.inl x)) → en_ld cl 4 = some (.inl k) → en_ex none (en_u (d + 1)) (en_code 105) (fun _ => false) (5, cl, [], t0, n, 0) Q := by
  have kN := hC.1.2.2.2.2.1
  have hN := hw.1.2.2.2.1
  intro j
  induction j with
  | zero =>
    intro k cl x hk hx l0 l1 l2 l4
    have hk : k = w 0 3 := by omega
    rw [hk] at hx l4
    refine gx_ld (i := 4) (d := 0) (v := .inl (w 0 3)) rfl (fun _ => rfl) l4 rfl rfl ?_
    refine gx_ld (i := 0) (d := 2) (v := gx_r 257) rfl (fun _ => rfl) l0 rfl rfl ?_
    refine gxo_ref (a := 257) (c := 266) rfl g0 rfl rfl rfl rfl rfl ?_
    refine gxo_get (a := 266) rfl g0 rfl rfl kN rfl ?_
    refine gx_2t (c := .ge) rfl (by first | decide | omega) (by first | decide | omega) (show w 0 3 ≤ w 0 3 from by omega) rfl ?_
    exact hQ _ _ hx l2
  | succ j ih =>
    intro k cl x hk hx l0 l1 l2 l4
    obtain ⟨k7, k8, k9, k10⟩ := hC.2.2.2.2.1 k (by first | decide | omega)
    obtain ⟨h7, ⟨h81, h82⟩, h9, h10⟩ := hw.2.2.2 k (by first | decide | omega)
    have hlv : ldv w k s = (s + 30 * w 8 k - w 9 k) % w 8 k := rfl
    have hll := ldv_lt (w := w) (k := k) (s := s) h81 h82
    have hx64 := hx.1
    have hs9 : ∀ q, opk w q s (k + 1) = (opk w q s k || (decide (w 7 k = q) && decide (ldv w k s < w 10 k))) := fun q => rfl
    refine gx_ld (i := 4) (d := 0) (v := .inl k) rfl (fun _ => rfl) l4 rfl rfl ?_
    refine gx_ld (i := 0) (d := 2) (v := gx_r 257) rfl (fun _ => rfl) l0 rfl rfl ?_
    refine gxo_ref (a := 257) (c := 266) rfl g0 rfl rfl rfl rfl rfl ?_
    refine gxo_get (a := 266) rfl g0 rfl rfl kN rfl ?_
    refine gx_2f (c := .ge) rfl (by first | decide | omega) (by first | decide | omega) (show ¬ (w 0 3 ≤ k) from by omega) rfl ?_
    refine gx_ld (i := 0) (d := 2) (v := gx_r 257) rfl (fun _ => rfl) l0 rfl rfl ?_
    refine gxo_ref (a := 257) (c := 266) rfl g0 rfl rfl rfl rfl rfl ?_
    refine gxo_ref (a := 266) (c := 269) rfl g0 rfl rfl rfl rfl rfl ?_
    refine gx_ld (i := 4) (d := 0) (v := .inl k) rfl (fun _ => rfl) l4 rfl rfl ?_
    refine gx_ag (v := .inl (w 8 k)) (cb := fun c => Nat.beq c 0) rfl (fun _ => rfl) g0 rfl rfl k8 (by first | decide | omega) rfl ?_
    refine gx_sto (i := 5) (d := 0) rfl (fun _ => rfl) rfl rfl (fun l21 hl21 ml21 => ?_)
    have l21_0 : en_ld l21 0 = some (gx_r 257) := ml21 0 _ l0 rfl
    have l21_1 : en_ld l21 1 = some (.inl s) := ml21 1 _ l1 rfl
    have l21_2 : en_ld l21 2 = some (.inr (.inl x)) := ml21 2 _ l2 rfl
    have l21_4 : en_ld l21 4 = some (.inl k) := ml21 4 _ l4 rfl
    refine gx_ld (i := 5) (d := 0) (v := .inl (w 8 k)) rfl (fun _ => rfl) hl21 rfl rfl ?_
    refine gx_1f (c := .le) rfl (by first | decide | omega) (show ¬ (w 8 k ≤ 0) from by omega) rfl ?_
    refine gx_ld (i := 1) (d := 0) (v := .inl s) rfl (fun _ => rfl) l21_1 rfl rfl ?_
    refine gx_ld (i := 0) (d := 2) (v := gx_r 257) rfl (fun _ => rfl) l21_0 rfl rfl ?_
    refine gxo_ref (a := 257) (c := 266) rfl g0 rfl rfl rfl rfl rfl ?_
    refine gxo_ref (a := 266) (c := 270) rfl g0 rfl rfl rfl rfl rfl ?_
    refine gx_ld (i := 4) (d := 0) (v := .inl k) rfl (fun _ => rfl) l21_4 rfl rfl ?_
    refine gx_ag (v := .inl (w 9 k)) (cb := fun c => Nat.beq c 0) rfl (fun _ => rfl) g0 rfl rfl k9 (by first | decide | omega) rfl ?_
    refine gx_isubo rfl (sz_isub hs h9) rfl ?_
    refine gx_ld (i := 5) (d := 0) (v := .inl (w 8 k)) rfl (fun _ => rfl) hl21 rfl rfl ?_
    obtain ⟨_, r22, rfl⟩ := pz_floorMod d n (t0 := t0) (s := s) (f := w 9 k) (r := w 8 k) hs h9 h81 h82
    rw [← hlv] at r22
    refine ex_stat rfl rfl rfl rfl rfl r22 (Nat.le_refl _) rfl ?_
    show en_ex _ _ _ _ (51, l21, [.inl (ldv w k s)], t0, n, 0) _
    refine gx_ld (i := 0) (d := 2) (v := gx_r 257) rfl (fun _ => rfl) l21_0 rfl rfl ?_
    refine gxo_ref (a := 257) (c := 266) rfl g0 rfl rfl rfl rfl rfl ?_
    refine gxo_ref (a := 266) (c := 271) rfl g0 rfl rfl rfl rfl rfl ?_
    refine gx_ld (i := 4) (d := 0) (v := .inl k) rfl (fun _ => rfl) l21_4 rfl rfl ?_
    refine gx_ag (v := .inl (w 10 k)) (cb := fun c => Nat.beq c 0) rfl (fun _ => rfl) g0 rfl rfl k10 (by first | decide | omega) rfl ?_
    by_cases hc23 : w 10 k ≤ ldv w k s
    · refine gx_2t (c := .ge) rfl (by first | decide | omega) (by first | decide | omega) hc23 rfl ?_
      refine gx_incS (i := 4) (a := k) (x := 1) rfl (fun _ => rfl) l21_4 (by first | decide | omega) rfl (fun l24 hl24 ml24 => ?_)
      have l24_0 : en_ld l24 0 = some (gx_r 257) := ml24 0 _ l21_0 rfl
      have l24_1 : en_ld l24 1 = some (.inl s) := ml24 1 _ l21_1 rfl
      have l24_2 : en_ld l24 2 = some (.inr (.inl x)) := ml24 2 _ l21_2 rfl
      have l24_5 : en_ld l24 5 = some (.inl (w 8 k)) := ml24 5 _ hl21 rfl
      refine ex_go (S := (5, l24, [], t0, n, 0)) rfl (fun _ => rfl) rfl ?_
      exact ih (k + 1) _ x (by first | decide | omega) (bts_mk hx.1 (fun q hq => by rw [bts_at hx hq, hs9 q, decide_eq_false (show ¬ ldv w k s < w 10 k by omega), Bool.and_false, Bool.or_false])) l24_0 l24_1 l24_2 hl24
    · refine gx_2f (c := .ge) rfl (by first | decide | omega) (by first | decide | omega) hc23 rfl ?_
      refine gx_ld (i := 2) (d := 1) (v := .inr (.inl x)) rfl (fun _ => rfl) l21_2 rfl rfl ?_
      refine gx_ld (i := 0) (d := 2) (v := gx_r 257) rfl (fun _ => rfl) l21_0 rfl rfl ?_
      refine gxo_ref (a := 257) (c := 266) rfl g0 rfl rfl rfl rfl rfl ?_
      refine gxo_ref (a := 266) (c := 268) rfl g0 rfl rfl rfl rfl rfl ?_
      refine gx_ld (i := 4) (d := 0) (v := .inl k) rfl (fun _ => rfl) l21_4 rfl rfl ?_
      refine gx_ag (v := .inl (w 7 k)) (cb := fun c => Nat.beq c 0) rfl (fun _ => rfl) g0 rfl rfl k7 (by first | decide | omega) rfl ?_
      obtain ⟨_, r25, rfl⟩ := pz_bit (d) n (t0 := t0) (x := w 7 k) (by first | decide | omega)
      refine ex_stat rfl rfl rfl rfl rfl r25 (Nat.le_refl _) rfl ?_
      show en_ex _ _ _ _ (78, l21, [.inr (.inl (2 ^ (w 7 k))), .inr (.inl x)], t0, n, 0) _
      refine ex_go (S := (79, l21, [.inr (.inl (en_lor x (2 ^ (w 7 k))))], t0, n, 0)) rfl (fun _ => rfl) rfl ?_
      rw [sz_lor (by first | decide | omega) (sz_two (by first | decide | omega))]
      refine gx_sto (i := 2) (d := 1) rfl (fun _ => rfl) rfl rfl (fun l26 hl26 ml26 => ?_)
      have l26_0 : en_ld l26 0 = some (gx_r 257) := ml26 0 _ l21_0 rfl
      have l26_1 : en_ld l26 1 = some (.inl s) := ml26 1 _ l21_1 rfl
      have l26_4 : en_ld l26 4 = some (.inl k) := ml26 4 _ l21_4 rfl
      have l26_5 : en_ld l26 5 = some (.inl (w 8 k)) := ml26 5 _ hl21 rfl
      refine gx_incS (i := 4) (a := k) (x := 1) rfl (fun _ => rfl) l26_4 (by first | decide | omega) rfl (fun l27 hl27 ml27 => ?_)
      have l27_0 : en_ld l27 0 = some (gx_r 257) := ml27 0 _ l26_0 rfl
      have l27_1 : en_ld l27 1 = some (.inl s) := ml27 1 _ l26_1 rfl
      have l27_5 : en_ld l27 5 = some (.inl (w 8 k)) := ml27 5 _ l26_5 rfl
      have l27_2 : en_ld l27 2 = some (.inr (.inl (x ||| (2 ^ (w 7 k))))) := ml27 2 _ hl26 rfl
      refine ex_go (S := (5, l27, [], t0, n, 0)) rfl (fun _ => rfl) rfl ?_
      exact ih (k + 1) _ _ (by first | decide | omega) (bts_or hx (by first | decide | omega) (fun q hq => by rw [hs9 q, decide_eq_true (show ldv w k s < w 10 k by omega), Bool.and_true])) l27_0 l27_1 l27_2 hl27
theorem sc_openLeads257 (d n : Nat) {t0 : en_H} {w : Nat → Nat → Nat} {L : List Nat} {s : Nat} (g0 : ai_HG ah_G t0) (hC : CW t0 257 w L) (hw : WS w) (hs : s ≤ 1000000) : ∃ r, en_u (d + 2) 105 [gx_r 257, .inl s] t0 n = some r ∧ ∃ x, r = (some (.inr (.inl x)), t0, n, 0) ∧ bts x (opn w s) := by
  refine en_u_ex (d := d + 1) rfl ?_
  show en_ex _ _ _ _ (0, [(0, gx_r 257), (1, .inl s)], [], t0, n, 0) _
  refine ex_go (S := (1, [(0, gx_r 257), (1, .inl s)], [.inr (.inl 0)], t0, n, 0)) rfl (fun _ => rfl) rfl ?_
  refine ex_go (S := (2, [(2, .inr (.inl 0)), (0, gx_r 257), (1, .inl s)], [], t0, n, 0)) rfl (fun _ => rfl) rfl ?_
  refine ex_go (S := (3, [(2, .inr (.inl 0)), (0, gx_r 257), (1, .inl s)], [.inl 0], t0, n, 0)) rfl (fun _ => rfl) rfl ?_
  refine ex_go (S := (5, [(4, .inl 0), (2, .inr (.inl 0)), (0, gx_r 257), (1, .inl s)], [], t0, n, 0)) rfl (fun _ => rfl) rfl ?_
  refine sc_open_l257 d n g0 hC hw hs (fun cl x hx l2 => ?_) (w 0 3) 0 _ 0 (by first | decide | omega) (bts_mk (by decide) (fun q hq => Nat.zero_testBit q)) rfl rfl rfl rfl
  refine gx_ld (i := 2) (d := 1) (v := .inr (.inl x)) rfl (fun _ => rfl) l2 rfl rfl ?_
  refine ex_ret (r := (some (.inr (.inl x)), t0, n, 0)) rfl (fun _ => rfl) ?_
  exact ⟨_, rfl, x, rfl, hx⟩
end SSH
