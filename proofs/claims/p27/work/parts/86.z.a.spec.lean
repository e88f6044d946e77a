section SPA
/-! ### what the tokens of a tape are: S the signs, len how many -/
noncomputable def sp_bl (g : Nat) : Bool := Nat.beq g 10 || Nat.beq g 32
noncomputable def sp_le (g : Nat) : Bool := Nat.ble 97 g && Nat.ble g 122
noncomputable def sp_di (g : Nat) : Bool := Nat.ble 48 g && Nat.ble g 57
noncomputable def sp_si (g : Nat) : Bool := Nat.beq g 40 || Nat.beq g 41 || Nat.beq g 59 || Nat.beq g 61 || Nat.beq g 60 || Nat.beq g 43 || Nat.beq g 45 || Nat.beq g 42
/-- from k on, as long as P holds -/
noncomputable def sp_rf (S : Nat → Nat) (P : Nat → Bool) : Nat → Nat → Nat
  | 0, k => k
  | f + 1, k => bif P (S k) then sp_rf S P f (k + 1) else k
noncomputable def sp_rn (S : Nat → Nat) (P : Nat → Bool) (len k : Nat) : Nat := sp_rf S P (len - k) k
theorem sp_rn_end (S : Nat → Nat) (P : Nat → Bool) {len k : Nat} (h : len ≤ k) : sp_rn S P len k = k := by
  unfold sp_rn
  rw [show len - k = 0 by omega]
  rfl
theorem sp_rn_t {S : Nat → Nat} {P : Nat → Bool} {len k : Nat} (h : k < len) (hp : P (S k) = true) : sp_rn S P len k = sp_rn S P len (k + 1) := by
  unfold sp_rn
  rw [show len - k = (len - (k + 1)) + 1 by omega]
  show (bif P (S k) then _ else _) = _
  rw [hp]
  rfl
theorem sp_rn_f {S : Nat → Nat} {P : Nat → Bool} {len k : Nat} (hp : P (S k) = false) : sp_rn S P len k = k := by
  unfold sp_rn
  cases len - k with
  | zero => rfl
  | succ f =>
    show (bif P (S k) then _ else _) = _
    rw [hp]
    rfl
theorem sp_rf_le (S : Nat → Nat) (P : Nat → Bool) : ∀ f k, k ≤ sp_rf S P f k ∧ sp_rf S P f k ≤ k + f
  | 0, k => ⟨Nat.le_refl _, Nat.le_refl _⟩
  | f + 1, k => by
    show k ≤ (bif P (S k) then sp_rf S P f (k + 1) else k) ∧ (bif P (S k) then sp_rf S P f (k + 1) else k) ≤ k + (f + 1)
    cases P (S k) with
    | false => exact ⟨Nat.le_refl _, by show k ≤ _; omega⟩
    | true =>
      have := sp_rf_le S P f (k + 1)
      exact ⟨by show k ≤ sp_rf S P f (k + 1); omega, by show sp_rf S P f (k + 1) ≤ _; omega⟩
theorem sp_rn_le (S : Nat → Nat) (P : Nat → Bool) {len k : Nat} (h : k ≤ len) : k ≤ sp_rn S P len k ∧ sp_rn S P len k ≤ len := by
  have := sp_rf_le S P (len - k) k
  unfold sp_rn
  omega
/-- the next place that is no blank -/
noncomputable def sp_nx (S : Nat → Nat) (len k : Nat) : Nat := sp_rn S sp_bl len k
/-- where the token that begins at p ends -/
noncomputable def sp_te (S : Nat → Nat) (len p : Nat) : Nat := bif sp_le (S p) then sp_rn S sp_le len p else bif sp_di (S p) then sp_rn S sp_di len p else p + 1
/-- where the token j begins -/
noncomputable def sp_st (S : Nat → Nat) (len : Nat) : Nat → Nat
  | 0 => sp_nx S len 0
  | j + 1 => sp_nx S len (sp_te S len (sp_st S len j))
/-- of what sort it is: 1 a word, 2 a number, 3 a sign, 4 none of them -/
noncomputable def sp_ty (S : Nat → Nat) (len p : Nat) : Nat := bif sp_le (S p) then (bif Nat.ble (sp_rn S sp_le len p - p) 8 then 1 else 4) else bif sp_di (S p) then (bif Nat.ble (sp_rn S sp_di len p - p) 4 then 2 else 4) else bif sp_si (S p) then 3 else 4
theorem sp_te_gt {S : Nat → Nat} {len p : Nat} (h : p < len) : p < sp_te S len p ∧ sp_te S len p ≤ len := by
  unfold sp_te
  cases h1 : sp_le (S p) with
  | true =>
    show p < sp_rn S sp_le len p ∧ sp_rn S sp_le len p ≤ len
    rw [sp_rn_t h h1]
    have := sp_rn_le S sp_le (len := len) (k := p + 1) (by first | decide | omega)
    omega
  | false =>
    cases h2 : sp_di (S p) with
    | true =>
      show p < sp_rn S sp_di len p ∧ sp_rn S sp_di len p ≤ len
      rw [sp_rn_t h h2]
      have := sp_rn_le S sp_di (len := len) (k := p + 1) (by first | decide | omega)
      omega
    | false =>
      show p < p + 1 ∧ p + 1 ≤ len
      omega
end SPA
section SPB
/-- n signs from p on, read to the base b, each less by c -/
noncomputable def sp_hv (S : Nat → Nat) (p b c : Nat) : Nat → Nat
  | 0 => 0
  | n + 1 => b * sp_hv S p b c n + (S (p + n) - c)
theorem sp_hv_lt {S : Nat → Nat} {p b c : Nat} : ∀ {n : Nat}, (∀ j, j < n → S (p + j) - c < b) → sp_hv S p b c n < b ^ n
  | 0, _ => Nat.one_pos
  | n + 1, h => by
    have h1 := sp_hv_lt (n := n) (fun j hj => h j (by first | decide | omega))
    have h2 := h n (by first | decide | omega)
    show b * sp_hv S p b c n + (S (p + n) - c) < b ^ (n + 1)
    calc b * sp_hv S p b c n + (S (p + n) - c) < b * sp_hv S p b c n + b := by omega
      _ = b * (sp_hv S p b c n + 1) := by rw [Nat.mul_add, Nat.mul_one]
      _ ≤ b * b ^ n := Nat.mul_le_mul_left _ h1
      _ = b ^ (n + 1) := by rw [Nat.pow_succ, Nat.mul_comm]
/-- two readings of the same length agree only if the signs do -/
theorem sp_hv_inj {S : Nat → Nat} {p q b c : Nat} : ∀ {n : Nat}, (∀ j, j < n → c ≤ S (p + j) ∧ S (p + j) - c < b) → (∀ j, j < n → c ≤ S (q + j) ∧ S (q + j) - c < b) → sp_hv S p b c n = sp_hv S q b c n → ∀ j, j < n → S (p + j) = S (q + j)
  | 0, _, _, _, j, hj => by omega
  | n + 1, h1, h2, h, j, hj => by
    have a1 := h1 n (by first | decide | omega)
    have a2 := h2 n (by first | decide | omega)
    have h : b * sp_hv S p b c n + (S (p + n) - c) = b * sp_hv S q b c n + (S (q + n) - c) := h
    have e1 : S (p + n) - c = S (q + n) - c := by
      have := congrArg (· % b) h
      simp only [Nat.mul_add_mod] at this
      rwa [Nat.mod_eq_of_lt a1.2, Nat.mod_eq_of_lt a2.2] at this
    have e2 : sp_hv S p b c n = sp_hv S q b c n := by
      have hb : 0 < b := by omega
      have := congrArg (· / b) h
      simp only [Nat.mul_add_div hb] at this
      rwa [Nat.div_eq_of_lt a1.2, Nat.div_eq_of_lt a2.2, Nat.add_zero, Nat.add_zero] at this
    by_cases c9 : j = n
    · subst c9; omega
    · exact sp_hv_inj (fun j hj => h1 j (by first | decide | omega)) (fun j hj => h2 j (by first | decide | omega)) e2 j (by first | decide | omega)
theorem sp_hv_eq {S : Nat → Nat} {p q b c : Nat} : ∀ {n : Nat}, (∀ j, j < n → S (p + j) = S (q + j)) → sp_hv S p b c n = sp_hv S q b c n
  | 0, _ => rfl
  | n + 1, h => by
    show b * sp_hv S p b c n + (S (p + n) - c) = b * sp_hv S q b c n + (S (q + n) - c)
    rw [sp_hv_eq (fun j hj => h j (by first | decide | omega)), h n (by first | decide | omega)]
/-- what the reference keeps of the token that begins at p -/
noncomputable def sp_vR (S : Nat → Nat) (len p : Nat) : Nat := bif sp_le (S p) then sp_hv S p 37 96 (min (sp_rn S sp_le len p - p) 8) else bif sp_di (S p) then sp_hv S p 10 48 (min (sp_rn S sp_di len p - p) 4) else S p
end SPB
