section SPG
/-! ### a reading to a base, of digits that are none of them 0, tells them all -/
noncomputable def sp_dv (f : Nat → Nat) (b : Nat) : Nat → Nat
  | 0 => 0
  | n + 1 => b * sp_dv f b n + f n
theorem sp_dv_pos {f : Nat → Nat} {b n : Nat} (h : ∀ j, j < n + 1 → 1 ≤ f j) : 1 ≤ sp_dv f b (n + 1) := by
  have := h n (by first | decide | omega)
  show 1 ≤ b * sp_dv f b n + f n
  omega
theorem sp_dv_inj {f g : Nat → Nat} {b : Nat} : ∀ {n m : Nat}, (∀ j, j < n → 1 ≤ f j ∧ f j < b) → (∀ j, j < m → 1 ≤ g j ∧ g j < b) → sp_dv f b n = sp_dv g b m → n = m ∧ ∀ j, j < n → f j = g j
  | 0, 0, _, _, _ => ⟨rfl, fun j hj => by omega⟩
  | 0, m + 1, _, h2, h => by
    have := sp_dv_pos (b := b) (fun j hj => (h2 j hj).1)
    have h : 0 = sp_dv g b (m + 1) := h
    omega
  | n + 1, 0, h1, _, h => by
    have := sp_dv_pos (b := b) (fun j hj => (h1 j hj).1)
    have h : sp_dv f b (n + 1) = 0 := h
    omega
  | n + 1, m + 1, h1, h2, h => by
    have a1 := h1 n (by first | decide | omega)
    have a2 := h2 m (by first | decide | omega)
    have h : b * sp_dv f b n + f n = b * sp_dv g b m + g m := h
    have hb : 0 < b := by omega
    have e1 : f n = g m := by
      have := congrArg (· % b) h
      simp only [Nat.mul_add_mod] at this
      rwa [Nat.mod_eq_of_lt a1.2, Nat.mod_eq_of_lt a2.2] at this
    have e2 : sp_dv f b n = sp_dv g b m := by
      have := congrArg (· / b) h
      simp only [Nat.mul_add_div hb] at this
      rwa [Nat.div_eq_of_lt a1.2, Nat.div_eq_of_lt a2.2, Nat.add_zero, Nat.add_zero] at this
    obtain ⟨e3, e4⟩ := sp_dv_inj (fun j hj => h1 j (by first | decide | omega)) (fun j hj => h2 j (by first | decide | omega)) e2
    subst e3
    refine ⟨rfl, fun j hj => ?_⟩
    by_cases c : j = n
    · subst c; exact e1
    · exact e4 j (by first | decide | omega)
theorem sp_dv_eq {f g : Nat → Nat} {b : Nat} : ∀ {n : Nat}, (∀ j, j < n → f j = g j) → sp_dv f b n = sp_dv g b n
  | 0, _ => rfl
  | n + 1, h => by
    show b * sp_dv f b n + f n = b * sp_dv g b n + g n
    rw [sp_dv_eq (fun j hj => h j (by first | decide | omega)), h n (by first | decide | omega)]
/-- the two readings, to 37 and to 32, tell the same -/
theorem sp_dv_two {f g : Nat → Nat} {n m : Nat} (h1 : ∀ j, j < n → 1 ≤ f j ∧ f j < 32) (h2 : ∀ j, j < m → 1 ≤ g j ∧ g j < 32) : sp_dv f 37 n = sp_dv g 37 m ↔ sp_dv f 32 n = sp_dv g 32 m := by
  constructor
  · intro h
    obtain ⟨e, e2⟩ := sp_dv_inj (b := 37) (fun j hj => ⟨(h1 j hj).1, by have := (h1 j hj).2; omega⟩) (fun j hj => ⟨(h2 j hj).1, by have := (h2 j hj).2; omega⟩) h
    subst e
    exact sp_dv_eq e2
  · intro h
    obtain ⟨e, e2⟩ := sp_dv_inj h1 h2 h
    subst e
    exact sp_dv_eq e2
theorem sp_hv_dv {S : Nat → Nat} {p b c : Nat} : ∀ n, sp_hv S p b c n = sp_dv (fun j => S (p + j) - c) b n
  | 0 => rfl
  | n + 1 => by
    show b * sp_hv S p b c n + (S (p + n) - c) = b * sp_dv _ b n + (S (p + n) - c)
    rw [sp_hv_dv n]
end SPG
