section AIX
/-! ### plain numbers stay plain -/
noncomputable def ai_un (p : Nat) : Nat := (p + 2147483648) % 4294967296
theorem ai_un_off {p x : Nat} (hx : x < 4294967296) (h1 : p ≤ ai_off x) (h2 : ai_off x ≤ p) : ai_un p = x := by
  unfold ai_off at h1 h2
  unfold ai_un
  omega
noncomputable def ai_exo (g : en_V → en_V → Option en_V) (F : Nat × Nat → Nat × Nat → Option (Nat × Nat)) (p q : Nat × Nat) : Option (Nat × Nat) := bif Nat.beq p.1 p.2 && Nat.beq q.1 q.2 then (match g (.inl (ai_un p.1)) (.inl (ai_un q.1)) with
  | some (.inl z) => bif Nat.blt z 4294967296 then some (ai_off z, ai_off z) else none
  | _ => none) else F p q
theorem ai_exo_ok {g : en_V → en_V → Option en_V} {F : Nat × Nat → Nat × Nat → Option (Nat × Nat)} (h : ai_op g F) : ai_op g (ai_exo g F) := by
  intro p q r x y hr hx hy
  unfold ai_exo at hr
  cases c : (Nat.beq p.1 p.2 && Nat.beq q.1 q.2) with
  | false => rw [c] at hr; exact h p q r x y hr hx hy
  | true =>
    rw [c] at hr
    rw [Bool.and_eq_true] at c
    have e1 := Nat.eq_of_beq_eq_true c.1
    have e2 := Nat.eq_of_beq_eq_true c.2
    have ex : ai_un p.1 = x := ai_un_off hx.1 hx.2.1 (by rw [e1]; exact hx.2.2)
    have ey : ai_un q.1 = y := ai_un_off hy.1 hy.2.1 (by rw [e2]; exact hy.2.2)
    rw [ex, ey] at hr
    dsimp only [cond] at hr
    split at hr
    · rename_i z hz
      cases c3 : Nat.blt z 4294967296 with
      | false => rw [c3] at hr; cases hr
      | true =>
        rw [c3] at hr
        have hr := Option.some.inj hr
        subst hr
        exact ⟨z, hz, Nat.le_of_ble_eq_true c3, Nat.le_refl _, Nat.le_refl _⟩
    · cases hr
end AIX
