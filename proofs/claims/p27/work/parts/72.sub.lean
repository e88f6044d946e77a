section HA4
theorem ha_off {x : Nat} (hx : x < 2147483648) : ai_in (x + 2147483648, x + 2147483648) x := ⟨by omega, by rw [ai_off_nn hx]; exact Nat.le_refl _, by rw [ai_off_nn hx]; exact Nat.le_refl _⟩
theorem ha_sub {x y : Nat} (h : y ≤ x) (hx : x < 2147483648) : en_isub x y = some (x - y) := by
  have c1 : ai_isub (x + 2147483648, x + 2147483648) (y + 2147483648, y + 2147483648) = some (x - y + 2147483648, x - y + 2147483648) := by
    unfold ai_isub
    dsimp only
    rw [show Nat.ble (y + 2147483648) (x + 2147483648 + 2147483648) = true from Nat.ble_eq_true_of_le (by first | decide | omega), show Nat.blt (x + 2147483648 + 2147483648) (y + 2147483648 + 4294967296) = true from Nat.ble_eq_true_of_le (by first | decide | omega), Bool.and_self, cond_true, show x + 2147483648 + 2147483648 - (y + 2147483648) = x - y + 2147483648 by omega]
  obtain ⟨z, e, z1, z2, z3⟩ := ai_isub_ok _ _ _ x y c1 (ha_off hx) (ha_off (by first | decide | omega))
  have ez : z = x - y := by
    unfold ai_off at z2 z3
    dsimp only at z2 z3
    omega
  have e2 : (some (.inl (nI x - nI y).toBitVec.toNat) : Option en_V) = some (.inl z) := e
  have e3 := Sum.inl.inj (Option.some.inj e2)
  unfold en_isub
  rw [e3, ez]
end HA4
