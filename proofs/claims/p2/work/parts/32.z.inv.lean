section AIV
/-! ### what holds of the rows of the weeks: a haul's place is one; cells that only hand-made contracts write -/
def ai_frz (c : Nat) : Bool := (Nat.ble 323 c && Nat.ble c 334) || (Nat.ble 389 c && Nat.ble c 391) || Nat.beq c 396
def ai_El (L : Nat) (t : en_H) : Prop := ∃ n, ai_hv t L 5 = some (.inl n) ∧ n ≤ 24 ∧ ∀ j, j < n → ∃ a b, ai_hv t (L + 2) j = some (.inl a) ∧ ai_hv t (L + 4) j = some (.inl b) ∧ a ≤ 3 ∧ (a = 1 → b ≤ 63)
def ai_E (t : en_H) : Prop := ai_El 323 t ∧ ai_El 329 t
theorem ai_El_kept {L : Nat} {t t' : en_H} (h : ai_El L t) (h1 : ∀ i, ai_hv t' L i = ai_hv t L i) (h2 : ∀ i, ai_hv t' (L + 2) i = ai_hv t (L + 2) i) (h3 : ∀ i, ai_hv t' (L + 4) i = ai_hv t (L + 4) i) : ai_El L t' := by
  obtain ⟨n, g1, g2, g3⟩ := h
  exact ⟨n, by rw [h1]; exact g1, g2, fun j hj => by rw [h2, h3]; exact g3 j hj⟩
theorem ai_E_kept {t t' : en_H} (h : ai_E t) (hf : ∀ c i, ai_frz c = true → ai_hv t' c i = ai_hv t c i) : ai_E t' :=
  ⟨ai_El_kept h.1 (fun i => hf _ i (by decide)) (fun i => hf _ i (by decide)) (fun i => hf _ i (by decide)), ai_El_kept h.2 (fun i => hf _ i (by decide)) (fun i => hf _ i (by decide)) (fun i => hf _ i (by decide))⟩
/-- cases that the invariant gives: 2 j + 0, 1: the row j of the one or the other weeks -/
def ai_alt1 (L j : Nat) : List ai_O := [[(L, 5, .inl (2147483648, 2147483648 + j))], [(L + 2, j, .inl (2147483648, 2147483648))], [(L + 2, j, .inl (2147483650, 2147483651))], [(L + 2, j, .inl (2147483649, 2147483649)), (L + 4, j, .inl (2147483648, 2147483711))]]
def ai_alt (k : Nat) : List ai_O := bif Nat.blt k 48 then (bif Nat.beq (k % 2) 0 then ai_alt1 323 (k / 2) else ai_alt1 329 (k / 2)) else []
theorem ai_in_h {x lo hi : Nat} (h1 : x < 2147483648) (h2 : lo ≤ x + 2147483648) (h3 : x + 2147483648 ≤ hi) : ai_rh (.inl (lo, hi)) (.inl x) := ⟨x, rfl, by omega, by rw [ai_off_nn h1]; exact h2, by rw [ai_off_nn h1]; exact h3⟩
theorem ai_alt1_ok {L j : Nat} {t : en_H} (h : ai_El L t) : ∃ a ∈ ai_alt1 L j, ai_HO a t := by
  obtain ⟨n, g1, g2, g3⟩ := h
  have one : ∀ (c i : Nat) (h9 : ai_h) (v : en_V), ai_hv t c i = some v → ai_rh h9 v → ai_HO [(c, i, h9)] t := fun c i h9 v e1 e2 q hq => by
    rcases List.mem_cons.mp hq with rfl | hq
    · exact ⟨v, e1, e2⟩
    · cases hq
  by_cases hj : j < n
  · obtain ⟨a, b, k1, k2, k3, k4⟩ := g3 j hj
    rcases (show a = 0 ∨ a = 1 ∨ (2 ≤ a ∧ a ≤ 3) by omega) with e | e | e
    · exact ⟨_, List.mem_cons_of_mem _ List.mem_cons_self, one _ _ _ _ k1 (ai_in_h (by omega) (by omega) (by omega))⟩
    · refine ⟨_, List.mem_cons_of_mem _ (List.mem_cons_of_mem _ (List.mem_cons_of_mem _ List.mem_cons_self)), fun q hq => ?_⟩
      have k4 := k4 e
      rcases List.mem_cons.mp hq with rfl | hq
      · exact ⟨_, k1, ai_in_h (by omega) (by omega) (by omega)⟩
      · rcases List.mem_cons.mp hq with rfl | hq
        · exact ⟨_, k2, ai_in_h (by omega) (by omega) (by omega)⟩
        · cases hq
    · exact ⟨_, List.mem_cons_of_mem _ (List.mem_cons_of_mem _ List.mem_cons_self), one _ _ _ _ k1 (ai_in_h (by omega) (by omega) (by omega))⟩
  · exact ⟨_, List.mem_cons_self, one _ _ _ _ g1 (ai_in_h (by omega) (by omega) (by omega))⟩
theorem ai_alt_ok {k : Nat} {t : en_H} (h : ai_E t) : ai_alt k = [] ∨ ∃ a ∈ ai_alt k, ai_HO a t := by
  unfold ai_alt
  cases Nat.blt k 48 with
  | false => exact Or.inl rfl
  | true =>
    refine Or.inr ?_
    dsimp only [cond]
    cases Nat.beq (k % 2) 0 with
    | true => exact ai_alt1_ok h.1
    | false => exact ai_alt1_ok h.2
end AIV
