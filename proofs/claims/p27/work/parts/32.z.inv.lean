section AIV
/-! ### what holds of the rows of the weeks: a haul's place is one; cells that only hand-made contracts write -/
noncomputable def ai_fzl (L c : Nat) : Bool := Nat.beq c L || (Nat.beq c (L + 2) || Nat.beq c (L + 4))
noncomputable def ai_frz (c : Nat) : Bool := (ai_fzl 323 c || ai_fzl 329 c) || ((Nat.ble 389 c && Nat.ble c 391) || (Nat.beq c 396 || Nat.beq c 399))
noncomputable def ai_El (L : Nat) (t : en_H) : Prop := ∃ n, ai_hv t L 5 = some (.inl n) ∧ n ≤ 24 ∧ ∀ j, j < n → ∃ a b, ai_hv t (L + 2) j = some (.inl a) ∧ ai_hv t (L + 4) j = some (.inl b) ∧ a ≤ 3 ∧ (a = 1 → b ≤ 63)
/-! of the reference: a lead that is one has a round; the rows of its weeks; the biscuit of two crews; the laws' codes -/
noncomputable def ai_En (t : en_H) (c i lo hi : Nat) : Prop := ∃ m, ai_hv t c i = some (.inl m) ∧ lo ≤ m ∧ m ≤ hi
noncomputable def ai_E1 (t : en_H) : Prop := ∀ k, k < 6 → ai_En t 389 3 0 k ∨ ai_En t 389 (95 + 4 * k) 1 30
noncomputable def ai_E2 (t : en_H) : Prop := ∀ k, k < 24 → (ai_En t 396 (1 + 4 * k) 0 0 ∧ ai_En t 396 (2 + 4 * k) 0 30) ∨ (ai_En t 396 (1 + 4 * k) 1 1 ∧ ai_En t 396 (2 + 4 * k) 0 1 ∧ ai_En t 396 (3 + 4 * k) 0 7 ∧ ai_En t 396 (4 + 4 * k) 0 7) ∨ (ai_En t 396 (1 + 4 * k) 2 2 ∧ ai_En t 396 (2 + 4 * k) 0 1 ∧ ai_En t 396 (3 + 4 * k) 0 999) ∨ (ai_En t 396 (1 + 4 * k) 3 3 ∧ ai_En t 396 (2 + 4 * k) 0 1)
noncomputable def ai_E3 (t : en_H) : Prop := ∀ b, b < 23 → ∃ x y, ai_hv t 399 (45 * b + 7) = some (.inl x) ∧ ai_hv t 399 (45 * b + 8) = some (.inl y) ∧ x + y ≤ 19998
noncomputable def ai_rpn (t : en_H) (s e : Nat) (f : Nat → Nat) : Prop := f s = 0 ∧ ai_hv t 390 e = some (.inl 0) ∧ ∀ i, s ≤ i → i < e → ∃ o a, ai_hv t 390 i = some (.inl o) ∧ ai_hv t 391 i = some (.inl a) ∧ ((o = 1 ∧ f (i + 1) = f i + 1) ∨ (o = 2 ∧ a ≤ 3 ∧ f (i + 1) = f i + 1) ∨ (o = 3 ∧ 1 ≤ f i ∧ f (i + 1) = f i) ∨ (4 ≤ o ∧ o ≤ 10 ∧ 2 ≤ f i ∧ f (i + 1) + 1 = f i))
noncomputable def ai_E4 (t : en_H) : Prop := ∀ l, l < 3 → ai_hv t 389 (9 + l) = some (.inl 4294967295) ∨ ∃ s e f, ai_hv t 389 (9 + l) = some (.inl s) ∧ s ≤ e ∧ e < 1100 ∧ ai_rpn t s e f
noncomputable def ai_Em (t : en_H) : Prop := ai_E1 t ∧ ai_E2 t ∧ ai_E3 t ∧ ai_E4 t
theorem ai_Em_kept {t t' : en_H} (h : ai_Em t) (h1 : ∀ i, ai_hv t' 389 i = ai_hv t 389 i) (h2 : ∀ i, ai_hv t' 390 i = ai_hv t 390 i) (h3 : ∀ i, ai_hv t' 391 i = ai_hv t 391 i) (h4 : ∀ i, ai_hv t' 396 i = ai_hv t 396 i) (h5 : ∀ b, ai_hv t' 399 (45 * b + 7) = ai_hv t 399 (45 * b + 7)) (h6 : ∀ b, ai_hv t' 399 (45 * b + 8) = ai_hv t 399 (45 * b + 8)) : ai_Em t' := by
  obtain ⟨g1, g2, g3, g4⟩ := h
  refine ⟨?_, ?_, ?_, ?_⟩
  · intro k hk
    have := g1 k hk
    simp only [ai_En, h1] at this ⊢
    exact this
  · intro k hk
    have := g2 k hk
    simp only [ai_En, h4] at this ⊢
    exact this
  · intro b hb
    have := g3 b hb
    rw [h5, h6]
    exact this
  · intro l hl
    have := g4 l hl
    simp only [ai_rpn, h1, h2, h3] at this ⊢
    exact this
noncomputable def ai_E (t : en_H) : Prop := (ai_El 323 t ∧ ai_El 329 t) ∧ ai_Em t
theorem ai_El_kept {L : Nat} {t t' : en_H} (h : ai_El L t) (h1 : ∀ i, ai_hv t' L i = ai_hv t L i) (h2 : ∀ i, ai_hv t' (L + 2) i = ai_hv t (L + 2) i) (h3 : ∀ i, ai_hv t' (L + 4) i = ai_hv t (L + 4) i) : ai_El L t' := by
  obtain ⟨n, g1, g2, g3⟩ := h
  exact ⟨n, by rw [h1]; exact g1, g2, fun j hj => by rw [h2, h3]; exact g3 j hj⟩
theorem ai_E_kept {t t' : en_H} (h : ai_E t) (hf : ∀ c i, ai_frz c = true → ai_hv t' c i = ai_hv t c i) : ai_E t' :=
  ⟨⟨ai_El_kept h.1.1 (fun i => hf _ i (by decide)) (fun i => hf _ i (by decide)) (fun i => hf _ i (by decide)), ai_El_kept h.1.2 (fun i => hf _ i (by decide)) (fun i => hf _ i (by decide)) (fun i => hf _ i (by decide))⟩,
   ai_Em_kept h.2 (fun i => hf _ i (by decide)) (fun i => hf _ i (by decide)) (fun i => hf _ i (by decide)) (fun i => hf _ i (by decide)) (fun i => hf _ _ (by decide)) (fun i => hf _ _ (by decide))⟩
/-- cases that the invariant gives: 2 j + 0, 1: the row j of the one or the other weeks -/
noncomputable def ai_alt1 (L j : Nat) : List ai_O := [[(L, 5, .inl (2147483648, 2147483648 + j))], [(L + 2, j, .inl (2147483648, 2147483648))], [(L + 2, j, .inl (2147483650, 2147483651))], [(L + 2, j, .inl (2147483649, 2147483649)), (L + 4, j, .inl (2147483648, 2147483711))]]
noncomputable def ai_altL (j : Nat) : List ai_O := [[(396, 1 + 4 * j, .inl (2147483648, 2147483648)), (396, 2 + 4 * j, .inl (2147483648, 2147483678))], [(396, 1 + 4 * j, .inl (2147483649, 2147483649)), (396, 2 + 4 * j, .inl (2147483648, 2147483649)), (396, 3 + 4 * j, .inl (2147483648, 2147483655)), (396, 4 + 4 * j, .inl (2147483648, 2147483655))], [(396, 1 + 4 * j, .inl (2147483650, 2147483650)), (396, 2 + 4 * j, .inl (2147483648, 2147483649)), (396, 3 + 4 * j, .inl (2147483648, 2147484647))], [(396, 1 + 4 * j, .inl (2147483651, 2147483651)), (396, 2 + 4 * j, .inl (2147483648, 2147483649))]]
noncomputable def ai_altR (j : Nat) : List ai_O := [[(389, 3, .inl (2147483648, 2147483648 + j))], [(389, 95 + 4 * j, .inl (2147483649, 2147483678))]]
/-- 102 + 8 j: the row j of the reference's weeks; 1000 + 2 j: its lead j -/
noncomputable def ai_alt (k : Nat) : List ai_O := bif Nat.blt k 48 then (bif Nat.beq (k % 2) 0 then ai_alt1 323 (k / 2) else ai_alt1 329 (k / 2)) else bif Nat.blt k 1000 then (bif (Nat.ble 102 k && Nat.blt k 294) && Nat.beq ((k - 102) % 8) 0 then ai_altL ((k - 102) / 8) else []) else bif Nat.blt k 1012 then ai_altR ((k - 1000) / 2) else []
theorem ai_in_h {x lo hi : Nat} (h1 : x < 2147483648) (h2 : lo ≤ x + 2147483648) (h3 : x + 2147483648 ≤ hi) : ai_rh (.inl (lo, hi)) (.inl x) := ⟨x, rfl, by omega, by rw [ai_off_nn h1]; exact h2, by rw [ai_off_nn h1]; exact h3⟩
theorem ai_alt1_ok {L j : Nat} {t : en_H} (h : ai_El L t) : ∃ a ∈ ai_alt1 L j, ai_HO a t := by
  obtain ⟨n, g1, g2, g3⟩ := h
  have one : ∀ (c i : Nat) (h9 : ai_h) (v : en_V), ai_hv t c i = some v → ai_rh h9 v → ai_HO [(c, i, h9)] t := fun c i h9 v e1 e2 q hq => by
    rcases List.mem_cons.mp hq with rfl | hq
    · exact ⟨v, e1, e2⟩
    · cases hq
  by_cases hj : j < n
  · obtain ⟨a, b, k1, k2, k3, k4⟩ := g3 j hj
    rcases (show a = 0 ∨ a = 1 ∨ (2 ≤ a ∧ a ≤ 3) by omega) with e | e | e
    · exact ⟨_, List.mem_cons_of_mem _ List.mem_cons_self, one _ _ _ _ k1 (ai_in_h (by first | decide | omega) (by first | decide | omega) (by first | decide | omega))⟩
    · refine ⟨_, List.mem_cons_of_mem _ (List.mem_cons_of_mem _ (List.mem_cons_of_mem _ List.mem_cons_self)), fun q hq => ?_⟩
      have k4 := k4 e
      rcases List.mem_cons.mp hq with rfl | hq
      · exact ⟨_, k1, ai_in_h (by first | decide | omega) (by first | decide | omega) (by first | decide | omega)⟩
      · rcases List.mem_cons.mp hq with rfl | hq
        · exact ⟨_, k2, ai_in_h (by first | decide | omega) (by first | decide | omega) (by first | decide | omega)⟩
        · cases hq
    · exact ⟨_, List.mem_cons_of_mem _ (List.mem_cons_of_mem _ List.mem_cons_self), one _ _ _ _ k1 (ai_in_h (by first | decide | omega) (by first | decide | omega) (by first | decide | omega))⟩
  · exact ⟨_, List.mem_cons_self, one _ _ _ _ g1 (ai_in_h (by first | decide | omega) (by first | decide | omega) (by first | decide | omega))⟩
theorem ai_HO_nil {t : en_H} : ai_HO [] t := fun q hq => by cases hq
theorem ai_HO_cons {t : en_H} {c i lo hi lo' hi' : Nat} {l : ai_O} (h : ai_En t c i lo hi) (e1 : lo' = lo + 2147483648) (e2 : hi' = hi + 2147483648) (e3 : hi < 2147483648) (hl : ai_HO l t) : ai_HO ((c, i, .inl (lo', hi')) :: l) t := fun q hq => by
  rcases List.mem_cons.mp hq with rfl | hq
  · obtain ⟨m, h1, h2, h3⟩ := h
    exact ⟨_, h1, ai_in_h (by first | decide | omega) (by first | decide | omega) (by first | decide | omega)⟩
  · exact hl q hq
theorem ai_altL_ok {j : Nat} {t : en_H} (hj : j < 24) (h : ai_E2 t) : ∃ a ∈ ai_altL j, ai_HO a t := by
  rcases h j hj with ⟨h1, h2⟩ | ⟨h1, h2, h3, h4⟩ | ⟨h1, h2, h3⟩ | ⟨h1, h2⟩
  · exact ⟨_, List.mem_cons_self, ai_HO_cons h1 rfl rfl (by decide) (ai_HO_cons h2 rfl rfl (by decide) ai_HO_nil)⟩
  · exact ⟨_, List.mem_cons_of_mem _ List.mem_cons_self, ai_HO_cons h1 rfl rfl (by decide) (ai_HO_cons h2 rfl rfl (by decide) (ai_HO_cons h3 rfl rfl (by decide) (ai_HO_cons h4 rfl rfl (by decide) ai_HO_nil)))⟩
  · exact ⟨_, List.mem_cons_of_mem _ (List.mem_cons_of_mem _ List.mem_cons_self), ai_HO_cons h1 rfl rfl (by decide) (ai_HO_cons h2 rfl rfl (by decide) (ai_HO_cons h3 rfl rfl (by decide) ai_HO_nil))⟩
  · exact ⟨_, List.mem_cons_of_mem _ (List.mem_cons_of_mem _ (List.mem_cons_of_mem _ List.mem_cons_self)), ai_HO_cons h1 rfl rfl (by decide) (ai_HO_cons h2 rfl rfl (by decide) ai_HO_nil)⟩
theorem ai_altR_ok {j : Nat} {t : en_H} (hj : j < 6) (h : ai_E1 t) : ∃ a ∈ ai_altR j, ai_HO a t := by
  rcases h j hj with h1 | h1
  · exact ⟨_, List.mem_cons_self, ai_HO_cons h1 rfl (Nat.add_comm _ _) (by first | decide | omega) ai_HO_nil⟩
  · exact ⟨_, List.mem_cons_of_mem _ List.mem_cons_self, ai_HO_cons h1 rfl rfl (by decide) ai_HO_nil⟩
theorem ai_alt_ok {k : Nat} {t : en_H} (h : ai_E t) : ai_alt k = [] ∨ ∃ a ∈ ai_alt k, ai_HO a t := by
  unfold ai_alt
  cases Nat.blt k 48 with
  | false =>
    dsimp only [cond]
    cases Nat.blt k 1000 with
    | true =>
      dsimp only [cond]
      cases c : ((Nat.ble 102 k && Nat.blt k 294) && Nat.beq ((k - 102) % 8) 0) with
      | false => exact Or.inl rfl
      | true =>
        simp only [Bool.and_eq_true] at c
        have c1 : k < 294 := Nat.le_of_ble_eq_true c.1.2
        exact Or.inr (ai_altL_ok (by first | decide | omega) h.2.2.1)
    | false =>
      dsimp only [cond]
      cases c : Nat.blt k 1012 with
      | false => exact Or.inl rfl
      | true =>
        have c1 : k < 1012 := Nat.le_of_ble_eq_true c
        exact Or.inr (ai_altR_ok (by first | decide | omega) h.2.1)
  | true =>
    refine Or.inr ?_
    dsimp only [cond]
    cases Nat.beq (k % 2) 0 with
    | true => exact ai_alt1_ok h.1.1
    | false => exact ai_alt1_ok h.1.2
/-! ### writes that keep it -/
noncomputable def ai_row (x y : Nat × Nat) : Bool := (Nat.ble 2147483648 x.1 && Nat.ble x.2 2147483651) && ((Nat.blt x.2 2147483649 || Nat.blt 2147483649 x.1) || (Nat.ble 2147483648 y.1 && Nat.ble y.2 2147483711))
noncomputable def ai_epn (O : ai_O) (L : Nat) (q : Nat × Nat) (p : Nat × Nat) : Bool := ((Nat.beq p.1 p.2 && (Nat.beq q.1 (p.1 + 1) && Nat.beq q.2 (p.1 + 1))) && (Nat.ble 2147483648 p.1 && Nat.blt p.1 2147483672)) && (match ai_ov O (L + 2) (p.1 - 2147483648) with
  | some (.inl x) => (match ai_ov O (L + 4) (p.1 - 2147483648) with
    | some (.inl y) => ai_row x y
    | _ => false)
  | _ => false)
noncomputable def ai_epL (O : ai_O) (L c i : Nat) (v : ai_v) : Bool := match v with
  | .inl q => bif Nat.beq c L then (bif Nat.beq i 5 then (bif Nat.beq q.1 2147483648 && Nat.beq q.2.1 2147483648 then true else (match ai_ov O L 5 with
      | some (.inl p) => ai_epn O L (q.1, q.2.1) p
      | _ => false)) else false)
    else (match ai_ov O L 5 with
      | some (.inl p) => Nat.ble p.2 (i + 2147483648)
      | _ => false)
  | _ => false
noncomputable def ai_ep (O : ai_O) (c i : Nat) (v : ai_v) : Bool := bif ai_fzl 323 c then ai_epL O 323 c i v else bif ai_fzl 329 c then ai_epL O 329 c i v else bif Nat.beq c 399 then Nat.blt (i % 45) 7 || Nat.blt 8 (i % 45) else false
theorem ai_ov_int {O : ai_O} {t : en_H} {c i : Nat} {p : Nat × Nat} (hO : ai_HO O t) (h : ai_ov O c i = some (.inl p)) : ∃ m, ai_hv t c i = some (.inl m) ∧ m < 4294967296 ∧ p.1 ≤ ai_off m ∧ ai_off m ≤ p.2 := by
  obtain ⟨v, h1, m, rfl, h2, h3, h4⟩ := hO _ (ai_ov_ok h)
  exact ⟨m, h1, h2, h3, h4⟩
theorem ai_epL_ok {O : ai_O} {t t' : en_H} {L c i : Nat} {v : ai_v} {w : en_V} {ρ : Nat → Nat} (hf : ai_fzl L c = true) (h : ai_epL O L c i v = true) (hv : ai_rv ρ v w) (hO : ai_HO O t) (hE : ai_El L t) (ht : ∀ c' i', ai_hv t' c' i' = if c' = c ∧ i' = i then some w else ai_hv t c' i') : ai_El L t' := by
  obtain ⟨n, g1, g2, g3⟩ := hE
  unfold ai_epL at h
  split at h
  · rename_i q
    obtain ⟨m, rfl, m1, m2, m3, -⟩ := hv
    cases c1 : Nat.beq c L with
    | true =>
      rw [c1] at h
      dsimp only [cond] at h
      have ec := Nat.eq_of_beq_eq_true c1
      subst ec
      obtain ⟨c2, h⟩ := (show Nat.beq i 5 = true ∧ _ from by
        cases c2 : Nat.beq i 5 with
        | false => rw [c2] at h; cases h
        | true => rw [c2] at h; exact ⟨rfl, h⟩)
      have ei := Nat.eq_of_beq_eq_true c2
      subst ei
      have h2 : ∀ j, ai_hv t' (c + 2) j = ai_hv t (c + 2) j := fun j => by rw [ht, if_neg (by first | decide | omega)]
      have h4 : ∀ j, ai_hv t' (c + 4) j = ai_hv t (c + 4) j := fun j => by rw [ht, if_neg (by first | decide | omega)]
      have h5 : ai_hv t' c 5 = some (.inl m) := by rw [ht, if_pos ⟨rfl, rfl⟩]
      dsimp only [cond] at h
      cases c3 : (Nat.beq q.1 2147483648 && Nat.beq q.2.1 2147483648) with
      | true =>
        rw [Bool.and_eq_true] at c3
        have d1 := Nat.eq_of_beq_eq_true c3.1
        have d2 := Nat.eq_of_beq_eq_true c3.2
        have hm : m = 0 := by unfold ai_off at m2 m3; omega
        subst hm
        exact ⟨0, h5, by omega, fun j hj => by omega⟩
      | false =>
        rw [c3] at h
        dsimp only [cond] at h
        split at h
        · rename_i p hp
          unfold ai_epn at h
          rw [Bool.and_eq_true] at h
          obtain ⟨k1, h⟩ := h
          simp only [Bool.and_eq_true] at k1
          obtain ⟨⟨k2, k3, k4⟩, k5, k6⟩ := k1
          have k2 := Nat.eq_of_beq_eq_true k2
          have k3 : q.1 = p.1 + 1 := Nat.eq_of_beq_eq_true k3
          have k4 : q.2.1 = p.1 + 1 := Nat.eq_of_beq_eq_true k4
          have k5 := Nat.le_of_ble_eq_true k5
          have k6 : p.1 < 2147483672 := Nat.le_of_ble_eq_true k6
          obtain ⟨m9, z1, z2, z3, z4⟩ := ai_ov_int hO hp
          cases g1.symm.trans z1
          have en : n = p.1 - 2147483648 := by unfold ai_off at z3 z4; omega
          have em : m = n + 1 := by unfold ai_off at m2 m3; omega
          split at h
          · rename_i x hx
            split at h
            · rename_i y hy
              obtain ⟨a, a1, a2, a3, a4⟩ := ai_ov_int hO hx
              obtain ⟨b, b1, b2, b3, b4⟩ := ai_ov_int hO hy
              unfold ai_row at h
              simp only [Bool.and_eq_true, Bool.or_eq_true] at h
              obtain ⟨⟨r1, r2⟩, r3⟩ := h
              have r1 := Nat.le_of_ble_eq_true r1
              have r2 := Nat.le_of_ble_eq_true r2
              have ha : a ≤ 3 := by unfold ai_off at a3 a4; omega
              refine ⟨m, h5, by omega, fun j hj => ?_⟩
              rw [h2, h4]
              by_cases hjn : j < n
              · exact g3 j hjn
              · have ej : j = p.1 - 2147483648 := by omega
                rw [ej]
                refine ⟨a, b, a1, b1, ha, fun e => ?_⟩
                subst e
                rcases r3 with (r3 | r3) | ⟨r3, r4⟩
                · have : x.2 < 2147483649 := Nat.le_of_ble_eq_true r3
                  unfold ai_off at a3 a4
                  omega
                · have : 2147483649 < x.1 := Nat.le_of_ble_eq_true r3
                  unfold ai_off at a3 a4
                  omega
                · have r3 := Nat.le_of_ble_eq_true r3
                  have r4 := Nat.le_of_ble_eq_true r4
                  unfold ai_off at b3 b4
                  omega
            · cases h
          · cases h
        · cases h
    | false =>
      rw [c1] at h
      dsimp only [cond] at h
      have hne : c ≠ L := fun e => by rw [e, Nat.beq_refl] at c1; cases c1
      split at h
      · rename_i p hp
        have h := Nat.le_of_ble_eq_true h
        obtain ⟨m9, z1, z2, z3, z4⟩ := ai_ov_int hO hp
        cases g1.symm.trans z1
        have hni : n ≤ i := by unfold ai_off at z3 z4; omega
        refine ⟨n, by rw [ht, if_neg (fun z => hne z.1.symm)]; exact g1, g2, fun j hj => ?_⟩
        rw [ht, ht, if_neg (by first | decide | omega), if_neg (by first | decide | omega)]
        exact g3 j hj
      · cases h
  · cases h
theorem ai_fzl_ne {L c : Nat} (h : ai_fzl L c = true) : c = L ∨ c = L + 2 ∨ c = L + 4 := by
  unfold ai_fzl at h
  simp only [Bool.or_eq_true] at h
  rcases h with h | h | h
  · exact Or.inl (Nat.eq_of_beq_eq_true h)
  · exact Or.inr (Or.inl (Nat.eq_of_beq_eq_true h))
  · exact Or.inr (Or.inr (Nat.eq_of_beq_eq_true h))
theorem ai_ep_ok {O : ai_O} {t t' : en_H} {c i : Nat} {v : ai_v} {w : en_V} {ρ : Nat → Nat} (h : ai_ep O c i v = true) (hv : ai_rv ρ v w) (hO : ai_HO O t) (hE : ai_E t) (ht : ∀ c' i', ai_hv t' c' i' = if c' = c ∧ i' = i then some w else ai_hv t c' i') : ai_E t' := by
  unfold ai_ep at h
  cases c1 : ai_fzl 323 c with
  | true =>
    rw [c1] at h
    have hc := ai_fzl_ne c1
    exact ⟨⟨ai_epL_ok c1 h hv hO hE.1.1 ht, ai_El_kept hE.1.2 (fun j => by rw [ht, if_neg (by first | decide | omega)]) (fun j => by rw [ht, if_neg (by first | decide | omega)]) (fun j => by rw [ht, if_neg (by first | decide | omega)])⟩, ai_Em_kept hE.2 (fun j => by rw [ht, if_neg (by first | decide | omega)]) (fun j => by rw [ht, if_neg (by first | decide | omega)]) (fun j => by rw [ht, if_neg (by first | decide | omega)]) (fun j => by rw [ht, if_neg (by first | decide | omega)]) (fun j => by rw [ht, if_neg (by first | decide | omega)]) (fun j => by rw [ht, if_neg (by first | decide | omega)])⟩
  | false =>
    rw [c1] at h
    dsimp only [cond] at h
    cases c2 : ai_fzl 329 c with
    | false =>
      rw [c2] at h
      dsimp only [cond] at h
      cases c3 : Nat.beq c 399 with
      | false => rw [c3] at h; cases h
      | true =>
        rw [c3] at h
        dsimp only [cond] at h
        have hc := Nat.eq_of_beq_eq_true c3
        have hi : i % 45 < 7 ∨ 8 < i % 45 := by
          rw [Bool.or_eq_true] at h
          rcases h with h | h
          · exact Or.inl (Nat.le_of_ble_eq_true h)
          · exact Or.inr (Nat.le_of_ble_eq_true h)
        exact ⟨⟨ai_El_kept hE.1.1 (fun j => by rw [ht, if_neg (by first | decide | omega)]) (fun j => by rw [ht, if_neg (by first | decide | omega)]) (fun j => by rw [ht, if_neg (by first | decide | omega)]), ai_El_kept hE.1.2 (fun j => by rw [ht, if_neg (by first | decide | omega)]) (fun j => by rw [ht, if_neg (by first | decide | omega)]) (fun j => by rw [ht, if_neg (by first | decide | omega)])⟩, ai_Em_kept hE.2 (fun j => by rw [ht, if_neg (by first | decide | omega)]) (fun j => by rw [ht, if_neg (by first | decide | omega)]) (fun j => by rw [ht, if_neg (by first | decide | omega)]) (fun j => by rw [ht, if_neg (by first | decide | omega)]) (fun j => by rw [ht, if_neg (by first | decide | omega)]) (fun j => by rw [ht, if_neg (by first | decide | omega)])⟩
    | true =>
      rw [c2] at h
      have hc := ai_fzl_ne c2
      exact ⟨⟨ai_El_kept hE.1.1 (fun j => by rw [ht, if_neg (by first | decide | omega)]) (fun j => by rw [ht, if_neg (by first | decide | omega)]) (fun j => by rw [ht, if_neg (by first | decide | omega)]), ai_epL_ok c2 h hv hO hE.1.2 ht⟩, ai_Em_kept hE.2 (fun j => by rw [ht, if_neg (by first | decide | omega)]) (fun j => by rw [ht, if_neg (by first | decide | omega)]) (fun j => by rw [ht, if_neg (by first | decide | omega)]) (fun j => by rw [ht, if_neg (by first | decide | omega)]) (fun j => by rw [ht, if_neg (by first | decide | omega)]) (fun j => by rw [ht, if_neg (by first | decide | omega)])⟩
end AIV
