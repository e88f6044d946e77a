section AI8
/-! ### splits: (0, local, _, v): an int at v; (1, cell, slot, v): a slot at v; (2, local, _, _): some word is one of all; (3, k, local, _): the cases 2 * local + k of the invariant -/
noncomputable abbrev ai_sp : Type := Nat × Nat × Nat × Nat
/-- which cases -/
noncomputable def ai_alk (ls : ai_L) (k i : Nat) : List ai_O := match ai_ld ls i with
  | some (.inl p) => bif Nat.beq p.1 p.2.1 && Nat.ble 2147483648 p.1 then ai_alt (2 * ai_nb p.1 + k) else []
  | _ => []
theorem ai_alk_ok {ls : ai_L} {k i : Nat} {t : en_H} (h : ai_E t) : ai_alk ls k i = [] ∨ ∃ a ∈ ai_alk ls k i, ai_HO a t := by
  unfold ai_alk
  split
  · rename_i p _
    cases (Nat.beq p.1 p.2.1 && Nat.ble 2147483648 p.1) with
    | false => exact Or.inl rfl
    | true => exact ai_alt_ok (k := 2 * ai_nb p.1 + k) h
  · exact Or.inl rfl
noncomputable def ai_split (G : ai_G) (q : ai_sp) (A : ai_S) : List ai_S := match q.1 with
  | 0 => (match ai_ld A.2.1 q.2.1 with
    | some (.inl p) => bif Nat.blt p.1 q.2.2.2 && Nat.ble q.2.2.2 p.2.1 then [(A.1, (q.2.1, .inl (p.1, q.2.2.2 - 1, p.2.2)) :: A.2.1, A.2.2.1, A.2.2.2), (A.1, (q.2.1, .inl (q.2.2.2, p.2.1, p.2.2)) :: A.2.1, A.2.2.1, A.2.2.2)] else [A]
    | _ => [A])
  | 1 => (match G q.2.1 with
    | some g => bif Nat.blt q.2.2.1 g.2.2.1 then (match ai_sl A.2.2.2 q.2.1 g q.2.2.1 with
      | some (.inl p) => bif Nat.blt p.1 q.2.2.2 && Nat.ble q.2.2.2 p.2 then [(A.1, A.2.1, A.2.2.1, (q.2.1, q.2.2.1, .inl (p.1, q.2.2.2 - 1)) :: A.2.2.2), (A.1, A.2.1, A.2.2.1, (q.2.1, q.2.2.1, .inl (q.2.2.2, p.2)) :: A.2.2.2)] else [A]
      | _ => [A]) else [A]
    | none => [A])
  | 3 => (match ai_alk A.2.1 q.2.1 q.2.2.1 with
    | [] => [A]
    | l => l.map (fun a => (A.1, A.2.1, A.2.2.1, a ++ A.2.2.2)))
  | _ => (match ai_ld A.2.1 q.2.1 with
    | some (.inr (.inr 1)) => (List.range 42).map (fun w => (A.1, (q.2.1, .inr (.inr (w + 4))) :: A.2.1, A.2.2.1, A.2.2.2))
    | _ => [A])
theorem ai_lr_cons {ρ : Nat → Nat} {ls : ai_L} {cl : en_L} {i : Nat} {a : ai_v} {v : en_V} (h : ai_lr ρ ls cl) (h1 : en_ld cl i = some v) (h2 : ai_rv ρ a v) : ai_lr ρ ((i, a) :: ls) cl := by
  intro j b hb
  have hb : (bif Nat.beq i j then some a else ai_ld ls j) = some b := hb
  cases c1 : Nat.beq i j with
  | true =>
    rw [c1] at hb
    cases hb
    rw [← Nat.eq_of_beq_eq_true c1]
    exact ⟨v, h1, h2⟩
  | false =>
    rw [c1] at hb
    exact h j b hb
variable {G : ai_G} {cs : Nat → List ai_C} {wr : ai_W} {ρ : Nat → Nat} {t0 : en_H} {f : en_F} {n : Nat}
theorem ai_split_ok {q : ai_sp} {A : ai_S} {cl : en_L} {cst : List en_V} {t : en_H} (h : ai_St G wr ρ t0 A cl cst t) : ∃ B ∈ ai_split G q A, B.1 = A.1 ∧ ai_St G wr ρ t0 B cl cst t := by
  have self : ∃ B ∈ [A], B.1 = A.1 ∧ ai_St G wr ρ t0 B cl cst t := ⟨A, List.mem_cons_self, rfl, h⟩
  unfold ai_split
  split
  · split
    · rename_i p hp
      cases c1 : (Nat.blt p.1 q.2.2.2 && Nat.ble q.2.2.2 p.2.1) with
      | false => exact self
      | true =>
        rw [Bool.and_eq_true] at c1
        have k1 : p.1 < q.2.2.2 := Nat.le_of_ble_eq_true c1.1
        obtain ⟨v, g1, m, rfl, g2, g3, g4, g5⟩ := h.1 _ _ hp
        by_cases hm : ai_off m < q.2.2.2
        · exact ⟨_, List.mem_cons_self, rfl, ai_lr_cons h.1 g1 ⟨m, rfl, g2, g3, by show _ ≤ q.2.2.2 - 1; omega, g5⟩, h.2⟩
        · exact ⟨_, List.mem_cons_of_mem _ List.mem_cons_self, rfl, ai_lr_cons h.1 g1 ⟨m, rfl, g2, by show q.2.2.2 ≤ _; omega, g4, g5⟩, h.2⟩
    · exact self
  · split
    · rename_i g hg
      cases c0 : Nat.blt q.2.2.1 g.2.2.1 with
      | false => exact self
      | true =>
        dsimp only [cond]
        split
        · rename_i p hp
          cases c1 : (Nat.blt p.1 q.2.2.2 && Nat.ble q.2.2.2 p.2) with
          | false => exact self
          | true =>
            rw [Bool.and_eq_true] at c1
            have k1 : p.1 < q.2.2.2 := Nat.le_of_ble_eq_true c1.1
            obtain ⟨hl, hs, hG, hO, hF⟩ := h
            obtain ⟨vs, v, j1, j2, j3, m, rfl, g2, g3, g4⟩ := ai_sl_ok hG hO hg (Nat.le_of_ble_eq_true c0) hp
            have hv : ai_hv t q.2.1 q.2.2.1 = some (.inl m) := by rw [ai_hv_mk j1]; exact j3
            have key : ∀ h9 : ai_h, ai_rh h9 (.inl m) → ai_HO ((q.2.1, q.2.2.1, h9) :: A.2.2.2) t := fun h9 hh x hx => by
              rcases List.mem_cons.mp hx with rfl | hx
              · exact ⟨_, hv, hh⟩
              · exact hO x hx
            by_cases hm : ai_off m < q.2.2.2
            · exact ⟨_, List.mem_cons_self, rfl, hl, hs, hG, key _ ⟨m, rfl, g2, g3, by show _ ≤ q.2.2.2 - 1; omega⟩, hF⟩
            · exact ⟨_, List.mem_cons_of_mem _ List.mem_cons_self, rfl, hl, hs, hG, key _ ⟨m, rfl, g2, by show q.2.2.2 ≤ _; omega, g4⟩, hF⟩
        · exact self
    · exact self
  · split
    · exact self
    · rcases ai_alk_ok (ls := A.2.1) (k := q.2.1) (i := q.2.2.1) h.2.2.2.2.2 with e | ⟨a, ha, hO⟩
      · rename_i hx
        exact absurd e hx
      · exact ⟨_, List.mem_map.mpr ⟨a, ha, rfl⟩, rfl, h.1, h.2.1, h.2.2.1, fun p hp => by
          rcases List.mem_append.mp hp with hp | hp
          · exact hO p hp
          · exact h.2.2.2.1 p hp, h.2.2.2.2⟩
  · split
    · rename_i hp
      obtain ⟨v, g1, g2⟩ := h.1 _ _ hp
      have g2 : ai_rc 1 v := g2
      obtain ⟨i, i1, i2, rfl, -⟩ := ai_rc_word g2 (Or.inl rfl)
      refine ⟨_, List.mem_map.mpr ⟨i - 2, List.mem_range.mpr (by first | decide | omega), rfl⟩, rfl, ai_lr_cons h.1 g1 (Or.inr (Or.inr (Or.inl ⟨i, by omega, by omega, rfl⟩))), h.2⟩
    · exact self
noncomputable def ai_sps (G : ai_G) (qs : List ai_sp) : ai_S → List ai_S := List.rec (motive := fun _ => ai_S → List ai_S) (fun A => [A]) (fun q _ ih A => (ai_split G q A).flatMap ih) qs
theorem ai_sps_ok : ∀ {qs : List ai_sp} {A : ai_S} {cl : en_L} {cst : List en_V} {t : en_H}, ai_St G wr ρ t0 A cl cst t → ∃ B ∈ ai_sps G qs A, B.1 = A.1 ∧ ai_St G wr ρ t0 B cl cst t
  | [], A, _, _, _, h => ⟨A, List.mem_cons_self, rfl, h⟩
  | q :: qs, A, _, _, _, h => by
    obtain ⟨B, h1, h2, h3⟩ := ai_split_ok (q := q) h
    obtain ⟨B', h4, h5, h6⟩ := ai_sps_ok (qs := qs) h3
    exact ⟨B', List.mem_flatMap.mpr ⟨B, h1, h4⟩, h5.trans h2, h6⟩
/-! ### cuts and their ranks -/
noncomputable abbrev ai_K : Type := Nat × ai_L × List ai_v × ai_O × List (Nat × Nat)
noncomputable def ai_rho (cl : en_L) (i : Nat) : Nat := match en_ld cl i with
  | some (.inl m) => ai_off m
  | _ => 0
theorem ai_rho_lt (cl : en_L) (i : Nat) : ai_rho cl i < 4294967296 := by
  unfold ai_rho
  split
  · exact ai_off_lt _
  · decide
noncomputable def ai_cmp (ρ : Nat → Nat) (e : Nat × Nat) : Nat := match e.1 with
  | 0 => e.2 % 17179869184
  | 1 => 8589934592 - ρ e.2
  | _ => ρ e.2
noncomputable def ai_rkv (ρ : Nat → Nat) (l : List (Nat × Nat)) : Nat := List.rec (motive := fun _ => Nat) 0 (fun e l ih => ai_cmp ρ e * 17179869184 ^ l.length + ih) l
theorem ai_cmp_lt {ρ : Nat → Nat} (hρ : ∀ i, ρ i < 4294967296) (e : Nat × Nat) : ai_cmp ρ e < 17179869184 := by
  unfold ai_cmp
  split
  · exact Nat.mod_lt _ (by decide)
  · omega
  · have := hρ e.2; omega
theorem ai_rkv_lt {ρ : Nat → Nat} (hρ : ∀ i, ρ i < 4294967296) : ∀ l : List (Nat × Nat), ai_rkv ρ l < 17179869184 ^ l.length
  | [] => by show 0 < _; exact Nat.one_pos
  | e :: l => by
    show ai_cmp ρ e * 17179869184 ^ l.length + ai_rkv ρ l < 17179869184 ^ (l.length + 1)
    have h1 := ai_rkv_lt hρ l
    have h2 := ai_cmp_lt hρ e
    have h3 : (ai_cmp ρ e + 1) * 17179869184 ^ l.length ≤ 17179869184 * 17179869184 ^ l.length := Nat.mul_le_mul_right _ h2
    rw [Nat.pow_succ, Nat.mul_comm _ 17179869184]
    rw [Nat.add_mul, Nat.one_mul] at h3
    omega
/-- does the rank fall: the older ranks, the newer ones, the locals as they are then -/
noncomputable def ai_rkd (ls : ai_L) (l0 : List (Nat × Nat)) : List (Nat × Nat) → Bool := List.rec (motive := fun _ => List (Nat × Nat) → Bool) (fun _ => false) (fun e0 _ ih l1 => List.rec (motive := fun _ => Bool) false (fun e1 r1 _ =>
  bif Nat.beq e0.1 e1.1 then (match e0.1 with
    | 0 => bif Nat.blt (e1.2 % 17179869184) (e0.2 % 17179869184) then true else bif Nat.beq (e1.2 % 17179869184) (e0.2 % 17179869184) then ih r1 else false
    | 1 => bif Nat.beq e0.2 e1.2 then (match ai_ld ls e1.2 with
      | some (.inl q) => (match q.2.2 with
        | some p => bif Nat.beq p.1 e1.2 then (bif Nat.blt 8589934592 p.2 then true else bif Nat.beq 8589934592 p.2 then ih r1 else false) else false
        | none => false)
      | _ => false) else false
    | _ => bif Nat.beq e0.2 e1.2 then (match ai_ld ls e1.2 with
      | some (.inl q) => (match q.2.2 with
        | some p => bif Nat.beq p.1 e1.2 then (bif Nat.blt p.2 8589934592 then true else bif Nat.beq 8589934592 p.2 then ih r1 else false) else false
        | none => false)
      | _ => false) else false) else false) l1) l0
theorem ai_lex {a b c d W : Nat} (h : a < b) (hc : c < W) : a * W + c < b * W + d := by
  have : (a + 1) * W ≤ b * W := Nat.mul_le_mul_right _ h
  rw [Nat.add_mul, Nat.one_mul] at this
  omega
theorem ai_tag_at {ls : ai_L} {cl : en_L} {i : Nat} {q : Nat × Nat × Option (Nat × Nat)} {p : Nat × Nat} (hl : ai_lr ρ ls cl) (h1 : ai_ld ls i = some (.inl q)) (h2 : q.2.2 = some p) : ai_rho cl i + 8589934592 = ρ p.1 + p.2 := by
  obtain ⟨v, g1, m, rfl, -, -, -, g5⟩ := hl _ _ h1
  rw [h2] at g5
  unfold ai_rho
  rw [g1]
  exact g5
theorem ai_rkd_ok {ls : ai_L} {cl : en_L} (hl : ai_lr ρ ls cl) (hρ : ∀ i, ρ i < 4294967296) : ∀ {l0 l1 : List (Nat × Nat)}, l0.length = l1.length → ai_rkd ls l0 l1 = true → ai_rkv (ai_rho cl) l1 < ai_rkv ρ l0
  | [], _, _, h => by cases h
  | _ :: _, [], _, h => by cases h
  | e0 :: r0, e1 :: r1, hlen, h => by
    have hlen : r0.length = r1.length := Nat.succ.inj hlen
    have h : (bif Nat.beq e0.1 e1.1 then (match e0.1 with
      | 0 => bif Nat.blt (e1.2 % 17179869184) (e0.2 % 17179869184) then true else bif Nat.beq (e1.2 % 17179869184) (e0.2 % 17179869184) then ai_rkd ls r0 r1 else false
      | 1 => bif Nat.beq e0.2 e1.2 then (match ai_ld ls e1.2 with
        | some (.inl q) => (match q.2.2 with
          | some p => bif Nat.beq p.1 e1.2 then (bif Nat.blt 8589934592 p.2 then true else bif Nat.beq 8589934592 p.2 then ai_rkd ls r0 r1 else false) else false
          | none => false)
        | _ => false) else false
      | _ => bif Nat.beq e0.2 e1.2 then (match ai_ld ls e1.2 with
        | some (.inl q) => (match q.2.2 with
          | some p => bif Nat.beq p.1 e1.2 then (bif Nat.blt p.2 8589934592 then true else bif Nat.beq 8589934592 p.2 then ai_rkd ls r0 r1 else false) else false
          | none => false)
        | _ => false) else false) else false) = true := h
    have h9 : ai_rkv (ai_rho cl) r1 < 17179869184 ^ r1.length := ai_rkv_lt (ai_rho_lt cl) r1
    have fin : ai_cmp (ai_rho cl) e1 < ai_cmp ρ e0 ∨ (ai_cmp (ai_rho cl) e1 = ai_cmp ρ e0 ∧ ai_rkd ls r0 r1 = true) → ai_rkv (ai_rho cl) (e1 :: r1) < ai_rkv ρ (e0 :: r0) := by
      intro hc
      show ai_cmp (ai_rho cl) e1 * 17179869184 ^ r1.length + ai_rkv (ai_rho cl) r1 < ai_cmp ρ e0 * 17179869184 ^ r0.length + ai_rkv ρ r0
      rw [hlen]
      rcases hc with hc | ⟨hc, hr⟩
      · exact ai_lex hc h9
      · rw [hc]
        exact Nat.add_lt_add_left (ai_rkd_ok hl hρ hlen hr) _
    have cases2 : ∀ {x : Bool} {y : Bool}, (bif x then true else y) = true → x = true ∨ y = true := fun {x y} h => by
      cases x with
      | true => exact Or.inl rfl
      | false => exact Or.inr h
    have and2 : ∀ {x : Bool} {y : Bool}, (bif x then y else false) = true → x = true ∧ y = true := fun {x y} h => by
      cases x with
      | true => exact ⟨rfl, h⟩
      | false => cases h
    obtain ⟨c0, h⟩ := and2 h
    have c0 := Nat.eq_of_beq_eq_true c0
    obtain ⟨k0, i0⟩ := e0
    obtain ⟨k1, i1⟩ := e1
    have c0 : k0 = k1 := c0
    subst c0
    apply fin
    match k0, h with
    | 0, h =>
      have h : (bif Nat.blt (i1 % 17179869184) (i0 % 17179869184) then true else bif Nat.beq (i1 % 17179869184) (i0 % 17179869184) then ai_rkd ls r0 r1 else false) = true := h
      rcases cases2 h with h | h
      · exact Or.inl (Nat.le_of_ble_eq_true h)
      · obtain ⟨h1, h2⟩ := and2 h
        exact Or.inr ⟨Nat.eq_of_beq_eq_true h1, h2⟩
    | 1, h =>
      obtain ⟨d1, h⟩ := and2 h
      have d1 : i0 = i1 := Nat.eq_of_beq_eq_true d1
      subst d1
      dsimp only at h
      split at h
      · rename_i q hq
        split at h
        · rename_i p hp
          obtain ⟨d2, h⟩ := and2 h
          have d2 := Nat.eq_of_beq_eq_true d2
          have ht := ai_tag_at hl hq hp
          rw [d2] at ht
          have b1 := hρ i0
          have b2 := ai_rho_lt cl i0
          rcases cases2 h with h | h
          · have h : 8589934592 < p.2 := Nat.le_of_ble_eq_true h
            refine Or.inl ?_
            show 8589934592 - ai_rho cl i0 < 8589934592 - ρ i0
            omega
          · obtain ⟨h1, h2⟩ := and2 h
            have h1 := Nat.eq_of_beq_eq_true h1
            refine Or.inr ⟨?_, h2⟩
            show 8589934592 - ai_rho cl i0 = 8589934592 - ρ i0
            omega
        · cases h
      · cases h
    | k + 2, h =>
      obtain ⟨d1, h⟩ := and2 h
      have d1 : i0 = i1 := Nat.eq_of_beq_eq_true d1
      subst d1
      dsimp only at h
      split at h
      · rename_i q hq
        split at h
        · rename_i p hp
          obtain ⟨d2, h⟩ := and2 h
          have d2 := Nat.eq_of_beq_eq_true d2
          have ht := ai_tag_at hl hq hp
          rw [d2] at ht
          rcases cases2 h with h | h
          · have h : p.2 < 8589934592 := Nat.le_of_ble_eq_true h
            refine Or.inl ?_
            show ai_rho cl i0 < ρ i0
            omega
          · obtain ⟨h1, h2⟩ := and2 h
            have h1 := Nat.eq_of_beq_eq_true h1
            refine Or.inr ⟨?_, h2⟩
            show ai_rho cl i0 = ρ i0
            omega
        · cases h
      · cases h
end AI8
