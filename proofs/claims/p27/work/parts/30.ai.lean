section AI1
/-! ### abstract values: ints by their bounds (each 2147483648 more) and perhaps a number of places from an older value; longs; references by their codes -/
noncomputable abbrev ai_v : Type := (Nat × Nat × Option (Nat × Nat)) ⊕ (Option Nat ⊕ Nat)
noncomputable abbrev ai_h : Type := (Nat × Nat) ⊕ (Nat ⊕ List Nat)
noncomputable abbrev ai_O : Type := List (Nat × Nat × ai_h)
noncomputable abbrev ai_L : Type := List (Nat × ai_v)
noncomputable abbrev ai_S : Type := Nat × ai_L × List ai_v × ai_O
noncomputable abbrev ai_g : Type := Bool × Nat × Nat × List (Nat × ai_h)
noncomputable abbrev ai_G : Type := Nat → Option ai_g
noncomputable abbrev ai_W : Type := List (Nat × Nat × Nat)
noncomputable def ai_off (m : Nat) : Nat := (m + 2147483648) % 4294967296
noncomputable def ai_sets : List (List Nat) := [[148, 149, 150, 151, 152, 153, 154, 155, 156, 157, 158, 159, 160, 161, 162, 163, 164, 165, 166, 167, 168, 169, 170, 171, 172, 173, 174, 175, 176, 177, 178], [181, 182, 183, 184, 185, 186, 187], [241, 242, 243, 244, 245, 246, 247, 248, 249, 250, 251, 252, 253, 254, 255, 256], [307, 308, 309, 310, 311, 312, 313, 314, 315, 316, 317, 318, 319, 320, 321, 322]]
noncomputable def ai_set (s : Nat) : List Nat := match en_nth ai_sets s with
  | some l => l
  | none => []
/-- (s + 48: a cell of the set s) a reference's code: 0 null, 1 some word, j + 2 the static j, k + 100 the cell k -/
noncomputable def ai_rc (c : Nat) (v : en_V) : Prop := (c = 0 ∧ v = .inr (.inr (.inl none))) ∨ (c = 1 ∧ ∃ w, w < 42 ∧ v = .inr (.inr (.inr (.inl (w + 3))))) ∨ (∃ j, c = j + 2 ∧ j < 46 ∧ v = .inr (.inr (.inr (.inl (j + 1))))) ∨ (∃ k, c = k + 100 ∧ v = .inr (.inr (.inl (some k)))) ∨ ∃ s k, c = s + 48 ∧ s < 52 ∧ k ∈ ai_set s ∧ v = .inr (.inr (.inl (some k)))
noncomputable def ai_tg (ρ : Nat → Nat) (x : Nat) : Option (Nat × Nat) → Prop
  | none => True
  | some q => x + 8589934592 = ρ q.1 + q.2
noncomputable def ai_rv (ρ : Nat → Nat) : ai_v → en_V → Prop
  | .inl q, v => ∃ m, v = .inl m ∧ m < 4294967296 ∧ q.1 ≤ ai_off m ∧ ai_off m ≤ q.2.1 ∧ ai_tg ρ (ai_off m) q.2.2
  | .inr (.inl none), v => ∃ m, v = .inr (.inl m)
  | .inr (.inl (some c)), v => v = .inr (.inl c)
  | .inr (.inr c), v => ai_rc c v
noncomputable def ai_rh : ai_h → en_V → Prop
  | .inl q, v => ∃ m, v = .inl m ∧ m < 4294967296 ∧ q.1 ≤ ai_off m ∧ ai_off m ≤ q.2
  | .inr (.inl _), v => ∃ m, v = .inr (.inl m)
  | .inr (.inr cs), v => ∃ c ∈ cs, ai_rc c v
noncomputable def ai_cat : ai_v → Nat
  | .inl _ => 1
  | .inr (.inl _) => 2
  | .inr (.inr _) => 1
noncomputable def ai_kd : ai_v → Nat
  | .inl _ => 0
  | .inr (.inl _) => 1
  | .inr (.inr _) => 2
theorem ai_rc_kd {c : Nat} {v : en_V} (h : ai_rc c v) : en_kd v = 2 := by
  rcases h with ⟨-, rfl⟩ | ⟨-, w, -, rfl⟩ | ⟨j, -, -, rfl⟩ | ⟨k, -, rfl⟩ | ⟨s, k, -, -, -, rfl⟩ <;> rfl
theorem ai_rv_kd {ρ : Nat → Nat} {a : ai_v} {v : en_V} (h : ai_rv ρ a v) : en_kd v = ai_kd a := by
  match a, h with
  | .inl q, h => obtain ⟨m, rfl, -⟩ := h; rfl
  | .inr (.inl none), h => obtain ⟨m, rfl⟩ := h; rfl
  | .inr (.inl (some c)), h => cases h; rfl
  | .inr (.inr c), h => exact ai_rc_kd h
theorem ai_rv_cat {ρ : Nat → Nat} {a : ai_v} {v : en_V} (h : ai_rv ρ a v) : en_cat v = ai_cat a := by
  have hk := ai_rv_kd h
  unfold en_cat
  rw [hk]
  match a with
  | .inl q => rfl
  | .inr (.inl q) => rfl
  | .inr (.inr c) => rfl
noncomputable def ai_rvs (ρ : Nat → Nat) : List ai_v → List en_V → Prop
  | [], [] => True
  | a :: as, v :: vs => ai_rv ρ a v ∧ ai_rvs ρ as vs
  | [], _ :: _ => False
  | _ :: _, [] => False
theorem ai_rvs_cons {ρ : Nat → Nat} {a : ai_v} {as : List ai_v} {vs : List en_V} (h : ai_rvs ρ (a :: as) vs) : ∃ v ws, vs = v :: ws ∧ ai_rv ρ a v ∧ ai_rvs ρ as ws := by
  cases vs with
  | nil => exact absurd h (by simp [ai_rvs])
  | cons v ws => exact ⟨v, ws, rfl, h.1, h.2⟩
theorem ai_rvs_nil {ρ : Nat → Nat} {vs : List en_V} (h : ai_rvs ρ [] vs) : vs = [] := by
  cases vs with
  | nil => rfl
  | cons v ws => exact absurd h (by simp [ai_rvs])
theorem ai_rvs_app {ρ : Nat → Nat} : ∀ {as bs : List ai_v} {vs ws : List en_V}, ai_rvs ρ as vs → ai_rvs ρ bs ws → ai_rvs ρ (as ++ bs) (vs ++ ws)
  | [], bs, vs, ws, h1, h2 => by rw [ai_rvs_nil h1]; exact h2
  | a :: as, bs, vs, ws, h1, h2 => by
    obtain ⟨v, vs', rfl, g1, g2⟩ := ai_rvs_cons h1
    exact ⟨g1, ai_rvs_app g2 h2⟩
noncomputable def ai_sum (l : List ai_v) : Nat := List.rec (motive := fun _ => Nat) 0 (fun a _ ih => ai_cat a + ih) l
theorem ai_sum_ok {ρ : Nat → Nat} : ∀ {as : List ai_v} {vs : List en_V}, ai_rvs ρ as vs → en_sum vs = ai_sum as
  | [], vs, h => by rw [ai_rvs_nil h]; rfl
  | a :: as, vs, h => by
    obtain ⟨v, ws, rfl, h1, h2⟩ := ai_rvs_cons h
    show en_cat v + en_sum ws = ai_cat a + ai_sum as
    rw [ai_rv_cat h1, ai_sum_ok h2]
noncomputable def ai_take (m : Nat) : List ai_v → List ai_v → Option (List ai_v × List ai_v) := Nat.rec (motive := fun _ => List ai_v → List ai_v → Option (List ai_v × List ai_v)) (fun st acc => some (acc, st)) (fun _ ih st acc => match st with
  | a :: r => ih r (a :: acc)
  | [] => none) m
theorem ai_take_ok {ρ : Nat → Nat} : ∀ (m : Nat) {st acc as rest : List ai_v} {cs cacc : List en_V}, ai_take m st acc = some (as, rest) → ai_rvs ρ st cs → ai_rvs ρ acc cacc → ∃ cas crest, en_take m cs cacc = some (cas, crest) ∧ ai_rvs ρ as cas ∧ ai_rvs ρ rest crest
  | 0, st, acc, as, rest, cs, cacc, h, h1, h2 => by
    cases h
    exact ⟨cacc, cs, rfl, h2, h1⟩
  | m + 1, [], acc, as, rest, cs, cacc, h, h1, h2 => by cases h
  | m + 1, a :: st, acc, as, rest, cs, cacc, h, h1, h2 => by
    obtain ⟨v, ws, rfl, g1, g2⟩ := ai_rvs_cons h1
    exact ai_take_ok (cacc := v :: cacc) m (st := st) (acc := a :: acc) h g2 ⟨g1, h2⟩
/-! ### locals -/
noncomputable def ai_rls (ρ : Nat → Nat) : ai_L → en_L → Prop
  | [], [] => True
  | a :: as, v :: vs => (a.1 = v.1 ∧ ai_rv ρ a.2 v.2) ∧ ai_rls ρ as vs
  | [], _ :: _ => False
  | _ :: _, [] => False
theorem ai_rls_cons {ρ : Nat → Nat} {a : Nat × ai_v} {as : ai_L} {vs : en_L} (h : ai_rls ρ (a :: as) vs) : ∃ v ws, vs = v :: ws ∧ a.1 = v.1 ∧ ai_rv ρ a.2 v.2 ∧ ai_rls ρ as ws := by
  cases vs with
  | nil => exact absurd h (by simp [ai_rls])
  | cons v ws => exact ⟨v, ws, rfl, h.1.1, h.1.2, h.2⟩
theorem ai_rls_nil {ρ : Nat → Nat} {vs : en_L} (h : ai_rls ρ [] vs) : vs = [] := by
  cases vs with
  | nil => rfl
  | cons v ws => exact absurd h (by simp [ai_rls])
noncomputable def ai_ld (ls : ai_L) (i : Nat) : Option ai_v := List.rec (motive := fun _ => Option ai_v) none (fun q _ ih => bif Nat.beq q.1 i then some q.2 else ih) ls
theorem ai_ld_ok {ρ : Nat → Nat} {i : Nat} {a : ai_v} : ∀ {ls : ai_L} {vs : en_L}, ai_rls ρ ls vs → ai_ld ls i = some a → ∃ v, en_ld vs i = some v ∧ ai_rv ρ a v
  | [], _, _, h => by cases h
  | q :: ls, vs, hr, h => by
    obtain ⟨v, ws, rfl, h1, h2, h3⟩ := ai_rls_cons hr
    have h : (bif Nat.beq q.1 i then some q.2 else ai_ld ls i) = some a := h
    show ∃ w, (bif Nat.beq v.1 i then some v.2 else en_ld ws i) = some w ∧ _
    rw [← h1]
    cases hq : Nat.beq q.1 i with
    | true =>
      rw [hq] at h
      cases h
      exact ⟨v.2, rfl, h2⟩
    | false =>
      rw [hq] at h
      exact ai_ld_ok h3 h
noncomputable def ai_keep1 (i : Nat) (q : Nat × ai_v) : Bool := bif Nat.beq q.1 i then false else bif Nat.beq (q.1 + 1) i then Nat.beq (ai_cat q.2) 1 else true
noncomputable def ai_keep2 (i : Nat) (q : Nat × ai_v) : Bool := bif Nat.beq q.1 (i + 1) then false else ai_keep1 i q
theorem ai_flt_ok {ρ : Nat → Nat} {g : Nat × ai_v → Bool} {g' : Nat × en_V → Bool} (hg : ∀ (a : Nat × ai_v) (v : Nat × en_V), a.1 = v.1 → ai_rv ρ a.2 v.2 → g a = g' v) :
    ∀ {as : ai_L} {vs : en_L}, ai_rls ρ as vs → ai_rls ρ (en_flt g as) (en_flt g' vs)
  | [], vs, h => by rw [ai_rls_nil h]; exact trivial
  | a :: as, vs, h => by
    obtain ⟨v, ws, rfl, h1, h2, h3⟩ := ai_rls_cons h
    have ih := ai_flt_ok hg h3
    show ai_rls ρ (bif g a then a :: en_flt g as else en_flt g as) (bif g' v then v :: en_flt g' ws else en_flt g' ws)
    rw [hg a v h1 h2]
    cases hv : g' v with
    | true => exact ⟨⟨h1, h2⟩, ih⟩
    | false => exact ih
theorem ai_keep1_ok {ρ : Nat → Nat} (i : Nat) (a : Nat × ai_v) (v : Nat × en_V) (h1 : a.1 = v.1) (h2 : ai_rv ρ a.2 v.2) : ai_keep1 i a = en_keep1 i v := by
  unfold ai_keep1 en_keep1
  rw [h1, ai_rv_cat h2]
theorem ai_keep2_ok {ρ : Nat → Nat} (i : Nat) (a : Nat × ai_v) (v : Nat × en_V) (h1 : a.1 = v.1) (h2 : ai_rv ρ a.2 v.2) : ai_keep2 i a = en_keep2 i v := by
  unfold ai_keep2 en_keep2
  rw [ai_keep1_ok i a v h1 h2, h1]
noncomputable def ai_args (as : List ai_v) : Nat → ai_L := List.rec (motive := fun _ => Nat → ai_L) (fun _ => []) (fun a _ ih i => (i, a) :: ih (bif Nat.beq (ai_cat a) 2 then i + 2 else i + 1)) as
theorem ai_args_ok {ρ : Nat → Nat} : ∀ {as : List ai_v} {vs : List en_V} (i : Nat), ai_rvs ρ as vs → ai_rls ρ (ai_args as i) (en_args vs i)
  | [], vs, i, h => by rw [ai_rvs_nil h]; exact trivial
  | a :: as, vs, i, h => by
    obtain ⟨v, ws, rfl, h1, h2⟩ := ai_rvs_cons h
    refine ⟨⟨rfl, h1⟩, ?_⟩
    show ai_rls ρ (ai_args as (bif Nat.beq (ai_cat a) 2 then i + 2 else i + 1)) (en_args ws (bif Nat.beq (en_cat v) 2 then i + 2 else i + 1))
    rw [ai_rv_cat h1]
    exact ai_args_ok _ h2
/-! ### what lies within what -/
noncomputable def ai_mem (c : Nat) (cs : List Nat) : Bool := List.rec (motive := fun _ => Bool) false (fun a _ ih => bif Nat.beq a c then true else ih) cs
theorem ai_mem_ok {c : Nat} {cs : List Nat} (h : ai_mem c cs = true) : c ∈ cs := by
  induction cs with
  | nil => cases h
  | cons a cs ih =>
    have h : (bif Nat.beq a c then true else ai_mem c cs) = true := h
    cases hq : Nat.beq a c with
    | true => rw [Nat.eq_of_beq_eq_true hq]; exact List.mem_cons_self
    | false => rw [hq] at h; exact List.mem_cons_of_mem _ (ih h)
/-- a code is within another one -/
noncomputable def ai_cle (a b : Nat) : Bool := bif Nat.beq a b then true else bif Nat.beq b 1 && (Nat.ble 4 a && Nat.ble a 45) then true else (Nat.ble 48 b && Nat.blt b 100) && (Nat.ble 100 a && ai_mem (a - 100) (ai_set (b - 48)))
theorem ai_cle_ok {a b : Nat} {v : en_V} (h : ai_cle a b = true) (hv : ai_rc a v) : ai_rc b v := by
  unfold ai_cle at h
  cases hq : Nat.beq a b with
  | true => rw [← Nat.eq_of_beq_eq_true hq]; exact hv
  | false =>
    rw [hq] at h
    dsimp only [cond] at h
    cases hw : (Nat.beq b 1 && (Nat.ble 4 a && Nat.ble a 45)) with
    | true =>
      simp only [Bool.and_eq_true] at hw
      have h1 := Nat.eq_of_beq_eq_true hw.1
      have h2 := Nat.le_of_ble_eq_true hw.2.1
      have h3 := Nat.le_of_ble_eq_true hw.2.2
      subst h1
      rcases hv with ⟨e, -⟩ | ⟨e, -⟩ | ⟨j, e, -, rfl⟩ | ⟨k, e, -⟩ | ⟨s, k, e, -⟩
      · omega
      · omega
      · exact Or.inr (Or.inl ⟨rfl, j - 2, by omega, by rw [show j - 2 + 3 = j + 1 by omega]⟩)
      · omega
      · omega
    | false =>
      rw [hw] at h
      simp only [cond_false, Bool.and_eq_true] at h
      have h1 := Nat.le_of_ble_eq_true h.1.1
      have h2 : b < 100 := Nat.le_of_ble_eq_true h.1.2
      have h3 := Nat.le_of_ble_eq_true h.2.1
      have h4 := ai_mem_ok h.2.2
      refine Or.inr (Or.inr (Or.inr (Or.inr ⟨b - 48, a - 100, by omega, by omega, h4, ?_⟩)))
      rcases hv with ⟨e, -⟩ | ⟨e, -⟩ | ⟨j, e, hj, -⟩ | ⟨k, e, rfl⟩ | ⟨s, k, e, hs, -⟩
      · omega
      · omega
      · omega
      · rw [e, Nat.add_sub_cancel]
      · omega
noncomputable def ai_cin (c : Nat) (cs : List Nat) : Bool := List.rec (motive := fun _ => Bool) false (fun a _ ih => bif ai_cle c a then true else ih) cs
theorem ai_cin_ok {c : Nat} {cs : List Nat} {v : en_V} (h : ai_cin c cs = true) (hv : ai_rc c v) : ∃ a ∈ cs, ai_rc a v := by
  induction cs with
  | nil => cases h
  | cons a cs ih =>
    have h : (bif ai_cle c a then true else ai_cin c cs) = true := h
    cases hq : ai_cle c a with
    | true => exact ⟨a, List.mem_cons_self, ai_cle_ok hq hv⟩
    | false =>
      rw [hq] at h
      obtain ⟨b, hb, h2⟩ := ih h
      exact ⟨b, List.mem_cons_of_mem _ hb, h2⟩
noncomputable def ai_all {α : Type} (p : α → Bool) (l : List α) : Bool := List.rec (motive := fun _ => Bool) true (fun a _ ih => bif p a then ih else false) l
theorem ai_all_ok {α : Type} {p : α → Bool} {l : List α} (h : ai_all p l = true) : ∀ a ∈ l, p a = true := by
  induction l with
  | nil => intro a ha; cases ha
  | cons b l ih =>
    have h : (bif p b then ai_all p l else false) = true := h
    cases hp : p b with
    | false => rw [hp] at h; cases h
    | true =>
      rw [hp] at h
      intro a ha
      rcases List.mem_cons.mp ha with rfl | ha
      · exact hp
      · exact ih h a ha
noncomputable def ai_any {α : Type} (p : α → Bool) (l : List α) : Bool := List.rec (motive := fun _ => Bool) false (fun a _ ih => bif p a then true else ih) l
theorem ai_any_ok {α : Type} {p : α → Bool} {l : List α} (h : ai_any p l = true) : ∃ a ∈ l, p a = true := by
  induction l with
  | nil => cases h
  | cons b l ih =>
    have h : (bif p b then true else ai_any p l) = true := h
    cases hp : p b with
    | true => exact ⟨b, List.mem_cons_self, hp⟩
    | false =>
      rw [hp] at h
      obtain ⟨a, ha, h2⟩ := ih h
      exact ⟨a, List.mem_cons_of_mem _ ha, h2⟩
noncomputable def ai_hle : ai_h → ai_h → Bool
  | .inl p, .inl q => Nat.ble q.1 p.1 && Nat.ble p.2 q.2
  | .inr (.inl _), .inr (.inl _) => true
  | .inr (.inr cs), .inr (.inr ds) => ai_all (fun c => ai_cin c ds) cs
  | _, _ => false
theorem ai_hle_ok {a b : ai_h} {v : en_V} (h : ai_hle a b = true) (hv : ai_rh a v) : ai_rh b v := by
  match a, b, h, hv with
  | .inl p, .inl q, h, ⟨m, e, h1, h2, h3⟩ =>
    have h : (Nat.ble q.1 p.1 && Nat.ble p.2 q.2) = true := h
    rw [Bool.and_eq_true] at h
    exact ⟨m, e, h1, Nat.le_trans (Nat.le_of_ble_eq_true h.1) h2, Nat.le_trans h3 (Nat.le_of_ble_eq_true h.2)⟩
  | .inr (.inl _), .inr (.inl _), _, hv => exact hv
  | .inr (.inr cs), .inr (.inr ds), h, ⟨c, hc, hv⟩ => exact ai_cin_ok (ai_all_ok h c hc) hv
/-- a value as a slot would hold it -/
noncomputable def ai_v2h : ai_v → ai_h
  | .inl q => .inl (q.1, q.2.1)
  | .inr (.inl _) => .inr (.inl 0)
  | .inr (.inr c) => .inr (.inr [c])
theorem ai_v2h_ok {ρ : Nat → Nat} {a : ai_v} {v : en_V} (h : ai_rv ρ a v) : ai_rh (ai_v2h a) v := by
  match a, h with
  | .inl q, ⟨m, e, h1, h2, h3, _⟩ => exact ⟨m, e, h1, h2, h3⟩
  | .inr (.inl none), h => exact h
  | .inr (.inl (some c)), h => exact ⟨c, h⟩
  | .inr (.inr c), h => exact ⟨c, List.mem_cons_self, h⟩
/-- the values that a slot may hold, one by one -/
noncomputable def ai_h2v : ai_h → List ai_v
  | .inl q => [.inl (q.1, q.2, none)]
  | .inr (.inl _) => [.inr (.inl none)]
  | .inr (.inr cs) => cs.map (fun c => .inr (.inr c))
theorem ai_h2v_ok (ρ : Nat → Nat) {h : ai_h} {v : en_V} (hv : ai_rh h v) : ∃ a ∈ ai_h2v h, ai_rv ρ a v := by
  match h, hv with
  | .inl q, ⟨m, e, h1, h2, h3⟩ => exact ⟨_, List.mem_cons_self, m, e, h1, h2, h3, trivial⟩
  | .inr (.inl _), hv => exact ⟨_, List.mem_cons_self, hv⟩
  | .inr (.inr cs), ⟨c, hc, hv⟩ => exact ⟨_, List.mem_map.mpr ⟨c, hc, rfl⟩, hv⟩
noncomputable def ai_teq (a b : Option (Nat × Nat)) : Bool := match a, b with
  | some p, some q => Nat.beq p.1 q.1 && Nat.beq p.2 q.2
  | _, none => true
  | none, some _ => false
theorem ai_teq_ok {ρ : Nat → Nat} {x : Nat} {a b : Option (Nat × Nat)} (h : ai_teq a b = true) (ha : ai_tg ρ x a) : ai_tg ρ x b := by
  match a, b, h with
  | some p, some q, h =>
    have h : (Nat.beq p.1 q.1 && Nat.beq p.2 q.2) = true := h
    rw [Bool.and_eq_true] at h
    have h1 := Nat.eq_of_beq_eq_true h.1
    have h2 := Nat.eq_of_beq_eq_true h.2
    have ha : x + 8589934592 = ρ p.1 + p.2 := ha
    show x + 8589934592 = ρ q.1 + q.2
    rw [← h1, ← h2]
    exact ha
  | some _, none, _ => exact trivial
  | none, none, _ => exact trivial
noncomputable def ai_vle : ai_v → ai_v → Bool
  | .inl p, .inl q => Nat.ble q.1 p.1 && (Nat.ble p.2.1 q.2.1 && ai_teq p.2.2 q.2.2)
  | .inr (.inl _), .inr (.inl none) => true
  | .inr (.inl (some a)), .inr (.inl (some b)) => Nat.beq a b
  | .inr (.inr a), .inr (.inr b) => ai_cle a b
  | _, _ => false
theorem ai_vle_ok {ρ : Nat → Nat} {a b : ai_v} {v : en_V} (h : ai_vle a b = true) (hv : ai_rv ρ a v) : ai_rv ρ b v := by
  match a, b, h, hv with
  | .inl p, .inl q, h, ⟨m, e, h1, h2, h3, h4⟩ =>
    have h : (Nat.ble q.1 p.1 && (Nat.ble p.2.1 q.2.1 && ai_teq p.2.2 q.2.2)) = true := h
    simp only [Bool.and_eq_true] at h
    exact ⟨m, e, h1, Nat.le_trans (Nat.le_of_ble_eq_true h.1) h2, Nat.le_trans h3 (Nat.le_of_ble_eq_true h.2.1), ai_teq_ok h.2.2 h4⟩
  | .inr (.inl none), .inr (.inl none), _, hv => exact hv
  | .inr (.inl (some c)), .inr (.inl none), _, hv => exact ⟨c, hv⟩
  | .inr (.inl (some a)), .inr (.inl (some b)), h, hv =>
    have h := Nat.eq_of_beq_eq_true h
    subst h
    exact hv
  | .inr (.inr a), .inr (.inr b), h, hv => exact ai_cle_ok h hv
noncomputable def ai_vsle (l : List ai_v) : List ai_v → Bool := List.rec (motive := fun _ => List ai_v → Bool) (fun r => List.rec (motive := fun _ => Bool) true (fun _ _ _ => false) r) (fun a _ ih r => List.rec (motive := fun _ => Bool) false (fun b r' _ => bif ai_vle a b then ih r' else false) r) l
theorem ai_vsle_ok {ρ : Nat → Nat} : ∀ {as bs : List ai_v} {vs : List en_V}, ai_vsle as bs = true → ai_rvs ρ as vs → ai_rvs ρ bs vs
  | [], [], vs, _, h => h
  | [], _ :: _, vs, h, _ => by cases h
  | _ :: _, [], vs, h, _ => by cases h
  | a :: as, b :: bs, vs, h, hv => by
    have h : (bif ai_vle a b then ai_vsle as bs else false) = true := h
    obtain ⟨v, ws, rfl, h1, h2⟩ := ai_rvs_cons hv
    cases hq : ai_vle a b with
    | false => rw [hq] at h; cases h
    | true =>
      rw [hq] at h
      exact ⟨ai_vle_ok hq h1, ai_vsle_ok h h2⟩
end AI1
