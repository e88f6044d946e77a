section EN
noncomputable abbrev en_V : Type := Nat ⊕ (Nat ⊕ (Option Nat ⊕ (Nat ⊕ (Nat × Nat))))
noncomputable abbrev en_C : Type := (Nat × List en_V) ⊕ (Nat × List en_V)
noncomputable abbrev en_H : Type := List (List en_C)
noncomputable abbrev en_L : Type := List (Nat × en_V)
noncomputable abbrev en_S : Type := Nat × en_L × List en_V × en_H × Nat × Nat
noncomputable abbrev en_R : Type := Option en_V × en_H × Nat × Nat
noncomputable abbrev en_O : Type := en_R ⊕ en_S
noncomputable abbrev en_I : Type := Instr × Nat × Nat × Nat
noncomputable abbrev en_F : Type := Nat → List en_V → en_H → Nat → Option en_R
noncomputable abbrev en_K : Type := Nat → en_L → List en_V → en_H → Nat → Nat → Option en_O
/-- the place n of a list, by the recursor: the kernel goes through it fast -/
noncomputable def en_nth {α : Type} (l : List α) : Nat → Option α :=
  List.rec (motive := fun _ => Nat → Option α) (fun _ => none) (fun a _ ih n => Nat.rec (motive := fun _ => Option α) (some a) (fun m _ => ih m) n) l
theorem en_nth_eq {α : Type} (l : List α) (n : Nat) : en_nth l n = l[n]? := by
  induction l generalizing n with
  | nil => exact List.getElem?_nil.symm
  | cons a l ih =>
    cases n with
    | zero => rfl
    | succ n => exact (ih n).trans List.getElem?_cons_succ.symm
noncomputable def en_upd {α : Type} (l : List α) : Nat → α → List α :=
  List.rec (motive := fun _ => Nat → α → List α) (fun _ _ => []) (fun a t ih n x => Nat.rec (motive := fun _ => List α) (x :: t) (fun m _ => a :: ih m x) n) l
theorem en_upd_eq {α : Type} (l : List α) (n : Nat) (x : α) : en_upd l n x = l.set n x := by
  induction l generalizing n with
  | nil => rfl
  | cons a l ih =>
    cases n with
    | zero => rfl
    | succ n => exact congrArg (a :: ·) (ih n)
noncomputable def en_rep {α : Type} (n : Nat) (a : α) : List α := Nat.rec (motive := fun _ => List α) [] (fun _ ih => a :: ih) n
theorem en_rep_eq {α : Type} (n : Nat) (a : α) : en_rep n a = List.replicate n a := by
  induction n with
  | zero => rfl
  | succ n ih => exact congrArg (a :: ·) ih
noncomputable def en_flt {α : Type} (g : α → Bool) (l : List α) : List α := List.rec (motive := fun _ => List α) [] (fun a _ ih => bif g a then a :: ih else ih) l
theorem en_flt_eq {α : Type} (g : α → Bool) (l : List α) : en_flt g l = l.filter g := by
  induction l with
  | nil => rfl
  | cons a l ih =>
    show (bif g a then a :: en_flt g l else en_flt g l) = _
    rw [ih, List.filter_cons]
    cases g a <;> rfl
noncomputable def en_len {α : Type} (l : List α) : Nat := List.rec (motive := fun _ => Nat) 0 (fun _ _ ih => Nat.succ ih) l
theorem en_len_eq {α : Type} (l : List α) : en_len l = l.length := by
  induction l with
  | nil => rfl
  | cons a l ih => exact congrArg Nat.succ ih
/-! ### the heap: rows of 24 cells -/
noncomputable def en_ph : en_C := .inr (99, [])
noncomputable def en_get (t : en_H) (k : Nat) : Option en_C := match en_nth t (k / 24) with
  | none => none
  | some r => en_nth r (k % 24)
noncomputable def en_set (t : en_H) (k : Nat) (c : en_C) : en_H := match en_nth t (k / 24) with
  | none => t
  | some r => en_upd t (k / 24) (en_upd r (k % 24) c)
theorem en_get_set {t : en_H} {k : Nat} {c c0 : en_C} (h : en_get t k = some c0) (j : Nat) : en_get (en_set t k c) j = if j = k then some c else en_get t j := by
  unfold en_get at h
  unfold en_set
  cases hr : en_nth t (k / 24) with
  | none => rw [hr] at h; cases h
  | some r =>
    rw [hr] at h
    dsimp only at h
    rw [en_nth_eq] at hr h
    have l1 := (List.getElem?_eq_some_iff.mp hr).1
    have l2 := (List.getElem?_eq_some_iff.mp h).1
    show en_get (en_upd t (k / 24) (en_upd r (k % 24) c)) j = _
    rw [en_upd_eq, en_upd_eq]
    unfold en_get
    simp only [en_nth_eq]
    by_cases h1 : j / 24 = k / 24
    · rw [h1, List.getElem?_set_self l1]
      dsimp only
      by_cases h2 : j % 24 = k % 24
      · rw [if_pos (by first | decide | omega), h2, List.getElem?_set_self l2]
      · rw [if_neg (by intro q; exact h2 (by rw [q])), List.getElem?_set_ne (Ne.symm h2), hr]
    · rw [if_neg (by intro q; exact h1 (by rw [q])), List.getElem?_set_ne (Ne.symm h1)]
/-! ### values -/
noncomputable def en_kd : en_V → Nat
  | .inl _ => 0
  | .inr (.inl _) => 1
  | .inr (.inr (.inl _)) => 2
  | .inr (.inr (.inr (.inl 0))) => 1
  | .inr (.inr (.inr (.inl (_ + 1)))) => 2
  | .inr (.inr (.inr (.inr _))) => 0
noncomputable def en_cat (a : en_V) : Nat := bif Nat.beq (en_kd a) 1 then 2 else 1
noncomputable def en_rv (ba : Nat) (ex : Nat → Nat) : en_V → Value → Prop
  | .inl n, v => v = .int (nI n)
  | .inr (.inl n), v => v = .long (lN n)
  | .inr (.inr (.inl r)), v => v = va_rf (r.map (fun k => ba + k))
  | .inr (.inr (.inr (.inl 0))), v => ∃ x : Int64, v = .long x
  | .inr (.inr (.inr (.inl (j + 1)))), v => v = .ref (ex j)
  | .inr (.inr (.inr (.inr q))), v => ∃ x : Int32, v = .int x ∧ (q.1 : Int) ≤ x.toInt + 2147483648 ∧ x.toInt + 2147483648 ≤ (q.2 : Int)
noncomputable def en_cv (ba : Nat) (ex : Nat → Nat) : en_V → Value
  | .inl n => .int (nI n)
  | .inr (.inl n) => .long (lN n)
  | .inr (.inr (.inl r)) => va_rf (r.map (fun k => ba + k))
  | .inr (.inr (.inr (.inl 0))) => .null
  | .inr (.inr (.inr (.inl (j + 1)))) => .ref (ex j)
  | .inr (.inr (.inr (.inr _))) => .null
theorem en_kd0 {ba : Nat} {ex : Nat → Nat} {a : en_V} {v : Value} (h : en_rv ba ex a v) (k : en_kd a = 0) : ∃ x : Int32, v = .int x := by
  match a, h, k with
  | .inl n, h, _ => exact ⟨_, h⟩
  | .inr (.inr (.inr (.inr q))), h, _ => obtain ⟨x, h, -⟩ := h; exact ⟨x, h⟩
  | .inr (.inl n), _, k => cases k
  | .inr (.inr (.inl r)), _, k => cases k
  | .inr (.inr (.inr (.inl 0))), _, k => cases k
  | .inr (.inr (.inr (.inl (j + 1)))), _, k => cases k
theorem en_kd1 {ba : Nat} {ex : Nat → Nat} {a : en_V} {v : Value} (h : en_rv ba ex a v) (k : en_kd a = 1) : ∃ x : Int64, v = .long x := by
  match a, h, k with
  | .inr (.inl n), h, _ => exact ⟨_, h⟩
  | .inr (.inr (.inr (.inl 0))), h, _ => exact h
  | .inl n, _, k => cases k
  | .inr (.inr (.inl r)), _, k => cases k
  | .inr (.inr (.inr (.inl (j + 1)))), _, k => cases k
  | .inr (.inr (.inr (.inr q))), _, k => cases k
theorem en_kd2 {ba : Nat} {ex : Nat → Nat} {a : en_V} {v : Value} (h : en_rv ba ex a v) (k : en_kd a = 2) : v = .null ∨ ∃ x : Nat, v = .ref x := by
  match a, h, k with
  | .inr (.inr (.inl none)), h, _ => exact Or.inl h
  | .inr (.inr (.inl (some r))), h, _ => exact Or.inr ⟨_, h⟩
  | .inr (.inr (.inr (.inl (j + 1)))), h, _ => exact Or.inr ⟨_, h⟩
  | .inl n, _, k => cases k
  | .inr (.inl n), _, k => cases k
  | .inr (.inr (.inr (.inl 0))), _, k => cases k
  | .inr (.inr (.inr (.inr q))), _, k => cases k
theorem en_kd_lt (a : en_V) : en_kd a = 0 ∨ en_kd a = 1 ∨ en_kd a = 2 := by
  match a with
  | .inl n => exact Or.inl rfl
  | .inr (.inl n) => exact Or.inr (Or.inl rfl)
  | .inr (.inr (.inl r)) => exact Or.inr (Or.inr rfl)
  | .inr (.inr (.inr (.inl 0))) => exact Or.inr (Or.inl rfl)
  | .inr (.inr (.inr (.inl (j + 1)))) => exact Or.inr (Or.inr rfl)
  | .inr (.inr (.inr (.inr q))) => exact Or.inl rfl
theorem en_rv_cat {ba : Nat} {ex : Nat → Nat} {a : en_V} {v : Value} (h : en_rv ba ex a v) : v.category = en_cat a := by
  rcases en_kd_lt a with k | k | k
  · obtain ⟨x, rfl⟩ := en_kd0 h k
    unfold en_cat; rw [k]; rfl
  · obtain ⟨x, rfl⟩ := en_kd1 h k
    unfold en_cat; rw [k]; rfl
  · unfold en_cat; rw [k]
    rcases en_kd2 h k with rfl | ⟨x, rfl⟩ <;> rfl
noncomputable def en_rvs (ba : Nat) (ex : Nat → Nat) : List en_V → List Value → Prop
  | [], [] => True
  | a :: as, v :: vs => en_rv ba ex a v ∧ en_rvs ba ex as vs
  | [], _ :: _ => False
  | _ :: _, [] => False
theorem en_rvs_cons {ba : Nat} {ex : Nat → Nat} {a : en_V} {as : List en_V} {vs : List Value} (h : en_rvs ba ex (a :: as) vs) : ∃ v ws, vs = v :: ws ∧ en_rv ba ex a v ∧ en_rvs ba ex as ws := by
  cases vs with
  | nil => exact absurd h (by simp [en_rvs])
  | cons v ws => exact ⟨v, ws, rfl, h.1, h.2⟩
theorem en_rvs_nil {ba : Nat} {ex : Nat → Nat} {vs : List Value} (h : en_rvs ba ex [] vs) : vs = [] := by
  cases vs with
  | nil => rfl
  | cons v ws => exact absurd h (by simp [en_rvs])
theorem en_rvs_len {ba : Nat} {ex : Nat → Nat} : ∀ {as : List en_V} {vs : List Value}, en_rvs ba ex as vs → vs.length = as.length
  | [], vs, h => by rw [en_rvs_nil h]; rfl
  | a :: as, vs, h => by
    obtain ⟨v, ws, rfl, -, h2⟩ := en_rvs_cons h
    simp [en_rvs_len h2]
theorem en_rvs_get {ba : Nat} {ex : Nat → Nat} : ∀ {as : List en_V} {vs : List Value} {k : Nat} {a : en_V}, en_rvs ba ex as vs → as[k]? = some a → ∃ v, vs[k]? = some v ∧ en_rv ba ex a v
  | [], _, k, a, _, h => by simp at h
  | b :: as, vs, k, a, hr, h => by
    obtain ⟨v, ws, rfl, h1, h2⟩ := en_rvs_cons hr
    cases k with
    | zero => simp at h; subst h; exact ⟨v, by simp, h1⟩
    | succ k =>
      rw [List.getElem?_cons_succ] at h ⊢
      exact en_rvs_get h2 h
theorem en_rvs_set {ba : Nat} {ex : Nat → Nat} : ∀ {as : List en_V} {vs : List Value} (k : Nat) {a : en_V} {v : Value}, en_rvs ba ex as vs → en_rv ba ex a v → en_rvs ba ex (as.set k a) (vs.set k v)
  | [], vs, k, a, v, hr, _ => by rw [en_rvs_nil hr]; exact trivial
  | b :: as, vs, k, a, v, hr, h => by
    obtain ⟨w, ws, rfl, h1, h2⟩ := en_rvs_cons hr
    cases k with
    | zero => exact ⟨h, h2⟩
    | succ k => exact ⟨h1, en_rvs_set k h2 h⟩
theorem en_rvs_app {ba : Nat} {ex : Nat → Nat} : ∀ {as bs : List en_V} {vs ws : List Value}, en_rvs ba ex as vs → en_rvs ba ex bs ws → en_rvs ba ex (as ++ bs) (vs ++ ws)
  | [], bs, vs, ws, h1, h2 => by rw [en_rvs_nil h1]; exact h2
  | a :: as, bs, vs, ws, h1, h2 => by
    obtain ⟨v, vs', rfl, g1, g2⟩ := en_rvs_cons h1
    exact ⟨g1, en_rvs_app g2 h2⟩
theorem en_rvs_cat {ba : Nat} {ex : Nat → Nat} : ∀ {as : List en_V} {vs : List Value}, en_rvs ba ex as vs → (vs.map fun v => v.category) = as.map en_cat
  | [], vs, h => by rw [en_rvs_nil h]; rfl
  | a :: as, vs, h => by
    obtain ⟨v, ws, rfl, h1, h2⟩ := en_rvs_cons h
    rw [List.map_cons, List.map_cons, en_rvs_cat h2, en_rv_cat h1]
/-- locals -/
noncomputable def en_rls (ba : Nat) (ex : Nat → Nat) : en_L → List (Nat × Value) → Prop
  | [], [] => True
  | a :: as, v :: vs => (a.1 = v.1 ∧ en_rv ba ex a.2 v.2) ∧ en_rls ba ex as vs
  | [], _ :: _ => False
  | _ :: _, [] => False
theorem en_rls_cons {ba : Nat} {ex : Nat → Nat} {a : Nat × en_V} {as : en_L} {vs : List (Nat × Value)} (h : en_rls ba ex (a :: as) vs) : ∃ v ws, vs = v :: ws ∧ a.1 = v.1 ∧ en_rv ba ex a.2 v.2 ∧ en_rls ba ex as ws := by
  cases vs with
  | nil => exact absurd h (by simp [en_rls])
  | cons v ws => exact ⟨v, ws, rfl, h.1.1, h.1.2, h.2⟩
theorem en_rls_nil {ba : Nat} {ex : Nat → Nat} {vs : List (Nat × Value)} (h : en_rls ba ex [] vs) : vs = [] := by
  cases vs with
  | nil => rfl
  | cons v ws => exact absurd h (by simp [en_rls])
theorem en_rls_flt {ba : Nat} {ex : Nat → Nat} {g : Nat × en_V → Bool} {g' : Nat × Value → Bool} (hg : ∀ (a : Nat × en_V) (v : Nat × Value), a.1 = v.1 → en_rv ba ex a.2 v.2 → g a = g' v) :
    ∀ {as : en_L} {vs : List (Nat × Value)}, en_rls ba ex as vs → en_rls ba ex (en_flt g as) (vs.filter g')
  | [], vs, h => by rw [en_rls_nil h]; exact trivial
  | a :: as, vs, h => by
    obtain ⟨v, ws, rfl, h1, h2, h3⟩ := en_rls_cons h
    have ih := en_rls_flt hg h3
    show en_rls ba ex (bif g a then a :: en_flt g as else en_flt g as) _
    rw [List.filter_cons, hg a v h1 h2]
    cases hv : g' v with
    | true => exact ⟨⟨h1, h2⟩, ih⟩
    | false => exact ih
noncomputable def en_ld (ls : en_L) (i : Nat) : Option en_V := List.rec (motive := fun _ => Option en_V) none (fun q _ ih => bif Nat.beq q.1 i then some q.2 else ih) ls
theorem en_ld_at {ba : Nat} {ex : Nat → Nat} {i : Nat} {a : en_V} : ∀ {ls : en_L} {vs : List (Nat × Value)}, en_rls ba ex ls vs → en_ld ls i = some a → ∃ (k : Nat) (v : Value), vs[k]? = some (i, v) ∧ en_rv ba ex a v
  | [], _, _, h => by cases h
  | q :: ls, vs, hr, h => by
    obtain ⟨v, ws, rfl, h1, h2, h3⟩ := en_rls_cons hr
    have h : (bif Nat.beq q.1 i then some q.2 else en_ld ls i) = some a := h
    cases hq : Nat.beq q.1 i with
    | true =>
      rw [hq] at h
      cases h
      have e := Nat.eq_of_beq_eq_true hq
      refine ⟨0, v.2, ?_, h2⟩
      rw [List.getElem?_cons_zero, ← e, h1]
    | false =>
      rw [hq] at h
      obtain ⟨k, w, g1, g2⟩ := en_ld_at h3 h
      exact ⟨k + 1, w, by rw [List.getElem?_cons_succ]; exact g1, g2⟩
noncomputable def en_keep1 (i : Nat) (q : Nat × en_V) : Bool := bif Nat.beq q.1 i then false else bif Nat.beq (q.1 + 1) i then Nat.beq (en_cat q.2) 1 else true
noncomputable def en_keep2 (i : Nat) (q : Nat × en_V) : Bool := bif Nat.beq q.1 (i + 1) then false else en_keep1 i q
theorem en_cat_12 (a : en_V) : en_cat a = 1 ∨ en_cat a = 2 := by
  unfold en_cat
  cases Nat.beq (en_kd a) 1
  · exact Or.inl rfl
  · exact Or.inr rfl
theorem en_beq (a b : Nat) : Nat.beq a b = decide (a = b) := by
  by_cases h : a = b
  · subst h; simp
  · rw [decide_eq_false h]
    exact Bool.eq_false_iff.mpr (fun q => h (Nat.eq_of_beq_eq_true q))
theorem en_keep1_ok {ba : Nat} {ex : Nat → Nat} (i : Nat) (a : Nat × en_V) (v : Nat × Value) (h1 : a.1 = v.1) (h2 : en_rv ba ex a.2 v.2) : en_keep1 i a = (!(v.1 == i) && !(v.1 + 1 == i && v.2.category == 2)) := by
  unfold en_keep1
  rw [en_rv_cat h2, ← h1, en_beq, en_beq, en_beq]
  rcases en_cat_12 a.2 with h | h <;> rw [h] <;> by_cases p : a.1 = i <;> by_cases q : a.1 + 1 = i <;> simp [p, q]
theorem en_keep2_ok {ba : Nat} {ex : Nat → Nat} (i : Nat) (a : Nat × en_V) (v : Nat × Value) (h1 : a.1 = v.1) (h2 : en_rv ba ex a.2 v.2) : en_keep2 i a = (!(v.1 == i) && (!(v.1 == i + 1) && !(v.1 + 1 == i && v.2.category == 2))) := by
  unfold en_keep2
  rw [en_keep1_ok i a v h1 h2, en_beq, h1]
  by_cases p : v.1 = i + 1
  · simp [p]
  · have q : (v.1 == i + 1) = false := by simp [p]
    rw [decide_eq_false p, q]
    rfl
noncomputable def en_lr (ba : Nat) (ex : Nat → Nat) (nL : Nat) (al : en_L) (ls : Array Slot) : Prop := ∃ vl : List (Nat × Value), lv_has ls nL vl ∧ en_rls ba ex al vl
/-- the locals with which a method begins -/
noncomputable def en_args (as : List en_V) : Nat → en_L := List.rec (motive := fun _ => Nat → en_L) (fun _ => []) (fun a _ ih i => (i, a) :: ih (bif Nat.beq (en_cat a) 2 then i + 2 else i + 1)) as
theorem en_args_ok {ba : Nat} {ex : Nat → Nat} : ∀ {as : List en_V} {vs : List Value} (i : Nat), en_rvs ba ex as vs → en_rls ba ex (en_args as i) (lv_args i vs)
  | [], vs, i, h => by rw [en_rvs_nil h]; exact trivial
  | a :: as, vs, i, h => by
    obtain ⟨v, ws, rfl, h1, h2⟩ := en_rvs_cons h
    refine ⟨⟨rfl, h1⟩, ?_⟩
    rw [en_rv_cat h1]
    have ih := en_args_ok (as := as) (vs := ws) (if en_cat a = 2 then i + 2 else i + 1) h2
    rw [en_beq]
    rcases en_cat_12 a with k | k <;> rw [k] at ih ⊢ <;> exact ih
theorem en_args_len {ba : Nat} {ex : Nat → Nat} : ∀ {as : List en_V} {vs : List Value}, en_rvs ba ex as vs → (lg_sl vs).length = (as.map en_cat).sum
  | [], vs, h => by rw [en_rvs_nil h]; rfl
  | a :: as, vs, h => by
    obtain ⟨v, ws, rfl, h1, h2⟩ := en_rvs_cons h
    have ih := en_args_len h2
    have hc := en_rv_cat h1
    unfold lg_sl at ih ⊢
    rw [List.flatMap_cons, List.length_append, ih, List.map_cons, List.sum_cons, hc]
    rcases en_cat_12 a with k | k <;> rw [k] <;> rfl
/-! ### bounds of ints -/
noncomputable def en_bnd : en_V → Option (Nat × Nat)
  | .inl n => some ((n + 2147483648) % 4294967296, (n + 2147483648) % 4294967296)
  | .inr (.inr (.inr (.inr q))) => some q
  | .inr (.inl _) => none
  | .inr (.inr (.inl _)) => none
  | .inr (.inr (.inr (.inl _))) => none
theorem en_nI_toInt (n : Nat) : (nI n).toInt + 2147483648 = (((n + 2147483648) % 4294967296 : Nat) : Int) := by
  have h : (nI n).toInt = Int.bmod n (2 ^ 32) := Int32.toInt_ofNat'
  rw [h, Int.bmod_def]
  omega
theorem en_bnd_ok {ba : Nat} {ex : Nat → Nat} {a : en_V} {v : Value} {l h : Nat} (hr : en_rv ba ex a v) (hb : en_bnd a = some (l, h)) : ∃ x : Int32, v = .int x ∧ (l : Int) ≤ x.toInt + 2147483648 ∧ x.toInt + 2147483648 ≤ (h : Int) := by
  match a, hr, hb with
  | .inl n, hr, hb =>
    simp only [en_bnd, Option.some.injEq, Prod.mk.injEq] at hb
    obtain ⟨e1, e2⟩ := hb
    exact ⟨nI n, hr, by rw [← e1]; exact Int.le_of_eq (en_nI_toInt n).symm, by rw [← e2]; exact Int.le_of_eq (en_nI_toInt n)⟩
  | .inr (.inr (.inr (.inr q))), hr, hb =>
    cases hb
    exact hr
  | .inr (.inl n), _, hb => cases hb
  | .inr (.inr (.inl r)), _, hb => cases hb
  | .inr (.inr (.inr (.inl j))), _, hb => cases hb
noncomputable def en_lt (x y : en_V) : Option Bool := match en_bnd x, en_bnd y with
  | some q, some r => bif Nat.blt q.2 r.1 then some true else bif Nat.ble r.2 q.1 then some false else none
  | _, _ => none
noncomputable def en_eq (x y : en_V) : Option Bool := match en_bnd x, en_bnd y with
  | some q, some r => bif Nat.beq q.1 q.2 && (Nat.beq q.1 r.1 && Nat.beq r.1 r.2) then some true else bif Nat.blt q.2 r.1 || Nat.blt r.2 q.1 then some false else none
  | _, _ => none
theorem en_lt_ok {ba : Nat} {ex : Nat → Nat} {a b : en_V} {v w : Value} {r : Bool} (ha : en_rv ba ex a v) (hb : en_rv ba ex b w) (h : en_lt a b = some r) : ∃ x y : Int32, v = .int x ∧ w = .int y ∧ (x < y ↔ r = true) := by
  unfold en_lt at h
  cases h1 : en_bnd a with
  | none => rw [h1] at h; cases h
  | some q =>
    cases h2 : en_bnd b with
    | none => rw [h1, h2] at h; cases h
    | some u =>
      rw [h1, h2] at h
      obtain ⟨x, rfl, a1, a2⟩ := en_bnd_ok (l := q.1) (h := q.2) ha h1
      obtain ⟨y, rfl, b1, b2⟩ := en_bnd_ok (l := u.1) (h := u.2) hb h2
      refine ⟨x, y, rfl, rfl, ?_⟩
      rw [Int32.lt_iff_toInt_lt]
      dsimp only at h
      cases g1 : Nat.blt q.2 u.1 with
      | true =>
        rw [g1] at h
        cases h
        have g1 := Nat.lt_of_succ_le (Nat.le_of_ble_eq_true g1)
        exact ⟨fun _ => rfl, fun _ => by omega⟩
      | false =>
        rw [g1] at h
        cases g2 : Nat.ble u.2 q.1 with
        | true =>
          rw [g2] at h
          cases h
          have g2 := Nat.le_of_ble_eq_true g2
          exact ⟨fun _ => by omega, fun q => by cases q⟩
        | false => rw [g2] at h; cases h
theorem en_eq_ok {ba : Nat} {ex : Nat → Nat} {a b : en_V} {v w : Value} {r : Bool} (ha : en_rv ba ex a v) (hb : en_rv ba ex b w) (h : en_eq a b = some r) : ∃ x y : Int32, v = .int x ∧ w = .int y ∧ (x = y ↔ r = true) := by
  unfold en_eq at h
  cases h1 : en_bnd a with
  | none => rw [h1] at h; cases h
  | some q =>
    cases h2 : en_bnd b with
    | none => rw [h1, h2] at h; cases h
    | some u =>
      rw [h1, h2] at h
      obtain ⟨x, rfl, a1, a2⟩ := en_bnd_ok (l := q.1) (h := q.2) ha h1
      obtain ⟨y, rfl, b1, b2⟩ := en_bnd_ok (l := u.1) (h := u.2) hb h2
      refine ⟨x, y, rfl, rfl, ?_⟩
      rw [← Int32.toInt_inj]
      dsimp only at h
      rw [en_beq, en_beq, en_beq] at h
      cases g1 : (decide (q.1 = q.2) && (decide (q.1 = u.1) && decide (u.1 = u.2))) with
      | true =>
        rw [g1] at h
        cases h
        simp only [Bool.and_eq_true, decide_eq_true_eq] at g1
        exact ⟨fun _ => rfl, fun _ => by omega⟩
      | false =>
        rw [g1] at h
        cases g2 : (Nat.blt q.2 u.1 || Nat.blt u.2 q.1) with
        | true =>
          rw [g2] at h
          cases h
          have g3 : q.2 < u.1 ∨ u.2 < q.1 := by
            rcases Bool.or_eq_true_iff.mp g2 with g | g
            · exact Or.inl (Nat.le_of_ble_eq_true g)
            · exact Or.inr (Nat.le_of_ble_eq_true g)
          exact ⟨fun _ => by omega, fun q => by cases q⟩
        | false => rw [g2] at h; cases h
end EN
