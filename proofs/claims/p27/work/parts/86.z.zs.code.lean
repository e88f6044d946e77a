section SLQ
/-! ### the lamp's code: the rows that may be best, the best of them -/
noncomputable def ltf (l : List Nat) (i : Nat) : Nat := (l[i]?).getD 0
noncomputable def lof (f : Nat → Nat) (n : Nat) : List Nat := (List.range n).map f
theorem lof_len {f : Nat → Nat} {n : Nat} : (lof f n).length = n := by
  unfold lof
  rw [List.length_map, List.length_range]
theorem ltf_lof {f : Nat → Nat} {n i : Nat} (h : i < n) : ltf (lof f n) i = f i := by
  unfold ltf lof
  rw [List.getElem?_map, List.getElem?_range h]
  rfl
theorem ltf_ext {l l' : List Nat} (h : l.length = l'.length) (e : ∀ i, i < l.length → ltf l i = ltf l' i) : l = l' := by
  apply List.ext_getElem h
  intro i h1 h2
  have h3 := e i h1
  unfold ltf at h3
  rw [List.getElem?_eq_getElem h1, List.getElem?_eq_getElem h2] at h3
  exact h3
/-- down from k, as long as P holds of the one below -/
noncomputable def wlp (P : Nat → Bool) : Nat → Nat
  | 0 => 0
  | k + 1 => if P k = true then wlp P k else k + 1
theorem wlp_t {P : Nat → Bool} {k : Nat} (h : P k = true) : wlp P (k + 1) = wlp P k := if_pos h
theorem wlp_f {P : Nat → Bool} {k : Nat} (h : P k = false) : wlp P (k + 1) = k + 1 := if_neg (by rw [h]; decide)
theorem wlp_le {P : Nat → Bool} : ∀ k, wlp P k ≤ k
  | 0 => Nat.le_refl _
  | k + 1 => by
    cases h : P k with
    | true =>
      rw [wlp_t h]
      have := wlp_le (P := P) k
      omega
    | false =>
      rw [wlp_f h]
      exact Nat.le_refl _
/-- x put in at the place a -/
noncomputable def inp (f : Nat → Nat) (x a i : Nat) : Nat := if i < a then f i else if i = a then x else f (i - 1)
theorem inp_lt {f : Nat → Nat} {x a i : Nat} (h : i < a) : inp f x a i = f i := if_pos h
theorem inp_eq {f : Nat → Nat} {x a : Nat} : inp f x a a = x := (if_neg (Nat.lt_irrefl a)).trans (if_pos rfl)
theorem inp_gt {f : Nat → Nat} {x a i : Nat} (h : a < i) : inp f x a i = f (i - 1) := (if_neg (by first | decide | omega)).trans (if_neg (by first | decide | omega))
noncomputable def gtp (f : Nat → Nat) (x i : Nat) : Bool := decide (x < f i)
noncomputable def ltp (O f : Nat → Nat) (x i : Nat) : Bool := decide (O (f i) < O x)
noncomputable def insl (x : Nat) (l : List Nat) : List Nat := lof (inp (ltf l) x (wlp (gtp (ltf l) x) l.length)) (l.length + 1)
theorem insl_len {x : Nat} {l : List Nat} : (insl x l).length = l.length + 1 := lof_len
theorem inp_all {f : Nat → Nat} {x a k : Nat} {P : Nat → Prop} (ha : a ≤ k) (h1 : ∀ i, i < k → P (f i)) (h2 : P x) : ∀ i, i < k + 1 → P (inp f x a i) := fun i hi => by
  rcases Nat.lt_trichotomy i a with c | c | c
  · rw [inp_lt c]
    exact h1 i (by first | decide | omega)
  · subst c
    rw [inp_eq]
    exact h2
  · rw [inp_gt c]
    exact h1 _ (by first | decide | omega)
theorem insl_le {x B : Nat} {l : List Nat} (h1 : ∀ i, i < l.length → ltf l i ≤ B) (h2 : x ≤ B) : ∀ i, i < l.length + 1 → ltf (insl x l) i ≤ B := fun i hi => by
  unfold insl
  rw [ltf_lof hi]
  exact inp_all (P := fun z => z ≤ B) (wlp_le _) h1 h2 i hi
/-- the order: the most often first, of equal ones the first told -/
noncomputable def ordl (O : Nat → Nat) : Nat → List Nat
  | 0 => []
  | k + 1 => lof (inp (ltf (ordl O k)) k (wlp (ltp O (ltf (ordl O k)) k) k)) (k + 1)
theorem ordl_at {O : Nat → Nat} {k i : Nat} (h : i < k + 1) : ltf (ordl O (k + 1)) i = inp (ltf (ordl O k)) k (wlp (ltp O (ltf (ordl O k)) k) k) i := ltf_lof h
theorem ordl_lt {O : Nat → Nat} : ∀ k i, i < k → ltf (ordl O k) i < k
  | 0, i, h => absurd h (Nat.not_lt_zero i)
  | k + 1, i, h => by
    rw [ordl_at h]
    exact inp_all (P := fun z => z < k + 1) (wlp_le _) (fun q hq => Nat.lt_succ_of_lt (ordl_lt k q hq)) (Nat.lt_succ_self k) i h
theorem ordl_inj {O : Nat → Nat} : ∀ k i j, i < k → j < k → ltf (ordl O k) i = ltf (ordl O k) j → i = j
  | 0, i, _, h, _, _ => absurd h (Nat.not_lt_zero i)
  | k + 1, i, j, hi, hj, h => by
    rw [ordl_at hi, ordl_at hj] at h
    have ha := wlp_le (P := ltp O (ltf (ordl O k)) k) k
    generalize wlp (ltp O (ltf (ordl O k)) k) k = a at ha h
    have hl := fun q hq => ordl_lt (O := O) k q hq
    have ih := fun p q hp hq e => ordl_inj (O := O) k p q hp hq e
    rcases Nat.lt_trichotomy i a with c | c | c
    · rcases Nat.lt_trichotomy j a with e | e | e
      · rw [inp_lt c, inp_lt e] at h
        exact ih i j (by first | decide | omega) (by first | decide | omega) h
      · rw [inp_lt c, e, inp_eq] at h
        have := hl i (by first | decide | omega)
        omega
      · rw [inp_lt c, inp_gt e] at h
        have := ih i (j - 1) (by first | decide | omega) (by first | decide | omega) h
        omega
    · rw [c, inp_eq] at h
      rcases Nat.lt_trichotomy j a with e | e | e
      · rw [inp_lt e] at h
        have := hl j (by first | decide | omega)
        omega
      · omega
      · rw [inp_gt e] at h
        have := hl (j - 1) (by first | decide | omega)
        omega
    · rcases Nat.lt_trichotomy j a with e | e | e
      · rw [inp_gt c, inp_lt e] at h
        have := ih (i - 1) j (by first | decide | omega) (by first | decide | omega) h
        omega
      · rw [inp_gt c, e, inp_eq] at h
        have := hl (i - 1) (by first | decide | omega)
        omega
      · rw [inp_gt c, inp_gt e] at h
        have := ih (i - 1) (j - 1) (by first | decide | omega) (by first | decide | omega) h
        omega
theorem ordl_sur {O : Nat → Nat} : ∀ k x, x < k → ∃ i, i < k ∧ ltf (ordl O k) i = x
  | 0, x, h => absurd h (Nat.not_lt_zero x)
  | k + 1, x, h => by
    have ha := wlp_le (P := ltp O (ltf (ordl O k)) k) k
    by_cases e : x = k
    · refine ⟨wlp (ltp O (ltf (ordl O k)) k) k, by omega, ?_⟩
      rw [ordl_at (by first | decide | omega), inp_eq]
      exact e.symm
    · obtain ⟨i, hi, hx⟩ := ordl_sur (O := O) k x (by first | decide | omega)
      by_cases c : i < wlp (ltp O (ltf (ordl O k)) k) k
      · refine ⟨i, by omega, ?_⟩
        rw [ordl_at (by first | decide | omega), inp_lt c]
        exact hx
      · refine ⟨i + 1, by omega, ?_⟩
        rw [ordl_at (by first | decide | omega), inp_gt (by first | decide | omega)]
        exact hx
/-- in the order of how great they are -/
noncomputable def srt (l : List Nat) : Nat → List Nat
  | 0 => []
  | k + 1 => insl (ltf l k) (srt l k)
theorem srt_len {l : List Nat} : ∀ k, (srt l k).length = k
  | 0 => rfl
  | k + 1 => insl_len.trans (congrArg (· + 1) (srt_len k))
theorem srt_at {l : List Nat} {k i : Nat} (h : i < k + 1) : ltf (srt l (k + 1)) i = inp (ltf (srt l k)) (ltf l k) (wlp (gtp (ltf (srt l k)) (ltf l k)) k) i := by
  show ltf (insl (ltf l k) (srt l k)) i = _
  unfold insl
  rw [srt_len, ltf_lof h]
theorem srt_le {l : List Nat} {B : Nat} : ∀ k, (∀ i, i < k → ltf l i ≤ B) → ∀ i, i < k → ltf (srt l k) i ≤ B
  | 0, _, i, h => absurd h (Nat.not_lt_zero i)
  | k + 1, hb, i, h => by
    rw [srt_at h]
    exact inp_all (P := fun z => z ≤ B) (wlp_le _) (srt_le k (fun q hq => hb q (Nat.lt_succ_of_lt hq))) (hb k (Nat.lt_succ_self k)) i h
/-- all of it together -/
noncomputable def wsm (O : Nat → Nat) (od r : List Nat) : Nat → Nat
  | 0 => 0
  | k + 1 => wsm O od r k + ltf r k * O (ltf od k)
theorem wsm_le {O : Nat → Nat} {od r : List Nat} : ∀ k, (∀ i, i < k → ltf r i ≤ 12) → (∀ i, i < k → O (ltf od i) ≤ 99) → wsm O od r k ≤ 1188 * k
  | 0, _, _ => Nat.le_refl _
  | k + 1, h1, h2 => by
    have a := wsm_le (O := O) (od := od) (r := r) k (fun i hi => h1 i (Nat.lt_succ_of_lt hi)) (fun i hi => h2 i (Nat.lt_succ_of_lt hi))
    have b := Nat.mul_le_mul (h1 k (Nat.lt_succ_self k)) (h2 k (Nat.lt_succ_self k))
    show wsm O od r k + ltf r k * O (ltf od k) ≤ 1188 * (k + 1)
    omega
/-- the first that differs: 0 none, 1 less, 2 greater -/
noncomputable def lxc (r q : List Nat) : Nat → Nat
  | 0 => 0
  | k + 1 => if lxc r q k = 0 then (if ltf r k = ltf q k then 0 else if ltf r k < ltf q k then 1 else 2) else lxc r q k
theorem lxc_st {r q : List Nat} {k : Nat} (h : lxc r q k ≠ 0) : lxc r q (k + 1) = lxc r q k := if_neg h
theorem lxc_e {r q : List Nat} {k : Nat} (h : lxc r q k = 0) (e : ltf r k = ltf q k) : lxc r q (k + 1) = 0 := (if_pos h).trans (if_pos e)
theorem lxc_l {r q : List Nat} {k : Nat} (h : lxc r q k = 0) (e : ltf r k < ltf q k) : lxc r q (k + 1) = 1 := (if_pos h).trans ((if_neg (by first | decide | omega)).trans (if_pos e))
theorem lxc_g {r q : List Nat} {k : Nat} (h : lxc r q k = 0) (e : ltf q k < ltf r k) : lxc r q (k + 1) = 2 := (if_pos h).trans ((if_neg (by first | decide | omega)).trans (if_neg (by first | decide | omega)))
theorem lxc_on {r q : List Nat} {k : Nat} (h : lxc r q k ≠ 0) : ∀ j, lxc r q (k + j) = lxc r q k
  | 0 => rfl
  | j + 1 => by
    have h1 := lxc_on h j
    have h2 : lxc r q (k + j + 1) = lxc r q (k + j) := lxc_st (by rw [h1]; exact h)
    exact h2.trans h1
noncomputable def Lx (r q : List Nat) (k : Nat) : Prop := ∃ i, i < k ∧ (∀ j, j < i → ltf r j = ltf q j) ∧ ltf r i < ltf q i
theorem lxc_spec {r q : List Nat} : ∀ k, (lxc r q k = 0 ∧ ∀ j, j < k → ltf r j = ltf q j) ∨ (lxc r q k = 1 ∧ Lx r q k) ∨ (lxc r q k = 2 ∧ Lx q r k)
  | 0 => Or.inl ⟨rfl, fun j h => absurd h (Nat.not_lt_zero j)⟩
  | k + 1 => by
    rcases lxc_spec (r := r) (q := q) k with ⟨h, e⟩ | ⟨h, i, h1, h2, h3⟩ | ⟨h, i, h1, h2, h3⟩
    · rcases Nat.lt_trichotomy (ltf r k) (ltf q k) with c | c | c
      · exact Or.inr (Or.inl ⟨lxc_l h c, k, Nat.lt_succ_self k, e, c⟩)
      · refine Or.inl ⟨lxc_e h c, fun j hj => ?_⟩
        by_cases e9 : j = k
        · rw [e9]; exact c
        · exact e j (by first | decide | omega)
      · exact Or.inr (Or.inr ⟨lxc_g h c, k, Nat.lt_succ_self k, fun j hj => (e j hj).symm, c⟩)
    · exact Or.inr (Or.inl ⟨(lxc_st (by first | decide | omega)).trans h, i, by omega, h2, h3⟩)
    · exact Or.inr (Or.inr ⟨(lxc_st (by first | decide | omega)).trans h, i, by omega, h2, h3⟩)
theorem Lx_as {r q : List Nat} {k : Nat} (h : Lx r q k) (h' : Lx q r k) : False := by
  obtain ⟨i, h1, h2, h3⟩ := h
  obtain ⟨j, h4, h5, h6⟩ := h'
  rcases Nat.lt_trichotomy i j with c | c | c
  · have := h5 i c
    omega
  · subst c
    omega
  · have := h2 j c
    omega
theorem lxc_1 {r q : List Nat} {k : Nat} (h : Lx r q k) : lxc r q k = 1 := by
  rcases lxc_spec (r := r) (q := q) k with ⟨h1, e⟩ | ⟨h1, -⟩ | ⟨h1, h2⟩
  · obtain ⟨i, a1, a2, a3⟩ := h
    have := e i a1
    omega
  · exact h1
  · exact (Lx_as h h2).elim
theorem Lx_1 {r q : List Nat} {k : Nat} (h : lxc r q k = 1) : Lx r q k := by
  rcases lxc_spec (r := r) (q := q) k with ⟨h1, -⟩ | ⟨-, h1⟩ | ⟨h1, -⟩
  · omega
  · exact h1
  · omega
theorem Lx_nt {c a : List Nat} (b : List Nat) {k : Nat} (h : Lx c a k) : Lx c b k ∨ Lx b a k := by
  obtain ⟨i, h1, h2, h3⟩ := h
  rcases lxc_spec (r := c) (q := b) k with ⟨-, e⟩ | ⟨-, e⟩ | ⟨-, j, e1, e2, e3⟩
  · exact Or.inr ⟨i, h1, fun j hj => (e j (by first | decide | omega)).symm.trans (h2 j hj), by rw [← e i h1]; exact h3⟩
  · exact Or.inl e
  · rcases Nat.lt_trichotomy j i with d | d | d
    · exact Or.inr ⟨j, e1, fun q hq => (e2 q hq).trans (h2 q (by first | decide | omega)), by rw [← h2 j d]; exact e3⟩
    · subst d
      exact Or.inr ⟨j, e1, fun q hq => (e2 q hq).trans (h2 q hq), by omega⟩
    · exact Or.inr ⟨i, h1, fun q hq => (e2 q (by first | decide | omega)).trans (h2 q hq), by rw [e2 i d]; exact h3⟩
/-- better: less together, or the same and shorter where they differ first -/
noncomputable def btr (O : Nat → Nat) (od : List Nat) (n : Nat) (r q : List Nat) : Prop := wsm O od r n < wsm O od q n ∨ (wsm O od r n = wsm O od q n ∧ Lx r q n)
theorem btr_nt {O : Nat → Nat} {od : List Nat} {n : Nat} {c a : List Nat} (b : List Nat) (h : btr O od n c a) : btr O od n c b ∨ btr O od n b a := by
  rcases Nat.lt_trichotomy (wsm O od c n) (wsm O od b n) with d | d | d
  · exact Or.inl (Or.inl d)
  · rcases h with h | ⟨h, h2⟩
    · exact Or.inr (Or.inl (by first | decide | omega))
    · rcases Lx_nt b h2 with e | e
      · exact Or.inl (Or.inr ⟨d, e⟩)
      · exact Or.inr (Or.inr ⟨by omega, e⟩)
  · rcases h with h | ⟨h, -⟩
    · exact Or.inr (Or.inl (by first | decide | omega))
    · exact Or.inr (Or.inl (by first | decide | omega))
theorem btr_as {O : Nat → Nat} {od : List Nat} {n : Nat} {a b : List Nat} (h : btr O od n a b) (h' : btr O od n b a) : False := by
  rcases h with h | ⟨h, h1⟩ <;> rcases h' with h' | ⟨h', h1'⟩
  · omega
  · omega
  · omega
  · exact Lx_as h1 h1'
noncomputable def upb (O : Nat → Nat) (od : List Nat) (n : Nat) : Option (List Nat) → List Nat → Option (List Nat)
  | none, r => some r
  | some q, r => if wsm O od r n < wsm O od q n ∨ (wsm O od r n = wsm O od q n ∧ lxc r q n = 1) then some r else some q
theorem upb_t {O : Nat → Nat} {od : List Nat} {n : Nat} {r q : List Nat} (h : wsm O od r n < wsm O od q n ∨ (wsm O od r n = wsm O od q n ∧ lxc r q n = 1)) : upb O od n (some q) r = some r := if_pos h
theorem upb_f {O : Nat → Nat} {od : List Nat} {n : Nat} {r q : List Nat} (h : ¬ (wsm O od r n < wsm O od q n ∨ (wsm O od r n = wsm O od q n ∧ lxc r q n = 1))) : upb O od n (some q) r = some q := if_neg h
theorem upb_min {O : Nat → Nat} {od : List Nat} {n : Nat} {q r : List Nat} : (upb O od n (some q) r = some r ∧ btr O od n r q) ∨ (upb O od n (some q) r = some q ∧ ¬ btr O od n r q) := by
  by_cases h : wsm O od r n < wsm O od q n ∨ (wsm O od r n = wsm O od q n ∧ lxc r q n = 1)
  · refine Or.inl ⟨upb_t h, ?_⟩
    rcases h with h | ⟨h, h1⟩
    · exact Or.inl h
    · exact Or.inr ⟨h, Lx_1 h1⟩
  · refine Or.inr ⟨upb_f h, fun z => h ?_⟩
    rcases z with z | ⟨z, z1⟩
    · exact Or.inl z
    · exact Or.inr ⟨z, lxc_1 z1⟩
theorem upb_fold {O : Nat → Nat} {od : List Nat} {n : Nat} : ∀ (L : List (List Nat)) (q : List Nat), ∃ m, L.foldl (upb O od n) (some q) = some m ∧ (m ∈ L ∨ m = q) ∧ (∀ x, x ∈ L → ¬ btr O od n x m) ∧ ¬ btr O od n q m
  | [], q => ⟨q, rfl, Or.inr rfl, fun x h => absurd h List.not_mem_nil, fun h => btr_as h h⟩
  | r :: L, q => by
    show ∃ m, L.foldl (upb O od n) (upb O od n (some q) r) = some m ∧ _
    rcases upb_min (O := O) (od := od) (n := n) (q := q) (r := r) with ⟨h1, h2⟩ | ⟨h1, h2⟩
    · rw [h1]
      obtain ⟨m, a1, a2, a3, a4⟩ := upb_fold (O := O) (od := od) (n := n) L r
      refine ⟨m, a1, ?_, fun x hx => ?_, fun z => ?_⟩
      · rcases a2 with a2 | a2
        · exact Or.inl (List.mem_cons_of_mem _ a2)
        · rw [a2]; exact Or.inl List.mem_cons_self
      · rcases List.mem_cons.mp hx with e | e
        · rw [e]; exact a4
        · exact a3 x e
      · rcases btr_nt r z with y | y
        · exact btr_as y h2
        · exact a4 y
    · rw [h1]
      obtain ⟨m, a1, a2, a3, a4⟩ := upb_fold (O := O) (od := od) (n := n) L q
      refine ⟨m, a1, ?_, fun x hx => ?_, a4⟩
      · rcases a2 with a2 | a2
        · exact Or.inl (List.mem_cons_of_mem _ a2)
        · exact Or.inr a2
      · rcases List.mem_cons.mp hx with e | e
        · rw [e]
          intro z
          rcases btr_nt q z with y | y
          · exact h2 y
          · exact a4 y
        · exact a3 x e
theorem upb_foldn {O : Nat → Nat} {od : List Nat} {n : Nat} {L : List (List Nat)} (h : L ≠ []) : ∃ m, L.foldl (upb O od n) none = some m ∧ m ∈ L ∧ ∀ x, x ∈ L → ¬ btr O od n x m := by
  cases L with
  | nil => exact absurd rfl h
  | cons r L =>
    obtain ⟨m, a1, a2, a3, a4⟩ := upb_fold (O := O) (od := od) (n := n) L r
    refine ⟨m, a1, ?_, fun x hx => ?_⟩
    · rcases a2 with a2 | a2
      · exact List.mem_cons_of_mem _ a2
      · rw [a2]; exact List.mem_cons_self
    · rcases List.mem_cons.mp hx with e | e
      · rw [e]; exact a4
      · exact a3 x e
theorem btr_eq {O : Nat → Nat} {od : List Nat} {n : Nat} {a b : List Nat} (h1 : ¬ btr O od n a b) (h2 : ¬ btr O od n b a) (ha : a.length = n) (hb : b.length = n) : a = b := by
  have e1 : wsm O od a n = wsm O od b n := by
    rcases Nat.lt_trichotomy (wsm O od a n) (wsm O od b n) with c | c | c
    · exact absurd (Or.inl c) h1
    · exact c
    · exact absurd (Or.inl c) h2
  rcases lxc_spec (r := a) (q := b) n with ⟨-, e⟩ | ⟨-, e⟩ | ⟨-, e⟩
  · exact ltf_ext (ha.trans hb.symm) (fun i hi => e i (by first | decide | omega))
  · exact absurd (Or.inr ⟨e1, e⟩) h1
  · exact absurd (Or.inr ⟨e1.symm, e⟩) h2
theorem upb_same {O : Nat → Nat} {od : List Nat} {n : Nat} {L K : List (List Nat)} (h1 : ∀ x, x ∈ L → x ∈ K) (h2 : ∀ x, x ∈ K → x ∈ L) (hl : ∀ x, x ∈ L → x.length = n) (hn : L ≠ []) : L.foldl (upb O od n) none = K.foldl (upb O od n) none := by
  obtain ⟨m, a1, a2, a3⟩ := upb_foldn (O := O) (od := od) (n := n) hn
  obtain ⟨m', b1, b2, b3⟩ := upb_foldn (O := O) (od := od) (n := n) (L := K) (fun e => by
    have := h1 m a2
    rw [e] at this
    exact absurd this List.not_mem_nil)
  rw [a1, b1, btr_eq (b3 m (h1 m a2)) (a3 m' (h2 m' b2)) (hl m a2) (hl m' (h2 m' b2))]
/-- rows made of a row: of the reference, in no order -/
noncomputable def rkid (l : List Nat) (k : Nat) : List Nat := lof (fun i => if i < l.length then ltf l i + (if i = k then 1 else 0) else ltf l k + 2) (l.length + 1)
noncomputable def rlv : Nat → List Nat → List (List Nat)
  | 0, l => [srt l l.length]
  | j + 1, l => (List.range l.length).flatMap (fun k => rlv j (rkid l k))
noncomputable def rlk (j : Nat) (l : List Nat) (k : Nat) : List (List Nat) := (List.range k).flatMap (fun i => rlv j (rkid l i))
theorem rlk_s {j : Nat} {l : List Nat} {k : Nat} : rlk j l (k + 1) = rlk j l k ++ rlv j (rkid l k) := by
  unfold rlk
  rw [List.range_succ, List.flatMap_append]
  congr 1
  exact (List.flatMap_cons ..).trans (List.append_nil _)
/-- .. of the class, in their order -/
noncomputable def crem (l : List Nat) (p i : Nat) : Nat := if i < p then ltf l i else ltf l (i + 1)
noncomputable def ckid (l : List Nat) (p : Nat) : List Nat := insl (ltf l p + 2) (insl (ltf l p + 1) (lof (crem l p) (l.length - 1)))
noncomputable def clv : Nat → List Nat → List (List Nat)
  | 0, l => [l]
  | j + 1, l => (List.range l.length).flatMap (fun k => clv j (ckid l k))
noncomputable def clk (j : Nat) (l : List Nat) (k : Nat) : List (List Nat) := (List.range k).flatMap (fun i => clv j (ckid l i))
theorem clk_s {j : Nat} {l : List Nat} {k : Nat} : clk j l (k + 1) = clk j l k ++ clv j (ckid l k) := by
  unfold clk
  rw [List.range_succ, List.flatMap_append]
  congr 1
  exact (List.flatMap_cons ..).trans (List.append_nil _)
theorem rkid_len {l : List Nat} {k : Nat} : (rkid l k).length = l.length + 1 := lof_len
theorem rkid_le {l : List Nat} {k : Nat} (h : ∀ i, i < l.length → ltf l i ≤ 2 * l.length) (hk : k < l.length) : ∀ i, i < l.length + 1 → ltf (rkid l k) i ≤ 2 * (l.length + 1) := fun i hi => by
  unfold rkid
  rw [ltf_lof hi]
  have h1 := h k hk
  by_cases c : i < l.length
  · have h2 := h i c
    rw [if_pos c]
    split <;> omega
  · rw [if_neg c]
    omega
theorem ckid_len {l : List Nat} {k : Nat} (hk : k < l.length) : (ckid l k).length = l.length + 1 := by
  unfold ckid
  rw [insl_len, insl_len, lof_len]
  omega
theorem ckid_le {l : List Nat} {k : Nat} (h : ∀ i, i < l.length → ltf l i ≤ 2 * l.length) (hk : k < l.length) : ∀ i, i < l.length + 1 → ltf (ckid l k) i ≤ 2 * (l.length + 1) := fun i hi => by
  have h1 := h k hk
  have a : ∀ i, i < (lof (crem l k) (l.length - 1)).length → ltf (lof (crem l k) (l.length - 1)) i ≤ 2 * (l.length + 1) := fun i hi => by
    rw [lof_len] at hi
    rw [ltf_lof hi]
    unfold crem
    split
    · have := h i (by first | decide | omega)
      omega
    · have := h (i + 1) (by first | decide | omega)
      omega
  have b := insl_le a (show ltf l k + 1 ≤ 2 * (l.length + 1) by omega)
  rw [← insl_len] at b
  have c := insl_le b (show ltf l k + 2 ≤ 2 * (l.length + 1) by omega)
  exact c i (by rw [insl_len, lof_len]; omega)
noncomputable def cdl0 (n : Nat) : List Nat := if n = 1 then [1] else [0]
noncomputable def cdU1 : List (List Nat) := [[1]]
noncomputable def cdR1 : List (List Nat) := [[1]]
noncomputable def cdC1 : List (List Nat) := [[1]]
theorem cdR1_e : rlv 0 (cdl0 1) = cdR1 := by decide +kernel
theorem cdC1_e : clv 0 (cdl0 1) = cdC1 := by decide +kernel
theorem cdM1 : (cdR1.all (fun x => cdU1.elem x && x.length == 1) && cdC1.all (fun x => cdU1.elem x) && cdU1.all (fun x => cdR1.elem x && cdC1.elem x)) = true := by decide +kernel
noncomputable def cdU2 : List (List Nat) := [[1, 2]]
noncomputable def cdR2 : List (List Nat) := [[1, 2]]
noncomputable def cdC2 : List (List Nat) := [[1, 2]]
theorem cdR2_e : rlv 1 (cdl0 2) = cdR2 := by decide +kernel
theorem cdC2_e : clv 1 (cdl0 2) = cdC2 := by decide +kernel
theorem cdM2 : (cdR2.all (fun x => cdU2.elem x && x.length == 2) && cdC2.all (fun x => cdU2.elem x) && cdU2.all (fun x => cdR2.elem x && cdC2.elem x)) = true := by decide +kernel
noncomputable def cdU3 : List (List Nat) := [[2, 2, 3], [1, 3, 4]]
noncomputable def cdR3 : List (List Nat) := [[2, 2, 3], [1, 3, 4]]
noncomputable def cdC3 : List (List Nat) := [[2, 2, 3], [1, 3, 4]]
theorem cdR3_e : rlv 2 (cdl0 3) = cdR3 := by decide +kernel
theorem cdC3_e : clv 2 (cdl0 3) = cdC3 := by decide +kernel
theorem cdM3 : (cdR3.all (fun x => cdU3.elem x && x.length == 3) && cdC3.all (fun x => cdU3.elem x) && cdU3.all (fun x => cdR3.elem x && cdC3.elem x)) = true := by decide +kernel
noncomputable def cdU4 : List (List Nat) := [[2, 3, 3, 4], [2, 2, 4, 5], [1, 4, 4, 5], [1, 3, 5, 6]]
noncomputable def cdR4 : List (List Nat) := [[2, 3, 3, 4], [2, 3, 3, 4], [2, 2, 4, 5], [2, 3, 3, 4], [1, 4, 4, 5], [1, 3, 5, 6]]
noncomputable def cdC4 : List (List Nat) := [[2, 3, 3, 4], [2, 3, 3, 4], [2, 2, 4, 5], [2, 3, 3, 4], [1, 4, 4, 5], [1, 3, 5, 6]]
theorem cdR4_e : rlv 3 (cdl0 4) = cdR4 := by decide +kernel
theorem cdC4_e : clv 3 (cdl0 4) = cdC4 := by decide +kernel
theorem cdM4 : (cdR4.all (fun x => cdU4.elem x && x.length == 4) && cdC4.all (fun x => cdU4.elem x) && cdU4.all (fun x => cdR4.elem x && cdC4.elem x)) = true := by decide +kernel
noncomputable def cdU5 : List (List Nat) := [[2, 3, 4, 4, 5], [3, 3, 3, 4, 4], [2, 3, 3, 5, 6], [2, 2, 5, 5, 6], [2, 2, 4, 6, 7], [1, 4, 5, 5, 6], [1, 4, 4, 6, 7], [1, 3, 6, 6, 7], [1, 3, 5, 7, 8]]
noncomputable def cdR5 : List (List Nat) := [[2, 3, 4, 4, 5], [3, 3, 3, 4, 4], [2, 3, 4, 4, 5], [2, 3, 3, 5, 6], [3, 3, 3, 4, 4], [2, 3, 4, 4, 5], [2, 3, 4, 4, 5], [2, 3, 3, 5, 6], [2, 3, 4, 4, 5], [2, 3, 4, 4, 5], [2, 2, 5, 5, 6], [2, 2, 4, 6, 7], [3, 3, 3, 4, 4], [2, 3, 4, 4, 5], [2, 3, 3, 5, 6], [2, 3, 4, 4, 5], [2, 3, 4, 4, 5], [1, 4, 5, 5, 6], [1, 4, 5, 5, 6], [1, 4, 4, 6, 7], [2, 3, 3, 5, 6], [1, 4, 5, 5, 6], [1, 3, 6, 6, 7], [1, 3, 5, 7, 8]]
noncomputable def cdC5 : List (List Nat) := [[3, 3, 3, 4, 4], [2, 3, 4, 4, 5], [2, 3, 4, 4, 5], [2, 3, 3, 5, 6], [3, 3, 3, 4, 4], [2, 3, 4, 4, 5], [2, 3, 4, 4, 5], [2, 3, 3, 5, 6], [2, 3, 4, 4, 5], [2, 3, 4, 4, 5], [2, 2, 5, 5, 6], [2, 2, 4, 6, 7], [3, 3, 3, 4, 4], [2, 3, 4, 4, 5], [2, 3, 4, 4, 5], [2, 3, 3, 5, 6], [2, 3, 4, 4, 5], [1, 4, 5, 5, 6], [1, 4, 5, 5, 6], [1, 4, 4, 6, 7], [2, 3, 3, 5, 6], [1, 4, 5, 5, 6], [1, 3, 6, 6, 7], [1, 3, 5, 7, 8]]
theorem cdR5_e : rlv 4 (cdl0 5) = cdR5 := by decide +kernel
theorem cdC5_e : clv 4 (cdl0 5) = cdC5 := by decide +kernel
theorem cdM5 : (cdR5.all (fun x => cdU5.elem x && x.length == 5) && cdC5.all (fun x => cdU5.elem x) && cdU5.all (fun x => cdR5.elem x && cdC5.elem x)) = true := by decide +kernel
noncomputable def cdU6 : List (List Nat) := [[2, 3, 4, 5, 5, 6], [3, 3, 4, 4, 4, 5], [2, 4, 4, 4, 5, 5], [2, 3, 4, 4, 6, 7], [3, 3, 3, 4, 5, 6], [2, 3, 3, 6, 6, 7], [2, 3, 3, 5, 7, 8], [2, 2, 5, 6, 6, 7], [2, 2, 5, 5, 7, 8], [2, 2, 4, 7, 7, 8], [2, 2, 4, 6, 8, 9], [1, 4, 5, 6, 6, 7], [1, 5, 5, 5, 6, 6], [1, 4, 5, 5, 7, 8], [1, 4, 4, 7, 7, 8], [1, 4, 4, 6, 8, 9], [1, 3, 6, 7, 7, 8], [1, 3, 6, 6, 8, 9], [1, 3, 5, 8, 8, 9], [1, 3, 5, 7, 9, 10]]
noncomputable def cdR6 : List (List Nat) := [[2, 3, 4, 5, 5, 6], [3, 3, 4, 4, 4, 5], [2, 4, 4, 4, 5, 5], [2, 3, 4, 5, 5, 6], [2, 3, 4, 4, 6, 7], [3, 3, 4, 4, 4, 5], [3, 3, 4, 4, 4, 5], [3, 3, 4, 4, 4, 5], [3, 3, 3, 4, 5, 6], [3, 3, 3, 4, 5, 6], [2, 4, 4, 4, 5, 5], [3, 3, 4, 4, 4, 5], [2, 3, 4, 5, 5, 6], [2, 3, 4, 5, 5, 6], [2, 3, 4, 4, 6, 7], [2, 3, 4, 5, 5, 6], [3, 3, 3, 4, 5, 6], [2, 3, 4, 5, 5, 6], [2, 3, 3, 6, 6, 7], [2, 3, 3, 5, 7, 8], [3, 3, 4, 4, 4, 5], [3, 3, 4, 4, 4, 5], [3, 3, 4, 4, 4, 5], [3, 3, 3, 4, 5, 6], [3, 3, 3, 4, 5, 6], [3, 3, 4, 4, 4, 5], [2, 3, 4, 5, 5, 6], [2, 4, 4, 4, 5, 5], [2, 3, 4, 5, 5, 6], [2, 3, 4, 4, 6, 7], [3, 3, 4, 4, 4, 5], [2, 4, 4, 4, 5, 5], [2, 3, 4, 5, 5, 6], [2, 3, 4, 5, 5, 6], [2, 3, 4, 4, 6, 7], [3, 3, 3, 4, 5, 6], [2, 3, 4, 5, 5, 6], [2, 3, 4, 5, 5, 6], [2, 3, 3, 6, 6, 7], [2, 3, 3, 5, 7, 8], [2, 4, 4, 4, 5, 5], [3, 3, 4, 4, 4, 5], [2, 3, 4, 5, 5, 6], [2, 3, 4, 4, 6, 7], [2, 3, 4, 5, 5, 6], [3, 3, 4, 4, 4, 5], [2, 4, 4, 4, 5, 5], [2, 3, 4, 5, 5, 6], [2, 3, 4, 4, 6, 7], [2, 3, 4, 5, 5, 6], [2, 3, 4, 5, 5, 6], [2, 3, 4, 5, 5, 6], [2, 2, 5, 6, 6, 7], [2, 2, 5, 6, 6, 7], [2, 2, 5, 5, 7, 8], [2, 3, 4, 4, 6, 7], [2, 3, 4, 4, 6, 7], [2, 2, 5, 6, 6, 7], [2, 2, 4, 7, 7, 8], [2, 2, 4, 6, 8, 9], [3, 3, 4, 4, 4, 5], [3, 3, 4, 4, 4, 5], [3, 3, 3, 4, 5, 6], [3, 3, 4, 4, 4, 5], [3, 3, 3, 4, 5, 6], [3, 3, 4, 4, 4, 5], [2, 3, 4, 5, 5, 6], [2, 3, 4, 5, 5, 6], [2, 4, 4, 4, 5, 5], [2, 3, 4, 4, 6, 7], [3, 3, 3, 4, 5, 6], [2, 3, 4, 5, 5, 6], [2, 3, 3, 6, 6, 7], [2, 3, 4, 5, 5, 6], [2, 3, 3, 5, 7, 8], [3, 3, 4, 4, 4, 5], [2, 4, 4, 4, 5, 5], [2, 3, 4, 5, 5, 6], [2, 3, 4, 5, 5, 6], [2, 3, 4, 4, 6, 7], [3, 3, 4, 4, 4, 5], [2, 3, 4, 5, 5, 6], [2, 3, 4, 5, 5, 6], [2, 3, 4, 4, 6, 7], [2, 4, 4, 4, 5, 5], [2, 3, 4, 5, 5, 6], [1, 4, 5, 6, 6, 7], [1, 5, 5, 5, 6, 6], [1, 4, 5, 6, 6, 7], [1, 4, 5, 5, 7, 8], [2, 3, 4, 5, 5, 6], [1, 5, 5, 5, 6, 6], [1, 4, 5, 6, 6, 7], [1, 4, 5, 6, 6, 7], [1, 4, 5, 5, 7, 8], [2, 3, 4, 4, 6, 7], [1, 4, 5, 6, 6, 7], [1, 4, 5, 6, 6, 7], [1, 4, 4, 7, 7, 8], [1, 4, 4, 6, 8, 9], [3, 3, 3, 4, 5, 6], [2, 3, 4, 5, 5, 6], [2, 3, 3, 6, 6, 7], [2, 3, 3, 5, 7, 8], [2, 3, 4, 5, 5, 6], [2, 3, 4, 5, 5, 6], [1, 5, 5, 5, 6, 6], [1, 4, 5, 6, 6, 7], [1, 4, 5, 5, 7, 8], [1, 4, 5, 6, 6, 7], [2, 3, 3, 6, 6, 7], [1, 4, 5, 6, 6, 7], [1, 3, 6, 7, 7, 8], [1, 3, 6, 7, 7, 8], [1, 3, 6, 6, 8, 9], [2, 3, 3, 5, 7, 8], [1, 4, 5, 5, 7, 8], [1, 3, 6, 7, 7, 8], [1, 3, 5, 8, 8, 9], [1, 3, 5, 7, 9, 10]]
noncomputable def cdC6 : List (List Nat) := [[3, 3, 4, 4, 4, 5], [3, 3, 4, 4, 4, 5], [3, 3, 4, 4, 4, 5], [3, 3, 3, 4, 5, 6], [3, 3, 3, 4, 5, 6], [3, 3, 4, 4, 4, 5], [2, 4, 4, 4, 5, 5], [2, 3, 4, 5, 5, 6], [2, 3, 4, 5, 5, 6], [2, 3, 4, 4, 6, 7], [3, 3, 4, 4, 4, 5], [2, 4, 4, 4, 5, 5], [2, 3, 4, 5, 5, 6], [2, 3, 4, 5, 5, 6], [2, 3, 4, 4, 6, 7], [3, 3, 3, 4, 5, 6], [2, 3, 4, 5, 5, 6], [2, 3, 4, 5, 5, 6], [2, 3, 3, 6, 6, 7], [2, 3, 3, 5, 7, 8], [3, 3, 4, 4, 4, 5], [3, 3, 4, 4, 4, 5], [3, 3, 4, 4, 4, 5], [3, 3, 3, 4, 5, 6], [3, 3, 3, 4, 5, 6], [3, 3, 4, 4, 4, 5], [2, 4, 4, 4, 5, 5], [2, 3, 4, 5, 5, 6], [2, 3, 4, 5, 5, 6], [2, 3, 4, 4, 6, 7], [3, 3, 4, 4, 4, 5], [2, 4, 4, 4, 5, 5], [2, 3, 4, 5, 5, 6], [2, 3, 4, 5, 5, 6], [2, 3, 4, 4, 6, 7], [3, 3, 3, 4, 5, 6], [2, 3, 4, 5, 5, 6], [2, 3, 4, 5, 5, 6], [2, 3, 3, 6, 6, 7], [2, 3, 3, 5, 7, 8], [3, 3, 4, 4, 4, 5], [2, 4, 4, 4, 5, 5], [2, 3, 4, 5, 5, 6], [2, 3, 4, 5, 5, 6], [2, 3, 4, 4, 6, 7], [3, 3, 4, 4, 4, 5], [2, 4, 4, 4, 5, 5], [2, 3, 4, 5, 5, 6], [2, 3, 4, 5, 5, 6], [2, 3, 4, 4, 6, 7], [2, 3, 4, 5, 5, 6], [2, 3, 4, 5, 5, 6], [2, 2, 5, 6, 6, 7], [2, 2, 5, 6, 6, 7], [2, 2, 5, 5, 7, 8], [2, 3, 4, 4, 6, 7], [2, 3, 4, 4, 6, 7], [2, 2, 5, 6, 6, 7], [2, 2, 4, 7, 7, 8], [2, 2, 4, 6, 8, 9], [3, 3, 4, 4, 4, 5], [3, 3, 4, 4, 4, 5], [3, 3, 4, 4, 4, 5], [3, 3, 3, 4, 5, 6], [3, 3, 3, 4, 5, 6], [3, 3, 4, 4, 4, 5], [2, 4, 4, 4, 5, 5], [2, 3, 4, 5, 5, 6], [2, 3, 4, 5, 5, 6], [2, 3, 4, 4, 6, 7], [3, 3, 4, 4, 4, 5], [2, 4, 4, 4, 5, 5], [2, 3, 4, 5, 5, 6], [2, 3, 4, 5, 5, 6], [2, 3, 4, 4, 6, 7], [3, 3, 3, 4, 5, 6], [2, 3, 4, 5, 5, 6], [2, 3, 4, 5, 5, 6], [2, 3, 3, 6, 6, 7], [2, 3, 3, 5, 7, 8], [3, 3, 4, 4, 4, 5], [2, 4, 4, 4, 5, 5], [2, 3, 4, 5, 5, 6], [2, 3, 4, 5, 5, 6], [2, 3, 4, 4, 6, 7], [2, 3, 4, 5, 5, 6], [1, 5, 5, 5, 6, 6], [1, 4, 5, 6, 6, 7], [1, 4, 5, 6, 6, 7], [1, 4, 5, 5, 7, 8], [2, 3, 4, 5, 5, 6], [1, 5, 5, 5, 6, 6], [1, 4, 5, 6, 6, 7], [1, 4, 5, 6, 6, 7], [1, 4, 5, 5, 7, 8], [2, 3, 4, 4, 6, 7], [1, 4, 5, 6, 6, 7], [1, 4, 5, 6, 6, 7], [1, 4, 4, 7, 7, 8], [1, 4, 4, 6, 8, 9], [3, 3, 3, 4, 5, 6], [2, 3, 4, 5, 5, 6], [2, 3, 4, 5, 5, 6], [2, 3, 3, 6, 6, 7], [2, 3, 3, 5, 7, 8], [2, 3, 4, 5, 5, 6], [1, 5, 5, 5, 6, 6], [1, 4, 5, 6, 6, 7], [1, 4, 5, 6, 6, 7], [1, 4, 5, 5, 7, 8], [2, 3, 3, 6, 6, 7], [1, 4, 5, 6, 6, 7], [1, 3, 6, 7, 7, 8], [1, 3, 6, 7, 7, 8], [1, 3, 6, 6, 8, 9], [2, 3, 3, 5, 7, 8], [1, 4, 5, 5, 7, 8], [1, 3, 6, 7, 7, 8], [1, 3, 5, 8, 8, 9], [1, 3, 5, 7, 9, 10]]
theorem cdR6_e : rlv 5 (cdl0 6) = cdR6 := by decide +kernel
theorem cdC6_e : clv 5 (cdl0 6) = cdC6 := by decide +kernel
theorem cdM6 : (cdR6.all (fun x => cdU6.elem x && x.length == 6) && cdC6.all (fun x => cdU6.elem x) && cdU6.all (fun x => cdR6.elem x && cdC6.elem x)) = true := by decide +kernel
theorem cd_mm {R C U : List (List Nat)} {n : Nat} (h : (R.all (fun x => U.elem x && x.length == n) && C.all (fun x => U.elem x) && U.all (fun x => R.elem x && C.elem x)) = true) : (∀ x, x ∈ R → x ∈ C) ∧ (∀ x, x ∈ C → x ∈ R) ∧ ∀ x, x ∈ R → x.length = n := by
  rw [Bool.and_eq_true, Bool.and_eq_true] at h
  obtain ⟨⟨h1, h2⟩, h3⟩ := h
  have a : ∀ x, x ∈ R → x ∈ U ∧ x.length = n := fun x hx => by
    have h4 := List.all_eq_true.mp h1 x hx
    rw [Bool.and_eq_true] at h4
    exact ⟨List.elem_iff.mp h4.1, eq_of_beq h4.2⟩
  have b : ∀ x, x ∈ C → x ∈ U := fun x hx => List.elem_iff.mp (List.all_eq_true.mp h2 x hx)
  have c : ∀ x, x ∈ U → x ∈ R ∧ x ∈ C := fun x hx => by
    have h4 := List.all_eq_true.mp h3 x hx
    rw [Bool.and_eq_true] at h4
    exact ⟨List.elem_iff.mp h4.1, List.elem_iff.mp h4.2⟩
  exact ⟨fun x hx => (c x (a x hx).1).2, fun x hx => (c x (b x hx)).1, fun x hx => (a x hx).2⟩
theorem cd_same {O : Nat → Nat} {od : List Nat} {n : Nat} (h1 : 1 ≤ n) (h2 : n ≤ 6) : (rlv (n - 1) (cdl0 n)).foldl (upb O od n) none = (clv (n - 1) (cdl0 n)).foldl (upb O od n) none := by
  rcases (show n = 1 ∨ n = 2 ∨ n = 3 ∨ n = 4 ∨ n = 5 ∨ n = 6 by omega) with rfl | rfl | rfl | rfl | rfl | rfl
  · have e := cd_mm cdM1
    rw [show rlv (1 - 1) (cdl0 1) = cdR1 from cdR1_e, show clv (1 - 1) (cdl0 1) = cdC1 from cdC1_e]
    exact upb_same e.1 e.2.1 e.2.2 (by decide)
  · have e := cd_mm cdM2
    rw [show rlv (2 - 1) (cdl0 2) = cdR2 from cdR2_e, show clv (2 - 1) (cdl0 2) = cdC2 from cdC2_e]
    exact upb_same e.1 e.2.1 e.2.2 (by decide)
  · have e := cd_mm cdM3
    rw [show rlv (3 - 1) (cdl0 3) = cdR3 from cdR3_e, show clv (3 - 1) (cdl0 3) = cdC3 from cdC3_e]
    exact upb_same e.1 e.2.1 e.2.2 (by decide)
  · have e := cd_mm cdM4
    rw [show rlv (4 - 1) (cdl0 4) = cdR4 from cdR4_e, show clv (4 - 1) (cdl0 4) = cdC4 from cdC4_e]
    exact upb_same e.1 e.2.1 e.2.2 (by decide)
  · have e := cd_mm cdM5
    rw [show rlv (5 - 1) (cdl0 5) = cdR5 from cdR5_e, show clv (5 - 1) (cdl0 5) = cdC5 from cdC5_e]
    exact upb_same e.1 e.2.1 e.2.2 (by decide)
  · have e := cd_mm cdM6
    rw [show rlv (6 - 1) (cdl0 6) = cdR6 from cdR6_e, show clv (6 - 1) (cdl0 6) = cdC6 from cdC6_e]
    exact upb_same e.1 e.2.1 e.2.2 (by decide)
noncomputable def LR (t : en_H) : Prop := ∀ k, k < 7 → ai_hv t 180 k = some (gx_r (181 + k))
theorem lst_G {k : Nat} (hk : k < 7) : ah_G (181 + k) = some ag_181 := by
  rcases (show k = 0 ∨ k = 1 ∨ k = 2 ∨ k = 3 ∨ k = 4 ∨ k = 5 ∨ k = 6 by omega) with rfl | rfl | rfl | rfl | rfl | rfl | rfl <;> rfl
/-- the best so far, as it lies: of the reference, of the class -/
noncomputable def RBs (t : en_H) (O : Nat → Nat) (od : List Nat) (n : Nat) : Option (List Nat) → Prop
  | none => ai_hv t 383 38 = some (.inl 4294967295)
  | some q => q.length = n ∧ (∀ i, i < n → ltf q i ≤ 12) ∧ ai_hv t 383 38 = some (.inl (wsm O od q n)) ∧ ∀ i, i < n → ai_hv t 408 i = some (.inl (ltf q i))
noncomputable def CBs (t : en_H) (O : Nat → Nat) (od : List Nat) (n : Nat) : Option (List Nat) → Prop
  | none => ai_hv t 144 1 = some (.inl 1000000000)
  | some q => q.length = n ∧ (∀ i, i < n → ltf q i ≤ 12) ∧ ai_hv t 144 1 = some (.inl (wsm O od q n)) ∧ ∀ i, i < n → ai_hv t 188 i = some (.inl (ltf q i))
theorem RBs_keep {t t' : en_H} {O : Nat → Nat} {od : List Nat} {n : Nat} {b : Option (List Nat)} (h : RBs t O od n b) (e1 : ai_hv t' 383 38 = ai_hv t 383 38) (e2 : ∀ i, ai_hv t' 408 i = ai_hv t 408 i) : RBs t' O od n b := by
  cases b with
  | none => exact e1.trans h
  | some q => exact ⟨h.1, h.2.1, e1.trans h.2.2.1, fun i hi => (e2 i).trans (h.2.2.2 i hi)⟩
theorem CBs_keep {t t' : en_H} {O : Nat → Nat} {od : List Nat} {n : Nat} {b : Option (List Nat)} (h : CBs t O od n b) (e1 : ai_hv t' 144 1 = ai_hv t 144 1) (e2 : ∀ i, ai_hv t' 188 i = ai_hv t 188 i) : CBs t' O od n b := by
  cases b with
  | none => exact e1.trans h
  | some q => exact ⟨h.1, h.2.1, e1.trans h.2.2.1, fun i hi => (e2 i).trans (h.2.2.2 i hi)⟩
theorem pe_ford_i {fn : en_F} {n : Nat} {tb : en_H} {k : Nat} {f : Nat → Nat} {nn : Nat} {O : Nat → Nat} {Q : en_O → Prop} (hk : k < nn) (hn : nn ≤ 6) (kO : ∀ i, i < nn → ai_hv tb 389 (134 + i) = some (.inl (O i))) (hO : ∀ i, i < nn → O i ≤ 99) (hf : ∀ i, i < k → f i < k) (hQ : ∀ cl t1, ai_HG ah_G t1 → (∀ c i, ¬ (c = 409 ∧ i ≤ k) → ai_hv t1 c i = ai_hv tb c i) → (∀ i, i ≤ k → ai_hv t1 409 i = some (.inl (inp f k (wlp (ltp O f k) k) i))) → en_ld cl 0 = some (gx_r 383) → en_ld cl 1 = some (.inl nn) → en_ld cl 2 = some (.inl k) → en_ex none fn (en_code 156) (fun _ => false) (70, cl, [], t1, n, 0) Q) : ∀ j cl t0, j ≤ k → ai_HG ah_G t0 → (∀ c i, ¬ (c = 409 ∧ i ≤ k) → ai_hv t0 c i = ai_hv tb c i) → wlp (ltp O f k) j = wlp (ltp O f k) k → (∀ i, i < j → ai_hv t0 409 i = some (.inl (f i))) → (∀ i, j < i → i ≤ k → ai_hv t0 409 i = some (.inl (f (i - 1)))) → en_ld cl 0 = some (gx_r 383) → en_ld cl 1 = some (.inl nn) → en_ld cl 2 = some (.inl k) → en_ld cl 3 = some (.inl j) → en_ex none fn (en_code 156) (fun _ => false) (9, cl, [], t0, n, 0) Q := by
  intro j
  induction j with
  | zero =>
    intro cl t0 hj g0 e0 hw hlo hhi h0 h1 h2 h3
    refine gx_ld (i := 3) (d := 0) (v := .inl 0) rfl (fun _ => rfl) h3 rfl rfl ?_
    refine ex_go (S := (63, cl, [], t0, n, 0)) rfl (fun _ => rfl) rfl ?_
    refine gx_ld (i := 0) (d := 2) (v := gx_r 383) rfl (fun _ => rfl) h0 rfl rfl ?_
    refine gx_ref (c := 409) rfl g0 rfl rfl rfl rfl ?_
    refine gx_ld (i := 3) (d := 0) (v := .inl 0) rfl (fun _ => rfl) h3 rfl rfl ?_
    refine gx_ld (i := 2) (d := 0) (v := .inl k) rfl (fun _ => rfl) h2 rfl rfl ?_
    refine gx_ap rfl (fun _ => rfl) g0 rfl rfl rfl (show 0 < 6 from by omega) (gx_run1 (show 0 < 6 from by omega)) (ai_in_h (by first | decide | omega) (by first | decide | omega) (by first | decide | omega)) rfl (fun t101 g101 k101 e101 => ?_)
    have hw0 : wlp (ltp O f k) k = 0 := hw.symm
    exact hQ _ t101 g101 (fun c i h => (e101 c i (by first | decide | omega)).trans (e0 c i (by first | decide | omega))) (fun i hi => by
      rw [hw0]
      by_cases e9 : i = 0
      · rw [e9, inp_eq]; exact k101
      · rw [inp_gt (by first | decide | omega)]; exact (e101 409 i (by first | decide | omega)).trans (hhi i (by first | decide | omega) hi)) h0 h1 h2
  | succ j ih =>
    intro cl t0 hj g0 e0 hw hlo hhi h0 h1 h2 h3
    refine gx_ld (i := 3) (d := 0) (v := .inl (j + 1)) rfl (fun _ => rfl) h3 rfl rfl ?_
    refine gx_1f (c := .le) rfl (by first | decide | omega) (show ¬ (j + 1 ≤ 0) from by omega) rfl ?_
    refine gx_ld (i := 0) (d := 2) (v := gx_r 383) rfl (fun _ => rfl) h0 rfl rfl ?_
    refine gx_ref (c := 389) rfl g0 rfl rfl rfl rfl ?_
    refine ex_go (S := (20, cl, [.inl 134, gx_r 389], t0, n, 0)) rfl (fun _ => rfl) rfl ?_
    refine gx_ld (i := 0) (d := 2) (v := gx_r 383) rfl (fun _ => rfl) h0 rfl rfl ?_
    refine gx_ref (c := 409) rfl g0 rfl rfl rfl rfl ?_
    refine gx_ld (i := 3) (d := 0) (v := .inl (j + 1)) rfl (fun _ => rfl) h3 rfl rfl ?_
    refine ex_go (S := (26, cl, [.inl 1, .inl (j + 1), gx_r 409, .inl 134, gx_r 389], t0, n, 0)) rfl (fun _ => rfl) rfl ?_
    refine gx_isub rfl (by first | decide | omega) (by first | decide | omega) rfl ?_
    show en_ex _ _ _ _ (27, cl, [.inl j, gx_r 409, .inl 134, gx_r 389], t0, n, 0) _
    have hf9 := hf j (by first | decide | omega)
    refine gx_ag (v := .inl (f j)) (cb := fun c => Nat.beq c 0) rfl (fun _ => rfl) g0 rfl rfl (hlo j (by first | decide | omega)) (by first | decide | omega) rfl ?_
    refine ex_iadd rfl (by first | decide | omega) rfl ?_
    have hO1 := hO (f j) (by first | decide | omega)
    refine gx_ag (v := .inl (O (f j))) (cb := fun c => Nat.beq c 0) rfl (fun _ => rfl) g0 rfl rfl ((e0 389 (134 + (f j)) (by first | decide | omega)).trans (kO (f j) (by first | decide | omega))) (by first | decide | omega) rfl ?_
    refine gx_ld (i := 0) (d := 2) (v := gx_r 383) rfl (fun _ => rfl) h0 rfl rfl ?_
    refine gx_ref (c := 389) rfl g0 rfl rfl rfl rfl ?_
    refine ex_go (S := (37, cl, [.inl 134, gx_r 389, .inl (O (f j))], t0, n, 0)) rfl (fun _ => rfl) rfl ?_
    refine gx_ld (i := 2) (d := 0) (v := .inl k) rfl (fun _ => rfl) h2 rfl rfl ?_
    refine ex_iadd rfl (by first | decide | omega) rfl ?_
    have hO2 := hO k (by first | decide | omega)
    refine gx_ag (v := .inl (O k)) (cb := fun c => Nat.beq c 0) rfl (fun _ => rfl) g0 rfl rfl ((e0 389 (134 + k) (by first | decide | omega)).trans (kO k (by first | decide | omega))) (by first | decide | omega) rfl ?_
    by_cases hc3 : O k ≤ O (f j)
    · refine gx_2t (c := .ge) rfl (by first | decide | omega) (by first | decide | omega) hc3 rfl ?_
      refine gx_ld (i := 0) (d := 2) (v := gx_r 383) rfl (fun _ => rfl) h0 rfl rfl ?_
      refine gx_ref (c := 409) rfl g0 rfl rfl rfl rfl ?_
      refine gx_ld (i := 3) (d := 0) (v := .inl (j + 1)) rfl (fun _ => rfl) h3 rfl rfl ?_
      refine gx_ld (i := 2) (d := 0) (v := .inl k) rfl (fun _ => rfl) h2 rfl rfl ?_
      refine gx_ap rfl (fun _ => rfl) g0 rfl rfl rfl (show j + 1 < 6 from by omega) (gx_run1 (show j + 1 < 6 from by omega)) (ai_in_h (by first | decide | omega) (by first | decide | omega) (by first | decide | omega)) rfl (fun t104 g104 k104 e104 => ?_)
      have k5 : ai_hv t104 409 j = some (.inl (f j)) := (e104 409 j (by first | decide | omega)).trans (hlo j (by first | decide | omega))
      have k6 : ai_hv t104 389 (134 + (f j)) = some (.inl (O (f j))) := (e104 389 (134 + (f j)) (by first | decide | omega)).trans ((e0 389 (134 + (f j)) (by first | decide | omega)).trans (kO (f j) (by first | decide | omega)))
      have k7 : ai_hv t104 389 (134 + k) = some (.inl (O k)) := (e104 389 (134 + k) (by first | decide | omega)).trans ((e0 389 (134 + k) (by first | decide | omega)).trans (kO k (by first | decide | omega)))
      have hP9 : (ltp O f k) j = false := decide_eq_false (by first | decide | omega)
      have hw0 : wlp (ltp O f k) k = j + 1 := hw.symm.trans (wlp_f hP9)
      exact hQ _ t104 g104 (fun c i h => (e104 c i (by first | decide | omega)).trans (e0 c i (by first | decide | omega))) (fun i hi => by
        rw [hw0]
        rcases Nat.lt_trichotomy i (j + 1) with e9 | e9 | e9
        · rw [inp_lt e9]; exact (e104 409 i (by first | decide | omega)).trans (hlo i e9)
        · rw [e9, inp_eq]; exact k104
        · rw [inp_gt e9]; exact (e104 409 i (by first | decide | omega)).trans (hhi i e9 hi)) h0 h1 h2
    · refine gx_2f (c := .ge) rfl (by first | decide | omega) (by first | decide | omega) hc3 rfl ?_
      refine gx_ld (i := 0) (d := 2) (v := gx_r 383) rfl (fun _ => rfl) h0 rfl rfl ?_
      refine gx_ref (c := 409) rfl g0 rfl rfl rfl rfl ?_
      refine gx_ld (i := 3) (d := 0) (v := .inl (j + 1)) rfl (fun _ => rfl) h3 rfl rfl ?_
      refine gx_ld (i := 0) (d := 2) (v := gx_r 383) rfl (fun _ => rfl) h0 rfl rfl ?_
      refine gx_ref (c := 409) rfl g0 rfl rfl rfl rfl ?_
      refine gx_ld (i := 3) (d := 0) (v := .inl (j + 1)) rfl (fun _ => rfl) h3 rfl rfl ?_
      refine ex_go (S := (54, cl, [.inl 1, .inl (j + 1), gx_r 409, .inl (j + 1), gx_r 409], t0, n, 0)) rfl (fun _ => rfl) rfl ?_
      refine gx_isub rfl (by first | decide | omega) (by first | decide | omega) rfl ?_
      show en_ex _ _ _ _ (55, cl, [.inl j, gx_r 409, .inl (j + 1), gx_r 409], t0, n, 0) _
      refine gx_ag (v := .inl (f j)) (cb := fun c => Nat.beq c 0) rfl (fun _ => rfl) g0 rfl rfl (hlo j (by first | decide | omega)) (by first | decide | omega) rfl ?_
      refine gx_ap rfl (fun _ => rfl) g0 rfl rfl rfl (show j + 1 < 6 from by omega) (gx_run1 (show j + 1 < 6 from by omega)) (ai_in_h (by first | decide | omega) (by first | decide | omega) (by first | decide | omega)) rfl (fun t108 g108 k108 e108 => ?_)
      have k9 : ai_hv t108 409 j = some (.inl (f j)) := (e108 409 j (by first | decide | omega)).trans (hlo j (by first | decide | omega))
      have k10 : ai_hv t108 389 (134 + (f j)) = some (.inl (O (f j))) := (e108 389 (134 + (f j)) (by first | decide | omega)).trans ((e0 389 (134 + (f j)) (by first | decide | omega)).trans (kO (f j) (by first | decide | omega)))
      have k11 : ai_hv t108 389 (134 + k) = some (.inl (O k)) := (e108 389 (134 + k) (by first | decide | omega)).trans ((e0 389 (134 + k) (by first | decide | omega)).trans (kO k (by first | decide | omega)))
      refine gx_decS (i := 3) (a := j + 1) rfl (fun _ => rfl) h3 (by first | decide | omega) (by first | decide | omega) rfl (fun l12 hl12 ml12 => ?_)
      have l12_0 : en_ld l12 0 = some (gx_r 383) := ml12 0 _ h0 rfl
      have l12_1 : en_ld l12 1 = some (.inl nn) := ml12 1 _ h1 rfl
      have l12_2 : en_ld l12 2 = some (.inl k) := ml12 2 _ h2 rfl
      refine ex_go (S := (9, l12, [], t108, n, 0)) rfl (fun _ => rfl) rfl ?_
      have hP9 : (ltp O f k) j = true := decide_eq_true (show O (f j) < O k from by omega)
      exact ih _ t108 (by first | decide | omega) g108 (fun c i h => (e108 c i (by first | decide | omega)).trans (e0 c i (by first | decide | omega))) ((wlp_t hP9).symm.trans hw) (fun i hi => (e108 409 i (by first | decide | omega)).trans (hlo i (by first | decide | omega))) (fun i h1 h2 => by
        by_cases e9 : i = j + 1
        · rw [e9]; exact k108
        · exact (e108 409 i (by first | decide | omega)).trans (hhi i (by first | decide | omega) h2)) l12_0 l12_1 l12_2 hl12
theorem pe_ford_o {fn : en_F} {n : Nat} {tb : en_H} {nn : Nat} {O : Nat → Nat}  {Q : en_O → Prop} (hn : nn ≤ 6) (kO : ∀ i, i < nn → ai_hv tb 389 (134 + i) = some (.inl (O i))) (hO : ∀ i, i < nn → O i ≤ 99) (hQ : ∀ cl t1, ai_HG ah_G t1 → (∀ c i, c ≠ 409 → ai_hv t1 c i = ai_hv tb c i) → (∀ i, i < nn → ai_hv t1 409 i = some (.inl (ltf (ordl O nn) i))) → en_ex none fn (en_code 156) (fun _ => false) (76, cl, [], t1, n, 0) Q) : ∀ j k cl t0, k + j = nn → ai_HG ah_G t0 → (∀ c i, c ≠ 409 → ai_hv t0 c i = ai_hv tb c i) → (∀ i, i < k → ai_hv t0 409 i = some (.inl (ltf (ordl O k) i))) → en_ld cl 0 = some (gx_r 383) → en_ld cl 1 = some (.inl nn) → en_ld cl 2 = some (.inl k) → en_ex none fn (en_code 156) (fun _ => false) (2, cl, [], t0, n, 0) Q := by
  intro j
  induction j with
  | zero =>
    intro k cl t0 hj g0 e0 hc h0 h1 h2
    have hk : k = nn := by omega
    rw [hk] at hc
    refine gx_ld (i := 2) (d := 0) (v := .inl k) rfl (fun _ => rfl) h2 rfl rfl ?_
    refine gx_ld (i := 1) (d := 0) (v := .inl nn) rfl (fun _ => rfl) h1 rfl rfl ?_
    refine gx_2t (c := .ge) rfl (by first | decide | omega) (by first | decide | omega) (show nn ≤ k from by omega) rfl ?_
    exact hQ _ t0 g0 e0 hc
  | succ j ih =>
    intro k cl t0 hj g0 e0 hc h0 h1 h2
    refine gx_ld (i := 2) (d := 0) (v := .inl k) rfl (fun _ => rfl) h2 rfl rfl ?_
    refine gx_ld (i := 1) (d := 0) (v := .inl nn) rfl (fun _ => rfl) h1 rfl rfl ?_
    refine gx_2f (c := .ge) rfl (by first | decide | omega) (by first | decide | omega) (show ¬ (nn ≤ k) from by omega) rfl ?_
    refine gx_ld (i := 2) (d := 0) (v := .inl k) rfl (fun _ => rfl) h2 rfl rfl ?_
    refine gx_sto (i := 3) (d := 0) rfl (fun _ => rfl) rfl rfl (fun l1 hl1 ml1 => ?_)
    have l1_0 : en_ld l1 0 = some (gx_r 383) := ml1 0 _ h0 rfl
    have l1_1 : en_ld l1 1 = some (.inl nn) := ml1 1 _ h1 rfl
    have l1_2 : en_ld l1 2 = some (.inl k) := ml1 2 _ h2 rfl
    refine pe_ford_i (tb := t0) (nn := nn) (k := k) (O := O) (f := ltf (ordl O k)) (by first | decide | omega) hn (fun i hi => (e0 389 (134 + i) (by first | decide | omega)).trans (kO i hi)) hO (fun i hi => ordl_lt k i hi) (fun cl1 t1 g1 e1 hc1 m0 m1 m2 => ?_) k _ t0 (Nat.le_refl _) g0 (fun _ _ _ => rfl) rfl hc (fun i h1 h2 => absurd h2 (by first | decide | omega)) l1_0 l1_1 l1_2 hl1
    refine gx_incS (i := 2) (a := k) (x := 1) rfl (fun _ => rfl) m2 (by first | decide | omega) rfl (fun l2 hl2 ml2 => ?_)
    have l2_0 : en_ld l2 0 = some (gx_r 383) := ml2 0 _ m0 rfl
    have l2_1 : en_ld l2 1 = some (.inl nn) := ml2 1 _ m1 rfl
    refine ex_go (S := (2, l2, [], t1, n, 0)) rfl (fun _ => rfl) rfl ?_
    exact ih (k + 1) _ t1 (by first | decide | omega) g1 (fun c i h => (e1 c i (by first | decide | omega)).trans (e0 c i h)) (fun i hi => by rw [ordl_at hi]; exact hc1 i (by first | decide | omega)) l2_0 l2_1 hl2
theorem pe_findOrder (d n : Nat) {t0 : en_H} {nn : Nat} {O : Nat → Nat} (g0 : ai_HG ah_G t0) (hn : nn ≤ 6) (kO : ∀ i, i < nn → ai_hv t0 389 (134 + i) = some (.inl (O i))) (hO : ∀ i, i < nn → O i ≤ 99) : ∃ r, en_u (d + 1) 156 [gx_r 383, .inl nn] t0 n = some r ∧ ∃ t', r = (none, t', n, 0) ∧ ai_HG ah_G t' ∧ (∀ c i, c ≠ 409 → ai_hv t' c i = ai_hv t0 c i) ∧ ∀ i, i < nn → ai_hv t' 409 i = some (.inl (ltf (ordl O nn) i)) := by
  refine en_u_ex rfl ?_
  show en_ex _ _ _ _ (0, [(0, gx_r 383), (1, .inl nn)], [], t0, n, 0) _
  refine ex_go (S := (1, [(0, gx_r 383), (1, .inl nn)], [.inl 0], t0, n, 0)) rfl (fun _ => rfl) rfl ?_
  refine ex_go (S := (2, [(2, .inl 0), (0, gx_r 383), (1, .inl nn)], [], t0, n, 0)) rfl (fun _ => rfl) rfl ?_
  refine pe_ford_o (tb := t0) hn kO hO (fun cl t1 g1 e1 hc => ?_) nn 0 _ t0 (by first | decide | omega) g0 (fun _ _ _ => rfl) (fun i h => absurd h (Nat.not_lt_zero i)) rfl rfl rfl
  refine ex_ret (r := (none, t1, n, 0)) rfl (fun _ => rfl) ?_
  exact ⟨_, rfl, t1, rfl, g1, e1, hc⟩
theorem pe_lk_i {fn : en_F} {n : Nat} {tb : en_H} {k : Nat} {f : Nat → Nat} {nn at0 x : Nat} {Q : en_O → Prop} (hk : k < 6) (hx : x ≤ 12) (hf : ∀ i, i < k → f i ≤ 12) (hQ : ∀ cl t1, ai_HG ah_G t1 → (∀ c i, ¬ (c = 410 ∧ i ≤ k) → ai_hv t1 c i = ai_hv tb c i) → (∀ i, i ≤ k → ai_hv t1 410 i = some (.inl (inp f x (wlp (gtp f x) k) i))) → en_ld cl 0 = some (gx_r 383) → en_ld cl 1 = some (.inl nn) → en_ld cl 2 = some (.inl at0) → en_ld cl 3 = some (.inl k) → en_ld cl 4 = some (.inl x) → en_ex none fn (en_code 219) (fun _ => false) (70, cl, [], t1, n, 0) Q) : ∀ j cl t0, j ≤ k → ai_HG ah_G t0 → (∀ c i, ¬ (c = 410 ∧ i ≤ k) → ai_hv t0 c i = ai_hv tb c i) → wlp (gtp f x) j = wlp (gtp f x) k → (∀ i, i < j → ai_hv t0 410 i = some (.inl (f i))) → (∀ i, j < i → i ≤ k → ai_hv t0 410 i = some (.inl (f (i - 1)))) → en_ld cl 0 = some (gx_r 383) → en_ld cl 1 = some (.inl nn) → en_ld cl 2 = some (.inl at0) → en_ld cl 3 = some (.inl k) → en_ld cl 4 = some (.inl x) → en_ld cl 5 = some (.inl j) → en_ex none fn (en_code 219) (fun _ => false) (20, cl, [], t0, n, 0) Q := by
  intro j
  induction j with
  | zero =>
    intro cl t0 hj g0 e0 hw hlo hhi h0 h1 h2 h3 h4 h5
    refine gx_ld (i := 5) (d := 0) (v := .inl 0) rfl (fun _ => rfl) h5 rfl rfl ?_
    refine ex_go (S := (61, cl, [], t0, n, 0)) rfl (fun _ => rfl) rfl ?_
    refine gx_ld (i := 0) (d := 2) (v := gx_r 383) rfl (fun _ => rfl) h0 rfl rfl ?_
    refine gx_ref (c := 410) rfl g0 rfl rfl rfl rfl ?_
    refine gx_ld (i := 5) (d := 0) (v := .inl 0) rfl (fun _ => rfl) h5 rfl rfl ?_
    refine gx_ld (i := 4) (d := 0) (v := .inl x) rfl (fun _ => rfl) h4 rfl rfl ?_
    refine gx_ap rfl (fun _ => rfl) g0 rfl rfl rfl (show 0 < 6 from by omega) (gx_run1 (show 0 < 6 from by omega)) (gx_full (by first | decide | omega)) rfl (fun t101 g101 k101 e101 => ?_)
    have hw0 : wlp (gtp f x) k = 0 := hw.symm
    exact hQ _ t101 g101 (fun c i h => (e101 c i (by first | decide | omega)).trans (e0 c i (by first | decide | omega))) (fun i hi => by
      rw [hw0]
      by_cases e9 : i = 0
      · rw [e9, inp_eq]; exact k101
      · rw [inp_gt (by first | decide | omega)]; exact (e101 410 i (by first | decide | omega)).trans (hhi i (by first | decide | omega) hi)) h0 h1 h2 h3 h4
  | succ j ih =>
    intro cl t0 hj g0 e0 hw hlo hhi h0 h1 h2 h3 h4 h5
    refine gx_ld (i := 5) (d := 0) (v := .inl (j + 1)) rfl (fun _ => rfl) h5 rfl rfl ?_
    refine gx_1f (c := .le) rfl (by first | decide | omega) (show ¬ (j + 1 ≤ 0) from by omega) rfl ?_
    refine gx_ld (i := 0) (d := 2) (v := gx_r 383) rfl (fun _ => rfl) h0 rfl rfl ?_
    refine gx_ref (c := 410) rfl g0 rfl rfl rfl rfl ?_
    refine gx_ld (i := 5) (d := 0) (v := .inl (j + 1)) rfl (fun _ => rfl) h5 rfl rfl ?_
    refine ex_go (S := (32, cl, [.inl 1, .inl (j + 1), gx_r 410], t0, n, 0)) rfl (fun _ => rfl) rfl ?_
    refine gx_isub rfl (by first | decide | omega) (by first | decide | omega) rfl ?_
    show en_ex _ _ _ _ (33, cl, [.inl j, gx_r 410], t0, n, 0) _
    have hf9 := hf j (by first | decide | omega)
    refine gx_ag (v := .inl (f j)) (cb := fun c => Nat.beq c 0) rfl (fun _ => rfl) g0 rfl rfl (hlo j (by first | decide | omega)) (by first | decide | omega) rfl ?_
    refine gx_ld (i := 4) (d := 0) (v := .inl x) rfl (fun _ => rfl) h4 rfl rfl ?_
    by_cases hc1 : f j ≤ x
    · refine gx_2t (c := .le) rfl (by first | decide | omega) (by first | decide | omega) hc1 rfl ?_
      refine gx_ld (i := 0) (d := 2) (v := gx_r 383) rfl (fun _ => rfl) h0 rfl rfl ?_
      refine gx_ref (c := 410) rfl g0 rfl rfl rfl rfl ?_
      refine gx_ld (i := 5) (d := 0) (v := .inl (j + 1)) rfl (fun _ => rfl) h5 rfl rfl ?_
      refine gx_ld (i := 4) (d := 0) (v := .inl x) rfl (fun _ => rfl) h4 rfl rfl ?_
      refine gx_ap rfl (fun _ => rfl) g0 rfl rfl rfl (show j + 1 < 6 from by omega) (gx_run1 (show j + 1 < 6 from by omega)) (gx_full (by first | decide | omega)) rfl (fun t102 g102 k102 e102 => ?_)
      have k3 : ai_hv t102 410 j = some (.inl (f j)) := (e102 410 j (by first | decide | omega)).trans (hlo j (by first | decide | omega))
      have hP9 : (gtp f x) j = false := decide_eq_false (by first | decide | omega)
      have hw0 : wlp (gtp f x) k = j + 1 := hw.symm.trans (wlp_f hP9)
      exact hQ _ t102 g102 (fun c i h => (e102 c i (by first | decide | omega)).trans (e0 c i (by first | decide | omega))) (fun i hi => by
        rw [hw0]
        rcases Nat.lt_trichotomy i (j + 1) with e9 | e9 | e9
        · rw [inp_lt e9]; exact (e102 410 i (by first | decide | omega)).trans (hlo i e9)
        · rw [e9, inp_eq]; exact k102
        · rw [inp_gt e9]; exact (e102 410 i (by first | decide | omega)).trans (hhi i e9 hi)) h0 h1 h2 h3 h4
    · refine gx_2f (c := .le) rfl (by first | decide | omega) (by first | decide | omega) hc1 rfl ?_
      refine gx_ld (i := 0) (d := 2) (v := gx_r 383) rfl (fun _ => rfl) h0 rfl rfl ?_
      refine gx_ref (c := 410) rfl g0 rfl rfl rfl rfl ?_
      refine gx_ld (i := 5) (d := 0) (v := .inl (j + 1)) rfl (fun _ => rfl) h5 rfl rfl ?_
      refine gx_ld (i := 0) (d := 2) (v := gx_r 383) rfl (fun _ => rfl) h0 rfl rfl ?_
      refine gx_ref (c := 410) rfl g0 rfl rfl rfl rfl ?_
      refine gx_ld (i := 5) (d := 0) (v := .inl (j + 1)) rfl (fun _ => rfl) h5 rfl rfl ?_
      refine ex_go (S := (52, cl, [.inl 1, .inl (j + 1), gx_r 410, .inl (j + 1), gx_r 410], t0, n, 0)) rfl (fun _ => rfl) rfl ?_
      refine gx_isub rfl (by first | decide | omega) (by first | decide | omega) rfl ?_
      show en_ex _ _ _ _ (53, cl, [.inl j, gx_r 410, .inl (j + 1), gx_r 410], t0, n, 0) _
      refine gx_ag (v := .inl (f j)) (cb := fun c => Nat.beq c 0) rfl (fun _ => rfl) g0 rfl rfl (hlo j (by first | decide | omega)) (by first | decide | omega) rfl ?_
      refine gx_ap rfl (fun _ => rfl) g0 rfl rfl rfl (show j + 1 < 6 from by omega) (gx_run1 (show j + 1 < 6 from by omega)) (gx_full (by first | decide | omega)) rfl (fun t104 g104 k104 e104 => ?_)
      have k5 : ai_hv t104 410 j = some (.inl (f j)) := (e104 410 j (by first | decide | omega)).trans (hlo j (by first | decide | omega))
      refine gx_decS (i := 5) (a := j + 1) rfl (fun _ => rfl) h5 (by first | decide | omega) (by first | decide | omega) rfl (fun l6 hl6 ml6 => ?_)
      have l6_0 : en_ld l6 0 = some (gx_r 383) := ml6 0 _ h0 rfl
      have l6_1 : en_ld l6 1 = some (.inl nn) := ml6 1 _ h1 rfl
      have l6_2 : en_ld l6 2 = some (.inl at0) := ml6 2 _ h2 rfl
      have l6_3 : en_ld l6 3 = some (.inl k) := ml6 3 _ h3 rfl
      have l6_4 : en_ld l6 4 = some (.inl x) := ml6 4 _ h4 rfl
      refine ex_go (S := (20, l6, [], t104, n, 0)) rfl (fun _ => rfl) rfl ?_
      have hP9 : (gtp f x) j = true := decide_eq_true (show x < f j from by omega)
      exact ih _ t104 (by first | decide | omega) g104 (fun c i h => (e104 c i (by first | decide | omega)).trans (e0 c i (by first | decide | omega))) ((wlp_t hP9).symm.trans hw) (fun i hi => (e104 410 i (by first | decide | omega)).trans (hlo i (by first | decide | omega))) (fun i h1 h2 => by
        by_cases e9 : i = j + 1
        · rw [e9]; exact k104
        · exact (e104 410 i (by first | decide | omega)).trans (hhi i (by first | decide | omega) h2)) l6_0 l6_1 l6_2 l6_3 l6_4 hl6
theorem pe_lk_a {fn : en_F} {n : Nat} {tb : en_H} {nn at0 : Nat} {l : List Nat} {Q : en_O → Prop} (hn : nn ≤ 6) (ha : at0 ≤ 30) (kg : ∀ i, i < nn → ai_hv tb 407 (at0 + i) = some (.inl (ltf l i))) (hl : ∀ i, i < nn → ltf l i ≤ 12) (hQ : ∀ cl t1, ai_HG ah_G t1 → (∀ c i, c ≠ 410 → ai_hv t1 c i = ai_hv tb c i) → (∀ i, i < nn → ai_hv t1 410 i = some (.inl (ltf (srt l nn) i))) → en_ld cl 0 = some (gx_r 383) → en_ld cl 1 = some (.inl nn) → en_ld cl 2 = some (.inl at0) → en_ex none fn (en_code 219) (fun _ => false) (76, cl, [], t1, n, 0) Q) : ∀ j k cl t0, k + j = nn → ai_HG ah_G t0 → (∀ c i, c ≠ 410 → ai_hv t0 c i = ai_hv tb c i) → (∀ i, i < k → ai_hv t0 410 i = some (.inl (ltf (srt l k) i))) → en_ld cl 0 = some (gx_r 383) → en_ld cl 1 = some (.inl nn) → en_ld cl 2 = some (.inl at0) → en_ld cl 3 = some (.inl k) → en_ex none fn (en_code 219) (fun _ => false) (2, cl, [], t0, n, 0) Q := by
  intro j
  induction j with
  | zero =>
    intro k cl t0 hj g0 e0 hc h0 h1 h2 h3
    have hk : k = nn := by omega
    rw [hk] at hc
    refine gx_ld (i := 3) (d := 0) (v := .inl k) rfl (fun _ => rfl) h3 rfl rfl ?_
    refine gx_ld (i := 1) (d := 0) (v := .inl nn) rfl (fun _ => rfl) h1 rfl rfl ?_
    refine gx_2t (c := .ge) rfl (by first | decide | omega) (by first | decide | omega) (show nn ≤ k from by omega) rfl ?_
    exact hQ _ t0 g0 e0 hc h0 h1 h2
  | succ j ih =>
    intro k cl t0 hj g0 e0 hc h0 h1 h2 h3
    have hlk := hl k (by first | decide | omega)
    refine gx_ld (i := 3) (d := 0) (v := .inl k) rfl (fun _ => rfl) h3 rfl rfl ?_
    refine gx_ld (i := 1) (d := 0) (v := .inl nn) rfl (fun _ => rfl) h1 rfl rfl ?_
    refine gx_2f (c := .ge) rfl (by first | decide | omega) (by first | decide | omega) (show ¬ (nn ≤ k) from by omega) rfl ?_
    refine gx_ld (i := 0) (d := 2) (v := gx_r 383) rfl (fun _ => rfl) h0 rfl rfl ?_
    refine gx_ref (c := 407) rfl g0 rfl rfl rfl rfl ?_
    refine gx_ld (i := 2) (d := 0) (v := .inl at0) rfl (fun _ => rfl) h2 rfl rfl ?_
    refine gx_ld (i := 3) (d := 0) (v := .inl k) rfl (fun _ => rfl) h3 rfl rfl ?_
    refine ex_iadd rfl (by first | decide | omega) rfl ?_
    refine gx_ag (v := .inl (ltf l k)) (cb := fun c => Nat.beq c 0) rfl (fun _ => rfl) g0 rfl rfl ((e0 407 (at0 + k) (by first | decide | omega)).trans (kg k (by first | decide | omega))) (by first | decide | omega) rfl ?_
    refine gx_sto (i := 4) (d := 0) rfl (fun _ => rfl) rfl rfl (fun l1 hl1 ml1 => ?_)
    have l1_0 : en_ld l1 0 = some (gx_r 383) := ml1 0 _ h0 rfl
    have l1_1 : en_ld l1 1 = some (.inl nn) := ml1 1 _ h1 rfl
    have l1_2 : en_ld l1 2 = some (.inl at0) := ml1 2 _ h2 rfl
    have l1_3 : en_ld l1 3 = some (.inl k) := ml1 3 _ h3 rfl
    refine gx_ld (i := 3) (d := 0) (v := .inl k) rfl (fun _ => rfl) l1_3 rfl rfl ?_
    refine gx_sto (i := 5) (d := 0) rfl (fun _ => rfl) rfl rfl (fun l2 hl2 ml2 => ?_)
    have l2_0 : en_ld l2 0 = some (gx_r 383) := ml2 0 _ l1_0 rfl
    have l2_1 : en_ld l2 1 = some (.inl nn) := ml2 1 _ l1_1 rfl
    have l2_2 : en_ld l2 2 = some (.inl at0) := ml2 2 _ l1_2 rfl
    have l2_3 : en_ld l2 3 = some (.inl k) := ml2 3 _ l1_3 rfl
    have l2_4 : en_ld l2 4 = some (.inl (ltf l k)) := ml2 4 _ hl1 rfl
    refine pe_lk_i (tb := t0) (nn := nn) (at0 := at0) (x := ltf l k) (k := k) (f := ltf (srt l k)) (by first | decide | omega) hlk (fun i hi => srt_le k (fun q hq => hl q (by first | decide | omega)) i hi) (fun cl1 t1 g1 e1 hc1 m0 m1 m2 m3 m4 => ?_) k _ t0 (Nat.le_refl _) g0 (fun _ _ _ => rfl) rfl hc (fun i h1 h2 => absurd h2 (by first | decide | omega)) l2_0 l2_1 l2_2 l2_3 l2_4 hl2
    refine gx_incS (i := 3) (a := k) (x := 1) rfl (fun _ => rfl) m3 (by first | decide | omega) rfl (fun l3 hl3 ml3 => ?_)
    have l3_0 : en_ld l3 0 = some (gx_r 383) := ml3 0 _ m0 rfl
    have l3_1 : en_ld l3 1 = some (.inl nn) := ml3 1 _ m1 rfl
    have l3_2 : en_ld l3 2 = some (.inl at0) := ml3 2 _ m2 rfl
    refine ex_go (S := (2, l3, [], t1, n, 0)) rfl (fun _ => rfl) rfl ?_
    exact ih (k + 1) _ t1 (by first | decide | omega) g1 (fun c i h => (e1 c i (by first | decide | omega)).trans (e0 c i h)) (fun i hi => by rw [srt_at hi]; exact hc1 i (by first | decide | omega)) l3_0 l3_1 l3_2 hl3
noncomputable def lsr (y x : Nat) : Prop := (x = 0 ∧ y = 0) ∨ (x = 1 ∧ 2147483648 ≤ y ∧ y < 4294967296) ∨ (x = 2 ∧ 0 < y ∧ y < 2147483648)
theorem lsr_0 {y x : Nat} (h : x = 0) (h2 : y = 0) : lsr y x := Or.inl ⟨h, h2⟩
theorem lsr_1 {y x : Nat} (h : x = 1) (h2 : 2147483648 ≤ y) (h3 : y < 4294967296) : lsr y x := Or.inr (Or.inl ⟨h, h2, h3⟩)
theorem lsr_2 {y x : Nat} (h : x = 2) (h2 : 0 < y) (h3 : y < 2147483648) : lsr y x := Or.inr (Or.inr ⟨h, h2, h3⟩)
theorem pe_lk_b0 {fn : en_F} {n : Nat} {t0 : en_H} {nn at0 : Nat} {r od q : List Nat} {O : Nat → Nat} {Q : en_O → Prop} (g0 : ai_HG ah_G t0) (hn : nn ≤ 6) (kO : ∀ i, i < nn → ai_hv t0 389 (134 + i) = some (.inl (O i))) (hO : ∀ i, i < nn → O i ≤ 99) (ko : ∀ i, i < nn → ai_hv t0 409 i = some (.inl (ltf od i))) (hod : ∀ i, i < nn → ltf od i < nn) (kr : ∀ i, i < nn → ai_hv t0 410 i = some (.inl (ltf r i))) (hr : ∀ i, i < nn → ltf r i ≤ 12) (kb : ai_hv t0 383 38 = some (.inl 4294967295)) (hQ : ∀ cl, en_ld cl 0 = some (gx_r 383) → en_ld cl 1 = some (.inl nn) → en_ld cl 2 = some (.inl at0) → en_ld cl 3 = some (.inl (wsm O od r nn)) → en_ld cl 4 = some (.inl 0) → en_ex none fn (en_code 219) (fun _ => false) (157, cl, [], t0, n, 0) Q) : ∀ j k cl, k + j = nn → en_ld cl 0 = some (gx_r 383) → en_ld cl 1 = some (.inl nn) → en_ld cl 2 = some (.inl at0) → en_ld cl 3 = some (.inl (wsm O od r k)) → en_ld cl 4 = some (.inl 0) → en_ld cl 5 = some (.inl k) → en_ex none fn (en_code 219) (fun _ => false) (84, cl, [], t0, n, 0) Q := by
  intro j
  induction j with
  | zero =>
    intro k cl hj h0 h1 h2 h3 h4 h5
    have hk : k = nn := by omega
    rw [hk] at h3
    refine gx_ld (i := 5) (d := 0) (v := .inl k) rfl (fun _ => rfl) h5 rfl rfl ?_
    refine gx_ld (i := 1) (d := 0) (v := .inl nn) rfl (fun _ => rfl) h1 rfl rfl ?_
    refine gx_2t (c := .ge) rfl (by first | decide | omega) (by first | decide | omega) (show nn ≤ k from by omega) rfl ?_
    exact hQ _ h0 h1 h2 h3 h4
  | succ j ih =>
    intro k cl hj h0 h1 h2 h3 h4 h5
    have hws := wsm_le (O := O) (od := od) (r := r) k (fun i hi => hr i (by first | decide | omega)) (fun i hi => hO _ (hod i (by first | decide | omega)))
    refine gx_ld (i := 5) (d := 0) (v := .inl k) rfl (fun _ => rfl) h5 rfl rfl ?_
    refine gx_ld (i := 1) (d := 0) (v := .inl nn) rfl (fun _ => rfl) h1 rfl rfl ?_
    refine gx_2f (c := .ge) rfl (by first | decide | omega) (by first | decide | omega) (show ¬ (nn ≤ k) from by omega) rfl ?_
    refine gx_ld (i := 3) (d := 0) (v := .inl (wsm O od r k)) rfl (fun _ => rfl) h3 rfl rfl ?_
    refine gx_ld (i := 0) (d := 2) (v := gx_r 383) rfl (fun _ => rfl) h0 rfl rfl ?_
    refine gx_ref (c := 410) rfl g0 rfl rfl rfl rfl ?_
    refine gx_ld (i := 5) (d := 0) (v := .inl k) rfl (fun _ => rfl) h5 rfl rfl ?_
    have hr9 := hr k (by first | decide | omega)
    refine gx_ag (v := .inl (ltf r k)) (cb := fun c => Nat.beq c 0) rfl (fun _ => rfl) g0 rfl rfl (kr k (by first | decide | omega)) (by first | decide | omega) rfl ?_
    refine gx_ld (i := 0) (d := 2) (v := gx_r 383) rfl (fun _ => rfl) h0 rfl rfl ?_
    refine gx_ref (c := 389) rfl g0 rfl rfl rfl rfl ?_
    refine ex_go (S := (105, cl, [.inl 134, gx_r 389, .inl (ltf r k), .inl (wsm O od r k)], t0, n, 0)) rfl (fun _ => rfl) rfl ?_
    refine gx_ld (i := 0) (d := 2) (v := gx_r 383) rfl (fun _ => rfl) h0 rfl rfl ?_
    refine gx_ref (c := 409) rfl g0 rfl rfl rfl rfl ?_
    refine gx_ld (i := 5) (d := 0) (v := .inl k) rfl (fun _ => rfl) h5 rfl rfl ?_
    have ho9 := hod k (by first | decide | omega)
    refine gx_ag (v := .inl (ltf od k)) (cb := fun c => Nat.beq c 0) rfl (fun _ => rfl) g0 rfl rfl (ko k (by first | decide | omega)) (by first | decide | omega) rfl ?_
    refine ex_iadd rfl (by first | decide | omega) rfl ?_
    have hO9 := hO (ltf od k) (by first | decide | omega)
    refine gx_ag (v := .inl (O (ltf od k))) (cb := fun c => Nat.beq c 0) rfl (fun _ => rfl) g0 rfl rfl (kO (ltf od k) (by first | decide | omega)) (by first | decide | omega) rfl ?_
    have hm9 : ltf r k * O (ltf od k) ≤ 12 * 99 := Nat.mul_le_mul hr9 hO9
    refine gx_imul rfl (by first | decide | omega) rfl ?_
    refine ex_iadd rfl (by first | decide | omega) rfl ?_
    refine gx_sto (i := 3) (d := 0) rfl (fun _ => rfl) rfl rfl (fun l1 hl1 ml1 => ?_)
    have l1_0 : en_ld l1 0 = some (gx_r 383) := ml1 0 _ h0 rfl
    have l1_1 : en_ld l1 1 = some (.inl nn) := ml1 1 _ h1 rfl
    have l1_2 : en_ld l1 2 = some (.inl at0) := ml1 2 _ h2 rfl
    have l1_4 : en_ld l1 4 = some (.inl 0) := ml1 4 _ h4 rfl
    have l1_5 : en_ld l1 5 = some (.inl k) := ml1 5 _ h5 rfl
    refine gx_ld (i := 4) (d := 0) (v := .inl 0) rfl (fun _ => rfl) l1_4 rfl rfl ?_
    refine ex_go (S := (122, l1, [], t0, n, 0)) rfl (fun _ => rfl) rfl ?_
    refine gx_ld (i := 0) (d := 2) (v := gx_r 383) rfl (fun _ => rfl) l1_0 rfl rfl ?_
    refine gx_get rfl g0 rfl kb rfl ?_
    refine ex_go (S := (147, l1, [], t0, n, 0)) rfl (fun _ => rfl) rfl ?_
    refine gx_ld (i := 4) (d := 0) (v := .inl 0) rfl (fun _ => rfl) l1_4 rfl rfl ?_
    refine gx_sto (i := 4) (d := 0) rfl (fun _ => rfl) rfl rfl (fun l2 hl2 ml2 => ?_)
    have l2_0 : en_ld l2 0 = some (gx_r 383) := ml2 0 _ l1_0 rfl
    have l2_1 : en_ld l2 1 = some (.inl nn) := ml2 1 _ l1_1 rfl
    have l2_2 : en_ld l2 2 = some (.inl at0) := ml2 2 _ l1_2 rfl
    have l2_5 : en_ld l2 5 = some (.inl k) := ml2 5 _ l1_5 rfl
    have l2_3 : en_ld l2 3 = some (.inl ((wsm O od r k) + ((ltf r k) * (O (ltf od k))))) := ml2 3 _ hl1 rfl
    refine gx_incS (i := 5) (a := k) (x := 1) rfl (fun _ => rfl) l2_5 (by first | decide | omega) rfl (fun l3 hl3 ml3 => ?_)
    have l3_0 : en_ld l3 0 = some (gx_r 383) := ml3 0 _ l2_0 rfl
    have l3_1 : en_ld l3 1 = some (.inl nn) := ml3 1 _ l2_1 rfl
    have l3_2 : en_ld l3 2 = some (.inl at0) := ml3 2 _ l2_2 rfl
    have l3_3 : en_ld l3 3 = some (.inl ((wsm O od r k) + ((ltf r k) * (O (ltf od k))))) := ml3 3 _ l2_3 rfl
    have l3_4 : en_ld l3 4 = some (.inl 0) := ml3 4 _ hl2 rfl
    refine ex_go (S := (84, l3, [], t0, n, 0)) rfl (fun _ => rfl) rfl ?_
    exact ih (k + 1) _ (by first | decide | omega) l3_0 l3_1 l3_2 l3_3 l3_4 hl3
theorem pe_lk_b1 {fn : en_F} {n : Nat} {t0 : en_H} {nn at0 : Nat} {r od q : List Nat} {O : Nat → Nat} {Q : en_O → Prop} (g0 : ai_HG ah_G t0) (hn : nn ≤ 6) (kO : ∀ i, i < nn → ai_hv t0 389 (134 + i) = some (.inl (O i))) (hO : ∀ i, i < nn → O i ≤ 99) (ko : ∀ i, i < nn → ai_hv t0 409 i = some (.inl (ltf od i))) (hod : ∀ i, i < nn → ltf od i < nn) (kr : ∀ i, i < nn → ai_hv t0 410 i = some (.inl (ltf r i))) (hr : ∀ i, i < nn → ltf r i ≤ 12) (kb : ai_hv t0 383 38 = some (.inl (wsm O od q nn))) (hq : ∀ i, i < nn → ltf q i ≤ 12) (kq : ∀ i, i < nn → ai_hv t0 408 i = some (.inl (ltf q i))) (hQ : ∀ cl y, lsr y (lxc r q nn) → en_ld cl 0 = some (gx_r 383) → en_ld cl 1 = some (.inl nn) → en_ld cl 2 = some (.inl at0) → en_ld cl 3 = some (.inl (wsm O od r nn)) → en_ld cl 4 = some (.inl y) → en_ex none fn (en_code 219) (fun _ => false) (157, cl, [], t0, n, 0) Q) : ∀ j k cl y, k + j = nn → lsr y (lxc r q k) → en_ld cl 0 = some (gx_r 383) → en_ld cl 1 = some (.inl nn) → en_ld cl 2 = some (.inl at0) → en_ld cl 3 = some (.inl (wsm O od r k)) → en_ld cl 4 = some (.inl y) → en_ld cl 5 = some (.inl k) → en_ex none fn (en_code 219) (fun _ => false) (84, cl, [], t0, n, 0) Q := by
  intro j
  induction j with
  | zero =>
    intro k cl y hj hy h0 h1 h2 h3 h4 h5
    have hk : k = nn := by omega
    rw [hk] at h3 hy
    refine gx_ld (i := 5) (d := 0) (v := .inl k) rfl (fun _ => rfl) h5 rfl rfl ?_
    refine gx_ld (i := 1) (d := 0) (v := .inl nn) rfl (fun _ => rfl) h1 rfl rfl ?_
    refine gx_2t (c := .ge) rfl (by first | decide | omega) (by first | decide | omega) (show nn ≤ k from by omega) rfl ?_
    exact hQ _ y hy h0 h1 h2 h3 h4
  | succ j ih =>
    intro k cl y hj hy h0 h1 h2 h3 h4 h5
    have hws := wsm_le (O := O) (od := od) (r := r) k (fun i hi => hr i (by first | decide | omega)) (fun i hi => hO _ (hod i (by first | decide | omega)))
    have hwq := wsm_le (O := O) (od := od) (r := q) nn hq (fun i hi => hO _ (hod i hi))
    refine gx_ld (i := 5) (d := 0) (v := .inl k) rfl (fun _ => rfl) h5 rfl rfl ?_
    refine gx_ld (i := 1) (d := 0) (v := .inl nn) rfl (fun _ => rfl) h1 rfl rfl ?_
    refine gx_2f (c := .ge) rfl (by first | decide | omega) (by first | decide | omega) (show ¬ (nn ≤ k) from by omega) rfl ?_
    refine gx_ld (i := 3) (d := 0) (v := .inl (wsm O od r k)) rfl (fun _ => rfl) h3 rfl rfl ?_
    refine gx_ld (i := 0) (d := 2) (v := gx_r 383) rfl (fun _ => rfl) h0 rfl rfl ?_
    refine gx_ref (c := 410) rfl g0 rfl rfl rfl rfl ?_
    refine gx_ld (i := 5) (d := 0) (v := .inl k) rfl (fun _ => rfl) h5 rfl rfl ?_
    have hr9 := hr k (by first | decide | omega)
    refine gx_ag (v := .inl (ltf r k)) (cb := fun c => Nat.beq c 0) rfl (fun _ => rfl) g0 rfl rfl (kr k (by first | decide | omega)) (by first | decide | omega) rfl ?_
    refine gx_ld (i := 0) (d := 2) (v := gx_r 383) rfl (fun _ => rfl) h0 rfl rfl ?_
    refine gx_ref (c := 389) rfl g0 rfl rfl rfl rfl ?_
    refine ex_go (S := (105, cl, [.inl 134, gx_r 389, .inl (ltf r k), .inl (wsm O od r k)], t0, n, 0)) rfl (fun _ => rfl) rfl ?_
    refine gx_ld (i := 0) (d := 2) (v := gx_r 383) rfl (fun _ => rfl) h0 rfl rfl ?_
    refine gx_ref (c := 409) rfl g0 rfl rfl rfl rfl ?_
    refine gx_ld (i := 5) (d := 0) (v := .inl k) rfl (fun _ => rfl) h5 rfl rfl ?_
    have ho9 := hod k (by first | decide | omega)
    refine gx_ag (v := .inl (ltf od k)) (cb := fun c => Nat.beq c 0) rfl (fun _ => rfl) g0 rfl rfl (ko k (by first | decide | omega)) (by first | decide | omega) rfl ?_
    refine ex_iadd rfl (by first | decide | omega) rfl ?_
    have hO9 := hO (ltf od k) (by first | decide | omega)
    refine gx_ag (v := .inl (O (ltf od k))) (cb := fun c => Nat.beq c 0) rfl (fun _ => rfl) g0 rfl rfl (kO (ltf od k) (by first | decide | omega)) (by first | decide | omega) rfl ?_
    have hm9 : ltf r k * O (ltf od k) ≤ 12 * 99 := Nat.mul_le_mul hr9 hO9
    refine gx_imul rfl (by first | decide | omega) rfl ?_
    refine ex_iadd rfl (by first | decide | omega) rfl ?_
    refine gx_sto (i := 3) (d := 0) rfl (fun _ => rfl) rfl rfl (fun l1 hl1 ml1 => ?_)
    have l1_0 : en_ld l1 0 = some (gx_r 383) := ml1 0 _ h0 rfl
    have l1_1 : en_ld l1 1 = some (.inl nn) := ml1 1 _ h1 rfl
    have l1_2 : en_ld l1 2 = some (.inl at0) := ml1 2 _ h2 rfl
    have l1_4 : en_ld l1 4 = some (.inl y) := ml1 4 _ h4 rfl
    have l1_5 : en_ld l1 5 = some (.inl k) := ml1 5 _ h5 rfl
    refine gx_ld (i := 4) (d := 0) (v := .inl y) rfl (fun _ => rfl) l1_4 rfl rfl ?_
    rcases hy with ⟨hy1, hy2⟩ | ⟨hy1, hy2, hy3⟩ | ⟨hy1, hy2, hy3⟩
    · rw [hy2]
      have hq2 : en_ld l1 4 = some (.inl 0) := by rw [← hy2]; exact l1_4
      refine ex_go (S := (122, l1, [], t0, n, 0)) rfl (fun _ => rfl) rfl ?_
      refine gx_ld (i := 0) (d := 2) (v := gx_r 383) rfl (fun _ => rfl) l1_0 rfl rfl ?_
      refine gx_get rfl g0 rfl kb rfl ?_
      refine gx_1f (c := .lt) rfl (by first | decide | omega) (show ¬ (wsm O od q nn < 0) from by omega) rfl ?_
      refine gx_ld (i := 0) (d := 2) (v := gx_r 383) rfl (fun _ => rfl) l1_0 rfl rfl ?_
      refine gx_ref (c := 410) rfl g0 rfl rfl rfl rfl ?_
      refine gx_ld (i := 5) (d := 0) (v := .inl k) rfl (fun _ => rfl) l1_5 rfl rfl ?_
      refine gx_ag (v := .inl (ltf r k)) (cb := fun c => Nat.beq c 0) rfl (fun _ => rfl) g0 rfl rfl (kr k (by first | decide | omega)) (by first | decide | omega) rfl ?_
      refine gx_ld (i := 0) (d := 2) (v := gx_r 383) rfl (fun _ => rfl) l1_0 rfl rfl ?_
      refine gx_ref (c := 408) rfl g0 rfl rfl rfl rfl ?_
      refine gx_ld (i := 5) (d := 0) (v := .inl k) rfl (fun _ => rfl) l1_5 rfl rfl ?_
      have hq9 := hq k (by first | decide | omega)
      refine gx_ag (v := .inl (ltf q k)) (cb := fun c => Nat.beq c 0) rfl (fun _ => rfl) g0 rfl rfl (kq k (by first | decide | omega)) (by first | decide | omega) rfl ?_
      rcases Nat.lt_trichotomy (ltf r k) (ltf q k) with hlt | hlt | hlt
      · refine gx_isubn rfl (by first | decide | omega) (by first | decide | omega) rfl (fun z3 z3a z3b z3c => ?_)
        refine ex_go (S := (149, l1, [.inl z3], t0, n, 0)) rfl (fun _ => rfl) rfl ?_
        refine gx_sto (i := 4) (d := 0) rfl (fun _ => rfl) rfl rfl (fun l4 hl4 ml4 => ?_)
        have l4_0 : en_ld l4 0 = some (gx_r 383) := ml4 0 _ l1_0 rfl
        have l4_1 : en_ld l4 1 = some (.inl nn) := ml4 1 _ l1_1 rfl
        have l4_2 : en_ld l4 2 = some (.inl at0) := ml4 2 _ l1_2 rfl
        have l4_5 : en_ld l4 5 = some (.inl k) := ml4 5 _ l1_5 rfl
        have l4_3 : en_ld l4 3 = some (.inl ((wsm O od r k) + ((ltf r k) * (O (ltf od k))))) := ml4 3 _ hl1 rfl
        refine gx_incS (i := 5) (a := k) (x := 1) rfl (fun _ => rfl) l4_5 (by first | decide | omega) rfl (fun l5 hl5 ml5 => ?_)
        have l5_0 : en_ld l5 0 = some (gx_r 383) := ml5 0 _ l4_0 rfl
        have l5_1 : en_ld l5 1 = some (.inl nn) := ml5 1 _ l4_1 rfl
        have l5_2 : en_ld l5 2 = some (.inl at0) := ml5 2 _ l4_2 rfl
        have l5_3 : en_ld l5 3 = some (.inl ((wsm O od r k) + ((ltf r k) * (O (ltf od k))))) := ml5 3 _ l4_3 rfl
        have l5_4 : en_ld l5 4 = some (.inl z3) := ml5 4 _ hl4 rfl
        refine ex_go (S := (84, l5, [], t0, n, 0)) rfl (fun _ => rfl) rfl ?_
        exact ih (k + 1) _ _ (by first | decide | omega) (lsr_1 (lxc_l hy1 hlt) (by first | decide | omega) (by first | decide | omega)) l5_0 l5_1 l5_2 l5_3 l5_4 hl5
      · refine gx_isub rfl (by first | decide | omega) (by first | decide | omega) rfl ?_
        refine ex_go (S := (149, l1, [.inl ((ltf r k) - (ltf q k))], t0, n, 0)) rfl (fun _ => rfl) rfl ?_
        refine gx_sto (i := 4) (d := 0) rfl (fun _ => rfl) rfl rfl (fun l6 hl6 ml6 => ?_)
        have l6_0 : en_ld l6 0 = some (gx_r 383) := ml6 0 _ l1_0 rfl
        have l6_1 : en_ld l6 1 = some (.inl nn) := ml6 1 _ l1_1 rfl
        have l6_2 : en_ld l6 2 = some (.inl at0) := ml6 2 _ l1_2 rfl
        have l6_5 : en_ld l6 5 = some (.inl k) := ml6 5 _ l1_5 rfl
        have l6_3 : en_ld l6 3 = some (.inl ((wsm O od r k) + ((ltf r k) * (O (ltf od k))))) := ml6 3 _ hl1 rfl
        refine gx_incS (i := 5) (a := k) (x := 1) rfl (fun _ => rfl) l6_5 (by first | decide | omega) rfl (fun l7 hl7 ml7 => ?_)
        have l7_0 : en_ld l7 0 = some (gx_r 383) := ml7 0 _ l6_0 rfl
        have l7_1 : en_ld l7 1 = some (.inl nn) := ml7 1 _ l6_1 rfl
        have l7_2 : en_ld l7 2 = some (.inl at0) := ml7 2 _ l6_2 rfl
        have l7_3 : en_ld l7 3 = some (.inl ((wsm O od r k) + ((ltf r k) * (O (ltf od k))))) := ml7 3 _ l6_3 rfl
        have l7_4 : en_ld l7 4 = some (.inl ((ltf r k) - (ltf q k))) := ml7 4 _ hl6 rfl
        refine ex_go (S := (84, l7, [], t0, n, 0)) rfl (fun _ => rfl) rfl ?_
        exact ih (k + 1) _ _ (by first | decide | omega) (lsr_0 (lxc_e hy1 hlt) (by first | decide | omega)) l7_0 l7_1 l7_2 l7_3 l7_4 hl7
      · refine gx_isub rfl (by first | decide | omega) (by first | decide | omega) rfl ?_
        refine ex_go (S := (149, l1, [.inl ((ltf r k) - (ltf q k))], t0, n, 0)) rfl (fun _ => rfl) rfl ?_
        refine gx_sto (i := 4) (d := 0) rfl (fun _ => rfl) rfl rfl (fun l8 hl8 ml8 => ?_)
        have l8_0 : en_ld l8 0 = some (gx_r 383) := ml8 0 _ l1_0 rfl
        have l8_1 : en_ld l8 1 = some (.inl nn) := ml8 1 _ l1_1 rfl
        have l8_2 : en_ld l8 2 = some (.inl at0) := ml8 2 _ l1_2 rfl
        have l8_5 : en_ld l8 5 = some (.inl k) := ml8 5 _ l1_5 rfl
        have l8_3 : en_ld l8 3 = some (.inl ((wsm O od r k) + ((ltf r k) * (O (ltf od k))))) := ml8 3 _ hl1 rfl
        refine gx_incS (i := 5) (a := k) (x := 1) rfl (fun _ => rfl) l8_5 (by first | decide | omega) rfl (fun l9 hl9 ml9 => ?_)
        have l9_0 : en_ld l9 0 = some (gx_r 383) := ml9 0 _ l8_0 rfl
        have l9_1 : en_ld l9 1 = some (.inl nn) := ml9 1 _ l8_1 rfl
        have l9_2 : en_ld l9 2 = some (.inl at0) := ml9 2 _ l8_2 rfl
        have l9_3 : en_ld l9 3 = some (.inl ((wsm O od r k) + ((ltf r k) * (O (ltf od k))))) := ml9 3 _ l8_3 rfl
        have l9_4 : en_ld l9 4 = some (.inl ((ltf r k) - (ltf q k))) := ml9 4 _ hl8 rfl
        refine ex_go (S := (84, l9, [], t0, n, 0)) rfl (fun _ => rfl) rfl ?_
        exact ih (k + 1) _ _ (by first | decide | omega) (lsr_2 (lxc_g hy1 hlt) (by first | decide | omega) (by first | decide | omega)) l9_0 l9_1 l9_2 l9_3 l9_4 hl9
    · refine gx_negt (c := .ne) rfl (by first | decide | omega) (by first | decide | omega) rfl rfl ?_
      refine gx_ld (i := 4) (d := 0) (v := .inl y) rfl (fun _ => rfl) l1_4 rfl rfl ?_
      refine gx_sto (i := 4) (d := 0) rfl (fun _ => rfl) rfl rfl (fun l10 hl10 ml10 => ?_)
      have l10_0 : en_ld l10 0 = some (gx_r 383) := ml10 0 _ l1_0 rfl
      have l10_1 : en_ld l10 1 = some (.inl nn) := ml10 1 _ l1_1 rfl
      have l10_2 : en_ld l10 2 = some (.inl at0) := ml10 2 _ l1_2 rfl
      have l10_5 : en_ld l10 5 = some (.inl k) := ml10 5 _ l1_5 rfl
      have l10_3 : en_ld l10 3 = some (.inl ((wsm O od r k) + ((ltf r k) * (O (ltf od k))))) := ml10 3 _ hl1 rfl
      refine gx_incS (i := 5) (a := k) (x := 1) rfl (fun _ => rfl) l10_5 (by first | decide | omega) rfl (fun l11 hl11 ml11 => ?_)
      have l11_0 : en_ld l11 0 = some (gx_r 383) := ml11 0 _ l10_0 rfl
      have l11_1 : en_ld l11 1 = some (.inl nn) := ml11 1 _ l10_1 rfl
      have l11_2 : en_ld l11 2 = some (.inl at0) := ml11 2 _ l10_2 rfl
      have l11_3 : en_ld l11 3 = some (.inl ((wsm O od r k) + ((ltf r k) * (O (ltf od k))))) := ml11 3 _ l10_3 rfl
      have l11_4 : en_ld l11 4 = some (.inl y) := ml11 4 _ hl10 rfl
      refine ex_go (S := (84, l11, [], t0, n, 0)) rfl (fun _ => rfl) rfl ?_
      exact ih (k + 1) _ _ (by first | decide | omega) (lsr_1 ((lxc_st (by first | decide | omega)).trans hy1) (by first | decide | omega) (by first | decide | omega)) l11_0 l11_1 l11_2 l11_3 l11_4 hl11
    · refine gx_1t (c := .ne) rfl (by first | decide | omega) (show y ≠ 0 from by omega) rfl ?_
      refine gx_ld (i := 4) (d := 0) (v := .inl y) rfl (fun _ => rfl) l1_4 rfl rfl ?_
      refine gx_sto (i := 4) (d := 0) rfl (fun _ => rfl) rfl rfl (fun l12 hl12 ml12 => ?_)
      have l12_0 : en_ld l12 0 = some (gx_r 383) := ml12 0 _ l1_0 rfl
      have l12_1 : en_ld l12 1 = some (.inl nn) := ml12 1 _ l1_1 rfl
      have l12_2 : en_ld l12 2 = some (.inl at0) := ml12 2 _ l1_2 rfl
      have l12_5 : en_ld l12 5 = some (.inl k) := ml12 5 _ l1_5 rfl
      have l12_3 : en_ld l12 3 = some (.inl ((wsm O od r k) + ((ltf r k) * (O (ltf od k))))) := ml12 3 _ hl1 rfl
      refine gx_incS (i := 5) (a := k) (x := 1) rfl (fun _ => rfl) l12_5 (by first | decide | omega) rfl (fun l13 hl13 ml13 => ?_)
      have l13_0 : en_ld l13 0 = some (gx_r 383) := ml13 0 _ l12_0 rfl
      have l13_1 : en_ld l13 1 = some (.inl nn) := ml13 1 _ l12_1 rfl
      have l13_2 : en_ld l13 2 = some (.inl at0) := ml13 2 _ l12_2 rfl
      have l13_3 : en_ld l13 3 = some (.inl ((wsm O od r k) + ((ltf r k) * (O (ltf od k))))) := ml13 3 _ l12_3 rfl
      have l13_4 : en_ld l13 4 = some (.inl y) := ml13 4 _ hl12 rfl
      refine ex_go (S := (84, l13, [], t0, n, 0)) rfl (fun _ => rfl) rfl ?_
      exact ih (k + 1) _ _ (by first | decide | omega) (lsr_2 ((lxc_st (by first | decide | omega)).trans hy1) (by first | decide | omega) (by first | decide | omega)) l13_0 l13_1 l13_2 l13_3 l13_4 hl13
theorem pe_lk_c {fn : en_F} {n : Nat} {tb : en_H} {nn : Nat} {r : List Nat} {Q : en_O → Prop} (hn : nn ≤ 6) (kr : ∀ i, i < nn → ai_hv tb 410 i = some (.inl (ltf r i))) (hr : ∀ i, i < nn → ltf r i ≤ 12) (hQ : ∀ t1, ai_HG ah_G t1 → (∀ c i, c ≠ 408 → ai_hv t1 c i = ai_hv tb c i) → (∀ i, i < nn → ai_hv t1 408 i = some (.inl (ltf r i))) → Q (.inl (none, t1, n, 0))) : ∀ j k cl t0, k + j = nn → ai_HG ah_G t0 → (∀ c i, c ≠ 408 → ai_hv t0 c i = ai_hv tb c i) → (∀ i, i < k → ai_hv t0 408 i = some (.inl (ltf r i))) → en_ld cl 0 = some (gx_r 383) → en_ld cl 1 = some (.inl nn) → en_ld cl 5 = some (.inl k) → en_ex none fn (en_code 219) (fun _ => false) (193, cl, [], t0, n, 0) Q := by
  intro j
  induction j with
  | zero =>
    intro k cl t0 hj g0 e0 hc h0 h1 h5
    have hk : k = nn := by omega
    rw [hk] at hc
    refine gx_ld (i := 5) (d := 0) (v := .inl k) rfl (fun _ => rfl) h5 rfl rfl ?_
    refine gx_ld (i := 1) (d := 0) (v := .inl nn) rfl (fun _ => rfl) h1 rfl rfl ?_
    refine gx_2t (c := .ge) rfl (by first | decide | omega) (by first | decide | omega) (show nn ≤ k from by omega) rfl ?_
    refine ex_ret (r := (none, t0, n, 0)) rfl (fun _ => rfl) ?_
    exact hQ t0 g0 e0 hc
  | succ j ih =>
    intro k cl t0 hj g0 e0 hc h0 h1 h5
    refine gx_ld (i := 5) (d := 0) (v := .inl k) rfl (fun _ => rfl) h5 rfl rfl ?_
    refine gx_ld (i := 1) (d := 0) (v := .inl nn) rfl (fun _ => rfl) h1 rfl rfl ?_
    refine gx_2f (c := .ge) rfl (by first | decide | omega) (by first | decide | omega) (show ¬ (nn ≤ k) from by omega) rfl ?_
    refine gx_ld (i := 0) (d := 2) (v := gx_r 383) rfl (fun _ => rfl) h0 rfl rfl ?_
    refine gx_ref (c := 408) rfl g0 rfl rfl rfl rfl ?_
    refine gx_ld (i := 5) (d := 0) (v := .inl k) rfl (fun _ => rfl) h5 rfl rfl ?_
    refine gx_ld (i := 0) (d := 2) (v := gx_r 383) rfl (fun _ => rfl) h0 rfl rfl ?_
    refine gx_ref (c := 410) rfl g0 rfl rfl rfl rfl ?_
    refine gx_ld (i := 5) (d := 0) (v := .inl k) rfl (fun _ => rfl) h5 rfl rfl ?_
    have hr9 := hr k (by first | decide | omega)
    refine gx_ag (v := .inl (ltf r k)) (cb := fun c => Nat.beq c 0) rfl (fun _ => rfl) g0 rfl rfl ((e0 410 k (by first | decide | omega)).trans (kr k (by first | decide | omega))) (by first | decide | omega) rfl ?_
    refine gx_ap rfl (fun _ => rfl) g0 rfl rfl rfl (show k < 6 from by omega) (gx_run1 (show k < 6 from by omega)) (gx_full (by first | decide | omega)) rfl (fun t101 g101 k101 e101 => ?_)
    have k2 : ai_hv t101 410 k = some (.inl (ltf r k)) := (e101 410 k (by first | decide | omega)).trans ((e0 410 k (by first | decide | omega)).trans (kr k (by first | decide | omega)))
    refine gx_incS (i := 5) (a := k) (x := 1) rfl (fun _ => rfl) h5 (by first | decide | omega) rfl (fun l3 hl3 ml3 => ?_)
    have l3_0 : en_ld l3 0 = some (gx_r 383) := ml3 0 _ h0 rfl
    have l3_1 : en_ld l3 1 = some (.inl nn) := ml3 1 _ h1 rfl
    refine ex_go (S := (193, l3, [], t101, n, 0)) rfl (fun _ => rfl) rfl ?_
    exact ih (k + 1) _ t101 (by first | decide | omega) g101 (fun c i h => (e101 c i (by first | decide | omega)).trans (e0 c i (by first | decide | omega))) (fun i hi => by
      by_cases e9 : i = k
      · rw [e9]; exact k101
      · exact (e101 408 i (by first | decide | omega)).trans (hc i (by first | decide | omega))) l3_0 l3_1 hl3
theorem pe_looksAt (d n : Nat) {t0 : en_H} {nn at0 : Nat} {l od : List Nat} {O : Nat → Nat} {b : Option (List Nat)} (g0 : ai_HG ah_G t0) (hn : nn ≤ 6) (kO : ∀ i, i < nn → ai_hv t0 389 (134 + i) = some (.inl (O i))) (hO : ∀ i, i < nn → O i ≤ 99) (ko : ∀ i, i < nn → ai_hv t0 409 i = some (.inl (ltf od i))) (hod : ∀ i, i < nn → ltf od i < nn) (ha : at0 ≤ 30) (kg : ∀ i, i < nn → ai_hv t0 407 (at0 + i) = some (.inl (ltf l i))) (hl : ∀ i, i < nn → ltf l i ≤ 12) (hB : RBs t0 O od nn b) : ∃ r, en_u (d + 1) 219 [gx_r 383, .inl nn, .inl at0] t0 n = some r ∧ ∃ t', r = (none, t', n, 0) ∧ ai_HG ah_G t' ∧ (∀ c i, ¬ (c = 410 ∨ c = 408 ∨ (c = 383 ∧ i = 38)) → ai_hv t' c i = ai_hv t0 c i) ∧ RBs t' O od nn (upb O od nn b (srt l nn)) := by
  refine en_u_ex rfl ?_
  show en_ex _ _ _ _ (0, [(0, gx_r 383), (1, .inl nn), (2, .inl at0)], [], t0, n, 0) _
  refine ex_go (S := (1, [(0, gx_r 383), (1, .inl nn), (2, .inl at0)], [.inl 0], t0, n, 0)) rfl (fun _ => rfl) rfl ?_
  refine ex_go (S := (2, [(3, .inl 0), (0, gx_r 383), (1, .inl nn), (2, .inl at0)], [], t0, n, 0)) rfl (fun _ => rfl) rfl ?_
  refine pe_lk_a (tb := t0) (l := l) hn ha kg hl (fun cl t1 g1 e1 hc h0 h1 h2 => ?_) nn 0 _ t0 (by first | decide | omega) g0 (fun _ _ _ => rfl) (fun i h => absurd h (Nat.not_lt_zero i)) rfl rfl rfl rfl
  have hr : ∀ i, i < nn → ltf (srt l nn) i ≤ 12 := fun i hi => srt_le nn hl i hi
  have hsl := srt_len (l := l) nn
  generalize srt l nn = r at hc hr hsl
  have kO1 := fun i (hi : i < nn) => (e1 389 (134 + i) (by first | decide | omega)).trans (kO i hi)
  have ko1 := fun i (hi : i < nn) => (e1 409 i (by first | decide | omega)).trans (ko i hi)
  have hws := wsm_le (O := O) (od := od) (r := r) nn hr (fun i hi => hO _ (hod i hi))
  refine ex_go (S := (77, cl, [.inl 0], t1, n, 0)) rfl (fun _ => rfl) rfl ?_
  refine gx_sto (i := 3) (d := 0) rfl (fun _ => rfl) rfl rfl (fun l1 hl1 ml1 => ?_)
  have l1_0 : en_ld l1 0 = some (gx_r 383) := ml1 0 _ h0 rfl
  have l1_1 : en_ld l1 1 = some (.inl nn) := ml1 1 _ h1 rfl
  have l1_2 : en_ld l1 2 = some (.inl at0) := ml1 2 _ h2 rfl
  refine ex_go (S := (79, l1, [.inl 0], t1, n, 0)) rfl (fun _ => rfl) rfl ?_
  refine gx_sto (i := 4) (d := 0) rfl (fun _ => rfl) rfl rfl (fun l2 hl2 ml2 => ?_)
  have l2_0 : en_ld l2 0 = some (gx_r 383) := ml2 0 _ l1_0 rfl
  have l2_1 : en_ld l2 1 = some (.inl nn) := ml2 1 _ l1_1 rfl
  have l2_2 : en_ld l2 2 = some (.inl at0) := ml2 2 _ l1_2 rfl
  have l2_3 : en_ld l2 3 = some (.inl 0) := ml2 3 _ hl1 rfl
  refine ex_go (S := (82, l2, [.inl 0], t1, n, 0)) rfl (fun _ => rfl) rfl ?_
  refine gx_sto (i := 5) (d := 0) rfl (fun _ => rfl) rfl rfl (fun l3 hl3 ml3 => ?_)
  have l3_0 : en_ld l3 0 = some (gx_r 383) := ml3 0 _ l2_0 rfl
  have l3_1 : en_ld l3 1 = some (.inl nn) := ml3 1 _ l2_1 rfl
  have l3_2 : en_ld l3 2 = some (.inl at0) := ml3 2 _ l2_2 rfl
  have l3_3 : en_ld l3 3 = some (.inl 0) := ml3 3 _ l2_3 rfl
  have l3_4 : en_ld l3 4 = some (.inl 0) := ml3 4 _ hl2 rfl
  cases b with
    | none =>
      have kb1 : ai_hv t1 383 38 = some (.inl 4294967295) := (e1 383 38 (by first | decide | omega)).trans hB
      refine pe_lk_b0 (r := r) (od := od) (q := r) g1 hn kO1 hO ko1 hod hc hr kb1 (fun cl2 m0 m1 m2 m3 m4 => ?_) nn 0 _ (by first | decide | omega) l3_0 l3_1 l3_2 l3_3 l3_4 hl3
      refine gx_ld (i := 0) (d := 2) (v := gx_r 383) rfl (fun _ => rfl) m0 rfl rfl ?_
      refine gx_get rfl g1 rfl kb1 rfl ?_
      refine ex_go (S := (185, cl2, [], t1, n, 0)) rfl (fun _ => rfl) rfl ?_
      refine gx_ld (i := 0) (d := 2) (v := gx_r 383) rfl (fun _ => rfl) m0 rfl rfl ?_
      refine gx_ld (i := 3) (d := 0) (v := .inl (wsm O od r nn)) rfl (fun _ => rfl) m3 rfl rfl ?_
      refine gx_put rfl g1 rfl rfl (gx_full (by first | decide | omega)) rfl (fun t104 g104 k104 e104 => ?_)
      refine ex_go (S := (191, cl2, [.inl 0], t104, n, 0)) rfl (fun _ => rfl) rfl ?_
      refine gx_sto (i := 5) (d := 0) rfl (fun _ => rfl) rfl rfl (fun l5 hl5 ml5 => ?_)
      have l5_0 : en_ld l5 0 = some (gx_r 383) := ml5 0 _ m0 rfl
      have l5_1 : en_ld l5 1 = some (.inl nn) := ml5 1 _ m1 rfl
      have l5_2 : en_ld l5 2 = some (.inl at0) := ml5 2 _ m2 rfl
      have l5_3 : en_ld l5 3 = some (.inl (wsm O od r nn)) := ml5 3 _ m3 rfl
      have l5_4 : en_ld l5 4 = some (.inl 0) := ml5 4 _ m4 rfl
      have hu9 : upb O od nn none r = some r := rfl
      rw [hu9]
      exact pe_lk_c (tb := t104) (r := r) hn (fun i hi => (e104 410 i (by first | decide | omega)).trans (hc i hi)) hr (fun t9 g9 e9 hc9 => ⟨_, rfl, t9, rfl, g9, (fun c i h => (e9 c i (by first | decide | omega)).trans ((e104 c i (by first | decide | omega)).trans (e1 c i (by first | decide | omega)))), hsl, hr, (e9 383 38 (by first | decide | omega)).trans k104, hc9⟩) nn 0 _ t104 (by first | decide | omega) g104 (fun _ _ _ => rfl) (fun i h => absurd h (Nat.not_lt_zero i)) l5_0 l5_1 hl5
    | some q =>
      obtain ⟨hq0, hq1, hq2, hq3⟩ := hB
      have kb1 := (e1 383 38 (by first | decide | omega)).trans hq2
      have hwq := wsm_le (O := O) (od := od) (r := q) nn hq1 (fun i hi => hO _ (hod i hi))
      refine pe_lk_b1 (r := r) (od := od) (q := q) g1 hn kO1 hO ko1 hod hc hr kb1 hq1 (fun i hi => (e1 408 i (by first | decide | omega)).trans (hq3 i hi)) (fun cl2 y hy m0 m1 m2 m3 m4 => ?_) nn 0 _ 0 (by first | decide | omega) (lsr_0 rfl rfl) l3_0 l3_1 l3_2 l3_3 l3_4 hl3
      refine gx_ld (i := 0) (d := 2) (v := gx_r 383) rfl (fun _ => rfl) m0 rfl rfl ?_
      refine gx_get rfl g1 rfl kb1 rfl ?_
      refine gx_1f (c := .lt) rfl (by first | decide | omega) (show ¬ (wsm O od q nn < 0) from by omega) rfl ?_
      refine gx_ld (i := 3) (d := 0) (v := .inl (wsm O od r nn)) rfl (fun _ => rfl) m3 rfl rfl ?_
      refine gx_ld (i := 0) (d := 2) (v := gx_r 383) rfl (fun _ => rfl) m0 rfl rfl ?_
      refine gx_get rfl g1 rfl kb1 rfl ?_
      by_cases hc6 : wsm O od r nn < wsm O od q nn
      · refine gx_2t (c := .lt) rfl (by first | decide | omega) (by first | decide | omega) hc6 rfl ?_
        refine gx_ld (i := 0) (d := 2) (v := gx_r 383) rfl (fun _ => rfl) m0 rfl rfl ?_
        refine gx_ld (i := 3) (d := 0) (v := .inl (wsm O od r nn)) rfl (fun _ => rfl) m3 rfl rfl ?_
        refine gx_put rfl g1 rfl rfl (gx_full (by first | decide | omega)) rfl (fun t107 g107 k107 e107 => ?_)
        refine ex_go (S := (191, cl2, [.inl 0], t107, n, 0)) rfl (fun _ => rfl) rfl ?_
        refine gx_sto (i := 5) (d := 0) rfl (fun _ => rfl) rfl rfl (fun l8 hl8 ml8 => ?_)
        have l8_0 : en_ld l8 0 = some (gx_r 383) := ml8 0 _ m0 rfl
        have l8_1 : en_ld l8 1 = some (.inl nn) := ml8 1 _ m1 rfl
        have l8_2 : en_ld l8 2 = some (.inl at0) := ml8 2 _ m2 rfl
        have l8_3 : en_ld l8 3 = some (.inl (wsm O od r nn)) := ml8 3 _ m3 rfl
        have l8_4 : en_ld l8 4 = some (.inl y) := ml8 4 _ m4 rfl
        have hu9 : upb O od nn (some q) r = some r := upb_t (O := O) (od := od) (n := nn) (r := r) (q := q) (Or.inl (by first | decide | omega))
        rw [hu9]
        exact pe_lk_c (tb := t107) (r := r) hn (fun i hi => (e107 410 i (by first | decide | omega)).trans (hc i hi)) hr (fun t9 g9 e9 hc9 => ⟨_, rfl, t9, rfl, g9, (fun c i h => (e9 c i (by first | decide | omega)).trans ((e107 c i (by first | decide | omega)).trans (e1 c i (by first | decide | omega)))), hsl, hr, (e9 383 38 (by first | decide | omega)).trans k107, hc9⟩) nn 0 _ t107 (by first | decide | omega) g107 (fun _ _ _ => rfl) (fun i h => absurd h (Nat.not_lt_zero i)) l8_0 l8_1 hl8
      · refine gx_2f (c := .lt) rfl (by first | decide | omega) (by first | decide | omega) hc6 rfl ?_
        refine gx_ld (i := 3) (d := 0) (v := .inl (wsm O od r nn)) rfl (fun _ => rfl) m3 rfl rfl ?_
        refine gx_ld (i := 0) (d := 2) (v := gx_r 383) rfl (fun _ => rfl) m0 rfl rfl ?_
        refine gx_get rfl g1 rfl kb1 rfl ?_
        by_cases hc9 : wsm O od r nn ≠ wsm O od q nn
        · refine gx_2t (c := .ne) rfl (by first | decide | omega) (by first | decide | omega) hc9 rfl ?_
          refine ex_ret (r := (none, t1, n, 0)) rfl (fun _ => rfl) ?_
          have hu9 : upb O od nn (some q) r = some q := upb_f (O := O) (od := od) (n := nn) (r := r) (q := q) (fun z => by rcases z with z | ⟨z, z1⟩ <;> omega)
          rw [hu9]
          exact ⟨_, rfl, t1, rfl, g1, (fun c i h => e1 c i (by first | decide | omega)), hq0, hq1, kb1, fun i hi => (e1 408 i (by first | decide | omega)).trans (hq3 i hi)⟩
        · refine gx_2f (c := .ne) rfl (by first | decide | omega) (by first | decide | omega) hc9 rfl ?_
          refine gx_ld (i := 4) (d := 0) (v := .inl y) rfl (fun _ => rfl) m4 rfl rfl ?_
          rcases hy with ⟨hy1, hy2⟩ | ⟨hy1, hy2, hy3⟩ | ⟨hy1, hy2, hy3⟩
          · rw [hy2]
            refine ex_go (S := (219, cl2, [], t1, n, 0)) rfl (fun _ => rfl) rfl ?_
            refine ex_ret (r := (none, t1, n, 0)) rfl (fun _ => rfl) ?_
            have hu9 : upb O od nn (some q) r = some q := upb_f (O := O) (od := od) (n := nn) (r := r) (q := q) (fun z => by rcases z with z | ⟨z, z1⟩ <;> omega)
            rw [hu9]
            exact ⟨_, rfl, t1, rfl, g1, (fun c i h => e1 c i (by first | decide | omega)), hq0, hq1, kb1, fun i hi => (e1 408 i (by first | decide | omega)).trans (hq3 i hi)⟩
          · refine gx_negf (c := .ge) rfl (by first | decide | omega) (by first | decide | omega) rfl rfl ?_
            refine gx_ld (i := 0) (d := 2) (v := gx_r 383) rfl (fun _ => rfl) m0 rfl rfl ?_
            refine gx_ld (i := 3) (d := 0) (v := .inl (wsm O od r nn)) rfl (fun _ => rfl) m3 rfl rfl ?_
            refine gx_put rfl g1 rfl rfl (gx_full (by first | decide | omega)) rfl (fun t110 g110 k110 e110 => ?_)
            refine ex_go (S := (191, cl2, [.inl 0], t110, n, 0)) rfl (fun _ => rfl) rfl ?_
            refine gx_sto (i := 5) (d := 0) rfl (fun _ => rfl) rfl rfl (fun l11 hl11 ml11 => ?_)
            have l11_0 : en_ld l11 0 = some (gx_r 383) := ml11 0 _ m0 rfl
            have l11_1 : en_ld l11 1 = some (.inl nn) := ml11 1 _ m1 rfl
            have l11_2 : en_ld l11 2 = some (.inl at0) := ml11 2 _ m2 rfl
            have l11_3 : en_ld l11 3 = some (.inl (wsm O od r nn)) := ml11 3 _ m3 rfl
            have l11_4 : en_ld l11 4 = some (.inl y) := ml11 4 _ m4 rfl
            have hu9 : upb O od nn (some q) r = some r := upb_t (O := O) (od := od) (n := nn) (r := r) (q := q) (Or.inr ⟨by omega, hy1⟩)
            rw [hu9]
            exact pe_lk_c (tb := t110) (r := r) hn (fun i hi => (e110 410 i (by first | decide | omega)).trans (hc i hi)) hr (fun t9 g9 e9 hc9 => ⟨_, rfl, t9, rfl, g9, (fun c i h => (e9 c i (by first | decide | omega)).trans ((e110 c i (by first | decide | omega)).trans (e1 c i (by first | decide | omega)))), hsl, hr, (e9 383 38 (by first | decide | omega)).trans k110, hc9⟩) nn 0 _ t110 (by first | decide | omega) g110 (fun _ _ _ => rfl) (fun i h => absurd h (Nat.not_lt_zero i)) l11_0 l11_1 hl11
          · refine gx_1t (c := .ge) rfl (by first | decide | omega) (show 0 ≤ y from by omega) rfl ?_
            refine ex_ret (r := (none, t1, n, 0)) rfl (fun _ => rfl) ?_
            have hu9 : upb O od nn (some q) r = some q := upb_f (O := O) (od := od) (n := nn) (r := r) (q := q) (fun z => by rcases z with z | ⟨z, z1⟩ <;> omega)
            rw [hu9]
            exact ⟨_, rfl, t1, rfl, g1, (fun c i h => e1 c i (by first | decide | omega)), hq0, hq1, kb1, fun i hi => (e1 408 i (by first | decide | omega)).trans (hq3 i hi)⟩
theorem pe_gr_i {fn : en_F} {n : Nat} {tb : en_H} {many nn a0 k : Nat} {l : List Nat} {Q : en_O → Prop} (hm : many ≤ 5) (hk : k < many) (ha : a0 ≤ 24) (kg : ∀ q, q < many → ai_hv tb 407 (a0 + q) = some (.inl (ltf l q))) (hl : ∀ q, q < many → ltf l q ≤ 12) (hQ : ∀ cl t1, ai_HG ah_G t1 → (∀ c i, ¬ (c = 407 ∧ a0 + 6 ≤ i) → ai_hv t1 c i = ai_hv tb c i) → (∀ q, q < many → ai_hv t1 407 (a0 + 6 + q) = some (.inl (ltf l q + (if q = k then 1 else 0)))) → en_ld cl 0 = some (gx_r 383) → en_ld cl 1 = some (.inl many) → en_ld cl 2 = some (.inl nn) → en_ld cl 3 = some (.inl a0) → en_ld cl 4 = some (.inl k) → en_ex none fn (en_code 157) (fun _ => false) (77, cl, [], t1, n, 0) Q) : ∀ j i cl t0, i + j = many → ai_HG ah_G t0 → (∀ c i, ¬ (c = 407 ∧ a0 + 6 ≤ i) → ai_hv t0 c i = ai_hv tb c i) → (∀ q, q < i → ai_hv t0 407 (a0 + 6 + q) = some (.inl (ltf l q + (if q = k then 1 else 0)))) → en_ld cl 0 = some (gx_r 383) → en_ld cl 1 = some (.inl many) → en_ld cl 2 = some (.inl nn) → en_ld cl 3 = some (.inl a0) → en_ld cl 4 = some (.inl k) → en_ld cl 5 = some (.inl i) → en_ex none fn (en_code 157) (fun _ => false) (31, cl, [], t0, n, 0) Q := by
  intro j
  induction j with
  | zero =>
    intro i cl t0 hj g0 e0 hc h0 h1 h2 h3 h4 h5
    have hi : i = many := by omega
    rw [hi] at hc
    refine gx_ld (i := 5) (d := 0) (v := .inl i) rfl (fun _ => rfl) h5 rfl rfl ?_
    refine gx_ld (i := 1) (d := 0) (v := .inl many) rfl (fun _ => rfl) h1 rfl rfl ?_
    refine gx_2t (c := .ge) rfl (by first | decide | omega) (by first | decide | omega) (show many ≤ i from by omega) rfl ?_
    exact hQ _ t0 g0 e0 hc h0 h1 h2 h3 h4
  | succ j ih =>
    intro i cl t0 hj g0 e0 hc h0 h1 h2 h3 h4 h5
    have hli := hl i (by first | decide | omega)
    refine gx_ld (i := 5) (d := 0) (v := .inl i) rfl (fun _ => rfl) h5 rfl rfl ?_
    refine gx_ld (i := 1) (d := 0) (v := .inl many) rfl (fun _ => rfl) h1 rfl rfl ?_
    refine gx_2f (c := .ge) rfl (by first | decide | omega) (by first | decide | omega) (show ¬ (many ≤ i) from by omega) rfl ?_
    refine gx_ld (i := 0) (d := 2) (v := gx_r 383) rfl (fun _ => rfl) h0 rfl rfl ?_
    refine gx_ref (c := 407) rfl g0 rfl rfl rfl rfl ?_
    refine gx_ld (i := 3) (d := 0) (v := .inl a0) rfl (fun _ => rfl) h3 rfl rfl ?_
    refine ex_go (S := (44, cl, [.inl 6, .inl a0, gx_r 407], t0, n, 0)) rfl (fun _ => rfl) rfl ?_
    refine ex_iadd rfl (by first | decide | omega) rfl ?_
    refine gx_ld (i := 5) (d := 0) (v := .inl i) rfl (fun _ => rfl) h5 rfl rfl ?_
    refine ex_iadd rfl (by first | decide | omega) rfl ?_
    refine gx_ld (i := 0) (d := 2) (v := gx_r 383) rfl (fun _ => rfl) h0 rfl rfl ?_
    refine gx_ref (c := 407) rfl g0 rfl rfl rfl rfl ?_
    refine gx_ld (i := 3) (d := 0) (v := .inl a0) rfl (fun _ => rfl) h3 rfl rfl ?_
    refine gx_ld (i := 5) (d := 0) (v := .inl i) rfl (fun _ => rfl) h5 rfl rfl ?_
    refine ex_iadd rfl (by first | decide | omega) rfl ?_
    refine gx_ag (v := .inl (ltf l i)) (cb := fun c => Nat.beq c 0) rfl (fun _ => rfl) g0 rfl rfl ((e0 407 (a0 + i) (by first | decide | omega)).trans (kg i (by first | decide | omega))) (by first | decide | omega) rfl ?_
    refine gx_ld (i := 5) (d := 0) (v := .inl i) rfl (fun _ => rfl) h5 rfl rfl ?_
    refine gx_ld (i := 4) (d := 0) (v := .inl k) rfl (fun _ => rfl) h4 rfl rfl ?_
    by_cases hc1 : i ≠ k
    · refine gx_2t (c := .ne) rfl (by first | decide | omega) (by first | decide | omega) hc1 rfl ?_
      refine ex_go (S := (69, cl, [.inl 0, .inl (ltf l i), .inl ((a0 + 6) + i), gx_r 407], t0, n, 0)) rfl (fun _ => rfl) rfl ?_
      refine ex_iadd rfl (by first | decide | omega) rfl ?_
      refine gx_ap rfl (fun _ => rfl) g0 rfl rfl rfl (show (a0 + 6) + i < 42 from by omega) (gx_run1 (show (a0 + 6) + i < 42 from by omega)) (gx_full (by first | decide | omega)) rfl (fun t102 g102 k102 e102 => ?_)
      have k3 : ai_hv t102 407 (a0 + i) = some (.inl (ltf l i)) := (e102 407 (a0 + i) (by first | decide | omega)).trans ((e0 407 (a0 + i) (by first | decide | omega)).trans (kg i (by first | decide | omega)))
      refine gx_incS (i := 5) (a := i) (x := 1) rfl (fun _ => rfl) h5 (by first | decide | omega) rfl (fun l4 hl4 ml4 => ?_)
      have l4_0 : en_ld l4 0 = some (gx_r 383) := ml4 0 _ h0 rfl
      have l4_1 : en_ld l4 1 = some (.inl many) := ml4 1 _ h1 rfl
      have l4_2 : en_ld l4 2 = some (.inl nn) := ml4 2 _ h2 rfl
      have l4_3 : en_ld l4 3 = some (.inl a0) := ml4 3 _ h3 rfl
      have l4_4 : en_ld l4 4 = some (.inl k) := ml4 4 _ h4 rfl
      refine ex_go (S := (31, l4, [], t102, n, 0)) rfl (fun _ => rfl) rfl ?_
      exact ih (i + 1) _ t102 (by first | decide | omega) g102 (fun c q h => (e102 c q (by first | decide | omega)).trans (e0 c q (by first | decide | omega))) (fun q hq => by
        by_cases e9 : q = i
        · rw [e9, if_neg (by first | decide | omega)]; exact k102
        · exact (e102 407 (a0 + 6 + q) (by first | decide | omega)).trans (hc q (by first | decide | omega))) l4_0 l4_1 l4_2 l4_3 l4_4 hl4
    · refine gx_2f (c := .ne) rfl (by first | decide | omega) (by first | decide | omega) hc1 rfl ?_
      refine ex_go (S := (65, cl, [.inl 1, .inl (ltf l i), .inl ((a0 + 6) + i), gx_r 407], t0, n, 0)) rfl (fun _ => rfl) rfl ?_
      refine ex_go (S := (69, cl, [.inl 1, .inl (ltf l i), .inl ((a0 + 6) + i), gx_r 407], t0, n, 0)) rfl (fun _ => rfl) rfl ?_
      refine ex_iadd rfl (by first | decide | omega) rfl ?_
      refine gx_ap rfl (fun _ => rfl) g0 rfl rfl rfl (show (a0 + 6) + i < 42 from by omega) (gx_run1 (show (a0 + 6) + i < 42 from by omega)) (gx_full (by first | decide | omega)) rfl (fun t105 g105 k105 e105 => ?_)
      have k6 : ai_hv t105 407 (a0 + i) = some (.inl (ltf l i)) := (e105 407 (a0 + i) (by first | decide | omega)).trans ((e0 407 (a0 + i) (by first | decide | omega)).trans (kg i (by first | decide | omega)))
      refine gx_incS (i := 5) (a := i) (x := 1) rfl (fun _ => rfl) h5 (by first | decide | omega) rfl (fun l7 hl7 ml7 => ?_)
      have l7_0 : en_ld l7 0 = some (gx_r 383) := ml7 0 _ h0 rfl
      have l7_1 : en_ld l7 1 = some (.inl many) := ml7 1 _ h1 rfl
      have l7_2 : en_ld l7 2 = some (.inl nn) := ml7 2 _ h2 rfl
      have l7_3 : en_ld l7 3 = some (.inl a0) := ml7 3 _ h3 rfl
      have l7_4 : en_ld l7 4 = some (.inl k) := ml7 4 _ h4 rfl
      refine ex_go (S := (31, l7, [], t105, n, 0)) rfl (fun _ => rfl) rfl ?_
      exact ih (i + 1) _ t105 (by first | decide | omega) g105 (fun c q h => (e105 c q (by first | decide | omega)).trans (e0 c q (by first | decide | omega))) (fun q hq => by
        by_cases e9 : q = i
        · rw [e9, if_pos (by first | decide | omega)]; exact k105
        · exact (e105 407 (a0 + 6 + q) (by first | decide | omega)).trans (hc q (by first | decide | omega))) l7_0 l7_1 l7_2 l7_3 l7_4 hl7
/-- what grows of a row is looked at -/
noncomputable def GRp (fD : en_F) (n nn : Nat) (O : Nat → Nat) (od : List Nat) (many j : Nat) : Prop := ∀ (l : List Nat) (b : Option (List Nat)) (t : en_H), l.length = many → (∀ i, i < many → ltf l i ≤ 2 * many) → ai_HG ah_G t → (∀ i, i < nn → ai_hv t 389 (134 + i) = some (.inl (O i))) → (∀ i, i < nn → ai_hv t 409 i = some (.inl (ltf od i))) → (∀ i, i < many → ai_hv t 407 (6 * (many - 1) + i) = some (.inl (ltf l i))) → RBs t O od nn b → ∃ r, fD 157 [gx_r 383, .inl many, .inl nn] t n = some r ∧ ∃ t', r = (none, t', n, 0) ∧ ai_HG ah_G t' ∧ (∀ c i, ¬ ((c = 407 ∧ 6 * many ≤ i) ∨ c = 410 ∨ c = 408 ∨ (c = 383 ∧ i = 38)) → ai_hv t' c i = ai_hv t c i) ∧ RBs t' O od nn ((rlv j l).foldl (upb O od nn) b)
theorem pe_gr_0 (d n : Nat) {nn : Nat} {O : Nat → Nat} {od : List Nat} (h1 : 1 ≤ nn) (hn : nn ≤ 6) (hO : ∀ i, i < nn → O i ≤ 99) (hod : ∀ i, i < nn → ltf od i < nn) : GRp (en_u (d + 2)) n nn O od nn 0 := fun l b t0 hll hl g0 kO ko kg hB => by
  obtain ⟨a0, ha0⟩ : ∃ a, a = 6 * (nn - 1) := ⟨_, rfl⟩
  rw [← ha0] at kg
  refine en_u_ex (d := d + 1) rfl ?_
  show en_ex _ _ _ _ (0, [(0, gx_r 383), (1, .inl nn), (2, .inl nn)], [], t0, n, 0) _
  refine ex_go (S := (2, [(0, gx_r 383), (1, .inl nn), (2, .inl nn)], [.inl 6], t0, n, 0)) rfl (fun _ => rfl) rfl ?_
  refine ex_go (S := (3, [(0, gx_r 383), (1, .inl nn), (2, .inl nn)], [.inl nn, .inl 6], t0, n, 0)) rfl (fun _ => rfl) rfl ?_
  refine ex_go (S := (4, [(0, gx_r 383), (1, .inl nn), (2, .inl nn)], [.inl 1, .inl nn, .inl 6], t0, n, 0)) rfl (fun _ => rfl) rfl ?_
  refine gx_isub rfl (by first | decide | omega) (by first | decide | omega) rfl ?_
  refine gx_imul rfl (by first | decide | omega) rfl ?_
  rw [← ha0]
  show en_ex _ _ _ _ (6, [(0, gx_r 383), (1, .inl nn), (2, .inl nn)], [.inl a0], t0, n, 0) _
  refine ex_go (S := (7, [(3, .inl a0), (0, gx_r 383), (1, .inl nn), (2, .inl nn)], [], t0, n, 0)) rfl (fun _ => rfl) rfl ?_
  refine ex_go (S := (8, [(3, .inl a0), (0, gx_r 383), (1, .inl nn), (2, .inl nn)], [.inl nn], t0, n, 0)) rfl (fun _ => rfl) rfl ?_
  refine ex_go (S := (9, [(3, .inl a0), (0, gx_r 383), (1, .inl nn), (2, .inl nn)], [.inl nn, .inl nn], t0, n, 0)) rfl (fun _ => rfl) rfl ?_
  refine gx_2f (c := .ne) rfl (by first | decide | omega) (by first | decide | omega) (fun z => z rfl) rfl ?_
  refine ex_go (S := (13, [(3, .inl a0), (0, gx_r 383), (1, .inl nn), (2, .inl nn)], [gx_r 383], t0, n, 0)) rfl (fun _ => rfl) rfl ?_
  refine ex_go (S := (14, [(3, .inl a0), (0, gx_r 383), (1, .inl nn), (2, .inl nn)], [.inl nn, gx_r 383], t0, n, 0)) rfl (fun _ => rfl) rfl ?_
  refine ex_go (S := (15, [(3, .inl a0), (0, gx_r 383), (1, .inl nn), (2, .inl nn)], [.inl a0, .inl nn, gx_r 383], t0, n, 0)) rfl (fun _ => rfl) rfl ?_
  obtain ⟨_, r101, t101, rfl, g101, e101, hB101⟩ := pe_looksAt d n (at0 := a0) (l := l) g0 hn kO hO ko hod (by first | decide | omega) kg (fun i hi => by have := hl i hi; omega) hB
  refine gx_call0 rfl rfl g0 rfl rfl r101 rfl ?_
  show en_ex _ _ _ _ (18, [(3, .inl a0), (0, gx_r 383), (1, .inl nn), (2, .inl nn)], [], t101, n, 0) _
  refine ex_ret (r := (none, t101, n, 0)) rfl (fun _ => rfl) ?_
  refine ⟨_, rfl, t101, rfl, g101, (fun c i h => e101 c i (by first | decide | omega)), ?_⟩
  show RBs t101 O od nn (upb O od nn b (srt l l.length))
  rw [hll]
  exact hB101
theorem pe_gr_l {dd n nn many j a0 : Nat} {tb : en_H} {O : Nat → Nat} {l od : List Nat} {b : Option (List Nat)} {Q : en_O → Prop} (hI : GRp (en_u dd) n nn O od (many + 1) j) (hn1 : 1 ≤ nn) (hn : nn ≤ 6) (hO : ∀ i, i < nn → O i ≤ 99) (hod : ∀ i, i < nn → ltf od i < nn) (hm : 1 ≤ many) (hmn : many < nn) (ha0 : a0 = 6 * (many - 1)) (hll : l.length = many) (hl : ∀ i, i < many → ltf l i ≤ 2 * many) (kO : ∀ i, i < nn → ai_hv tb 389 (134 + i) = some (.inl (O i))) (ko : ∀ i, i < nn → ai_hv tb 409 i = some (.inl (ltf od i))) (kg : ∀ i, i < many → ai_hv tb 407 (a0 + i) = some (.inl (ltf l i))) (hQ : ∀ t1, ai_HG ah_G t1 → (∀ c i, ¬ ((c = 407 ∧ 6 * many ≤ i) ∨ c = 410 ∨ c = 408 ∨ (c = 383 ∧ i = 38)) → ai_hv t1 c i = ai_hv tb c i) → RBs t1 O od nn ((rlk j l many).foldl (upb O od nn) b) → Q (.inl (none, t1, n, 0))) : ∀ i k cl t0, k + i = many → ai_HG ah_G t0 → (∀ c i, ¬ ((c = 407 ∧ 6 * many ≤ i) ∨ c = 410 ∨ c = 408 ∨ (c = 383 ∧ i = 38)) → ai_hv t0 c i = ai_hv tb c i) → RBs t0 O od nn ((rlk j l k).foldl (upb O od nn) b) → en_ld cl 0 = some (gx_r 383) → en_ld cl 1 = some (.inl many) → en_ld cl 2 = some (.inl nn) → en_ld cl 3 = some (.inl a0) → en_ld cl 4 = some (.inl k) → en_ex none (en_u dd) (en_code 157) (fun _ => false) (22, cl, [], t0, n, 0) Q := by
  intro i
  induction i with
  | zero =>
    intro k cl t0 hj g0 e0 hB h0 h1 h2 h3 h4
    have hk : k = many := by omega
    rw [hk] at hB
    refine gx_ld (i := 4) (d := 0) (v := .inl k) rfl (fun _ => rfl) h4 rfl rfl ?_
    refine gx_ld (i := 1) (d := 0) (v := .inl many) rfl (fun _ => rfl) h1 rfl rfl ?_
    refine gx_2t (c := .ge) rfl (by first | decide | omega) (by first | decide | omega) (show many ≤ k from by omega) rfl ?_
    refine ex_ret (r := (none, t0, n, 0)) rfl (fun _ => rfl) ?_
    exact hQ t0 g0 e0 hB
  | succ i ih =>
    intro k cl t0 hj g0 e0 hB h0 h1 h2 h3 h4
    have hlk := hl k (by first | decide | omega)
    refine gx_ld (i := 4) (d := 0) (v := .inl k) rfl (fun _ => rfl) h4 rfl rfl ?_
    refine gx_ld (i := 1) (d := 0) (v := .inl many) rfl (fun _ => rfl) h1 rfl rfl ?_
    refine gx_2f (c := .ge) rfl (by first | decide | omega) (by first | decide | omega) (show ¬ (many ≤ k) from by omega) rfl ?_
    refine ex_go (S := (29, cl, [.inl 0], t0, n, 0)) rfl (fun _ => rfl) rfl ?_
    refine gx_sto (i := 5) (d := 0) rfl (fun _ => rfl) rfl rfl (fun l1 hl1 ml1 => ?_)
    have l1_0 : en_ld l1 0 = some (gx_r 383) := ml1 0 _ h0 rfl
    have l1_1 : en_ld l1 1 = some (.inl many) := ml1 1 _ h1 rfl
    have l1_2 : en_ld l1 2 = some (.inl nn) := ml1 2 _ h2 rfl
    have l1_3 : en_ld l1 3 = some (.inl a0) := ml1 3 _ h3 rfl
    have l1_4 : en_ld l1 4 = some (.inl k) := ml1 4 _ h4 rfl
    refine pe_gr_i (tb := t0) (many := many) (nn := nn) (a0 := a0) (k := k) (l := l) (by first | decide | omega) (by first | decide | omega) (by first | decide | omega) (fun q hq => (e0 407 (a0 + q) (by first | decide | omega)).trans (kg q hq)) (fun q hq => by have := hl q hq; omega) (fun cl1 t1 g1 e1 hc1 m0 m1 m2 m3 m4 => ?_) many 0 _ t0 (by first | decide | omega) g0 (fun _ _ _ => rfl) (fun q h => absurd h (Nat.not_lt_zero q)) l1_0 l1_1 l1_2 l1_3 l1_4 hl1
    refine gx_ld (i := 0) (d := 2) (v := gx_r 383) rfl (fun _ => rfl) m0 rfl rfl ?_
    refine gx_ref (c := 407) rfl g1 rfl rfl rfl rfl ?_
    refine gx_ld (i := 3) (d := 0) (v := .inl a0) rfl (fun _ => rfl) m3 rfl rfl ?_
    refine ex_go (S := (84, cl1, [.inl 6, .inl a0, gx_r 407], t1, n, 0)) rfl (fun _ => rfl) rfl ?_
    refine ex_iadd rfl (by first | decide | omega) rfl ?_
    refine gx_ld (i := 1) (d := 0) (v := .inl many) rfl (fun _ => rfl) m1 rfl rfl ?_
    refine ex_iadd rfl (by first | decide | omega) rfl ?_
    refine gx_ld (i := 0) (d := 2) (v := gx_r 383) rfl (fun _ => rfl) m0 rfl rfl ?_
    refine gx_ref (c := 407) rfl g1 rfl rfl rfl rfl ?_
    refine gx_ld (i := 3) (d := 0) (v := .inl a0) rfl (fun _ => rfl) m3 rfl rfl ?_
    refine gx_ld (i := 4) (d := 0) (v := .inl k) rfl (fun _ => rfl) m4 rfl rfl ?_
    refine ex_iadd rfl (by first | decide | omega) rfl ?_
    refine gx_ag (v := .inl (ltf l k)) (cb := fun c => Nat.beq c 0) rfl (fun _ => rfl) g1 rfl rfl ((e1 407 (a0 + k) (by first | decide | omega)).trans ((e0 407 (a0 + k) (by first | decide | omega)).trans (kg k (by first | decide | omega)))) (by first | decide | omega) rfl ?_
    refine ex_go (S := (97, cl1, [.inl 2, .inl (ltf l k), .inl ((a0 + 6) + many), gx_r 407], t1, n, 0)) rfl (fun _ => rfl) rfl ?_
    refine ex_iadd rfl (by first | decide | omega) rfl ?_
    refine gx_ap rfl (fun _ => rfl) g1 rfl rfl rfl (show (a0 + 6) + many < 42 from by omega) (gx_run1 (show (a0 + 6) + many < 42 from by omega)) (gx_full (by first | decide | omega)) rfl (fun t102 g102 k102 e102 => ?_)
    have k3 : ai_hv t102 407 (a0 + k) = some (.inl (ltf l k)) := (e102 407 (a0 + k) (by first | decide | omega)).trans ((e1 407 (a0 + k) (by first | decide | omega)).trans ((e0 407 (a0 + k) (by first | decide | omega)).trans (kg k (by first | decide | omega))))
    refine gx_ld (i := 0) (d := 2) (v := gx_r 383) rfl (fun _ => rfl) m0 rfl rfl ?_
    refine gx_ld (i := 1) (d := 0) (v := .inl many) rfl (fun _ => rfl) m1 rfl rfl ?_
    refine ex_go (S := (102, cl1, [.inl 1, .inl many, gx_r 383], t102, n, 0)) rfl (fun _ => rfl) rfl ?_
    refine ex_iadd rfl (by first | decide | omega) rfl ?_
    refine gx_ld (i := 2) (d := 0) (v := .inl nn) rfl (fun _ => rfl) m2 rfl rfl ?_
    have hc2 : ∀ q, q < many + 1 → ai_hv t102 407 (6 * (many + 1 - 1) + q) = some (.inl (ltf (rkid l k) q)) := fun q hq => by
      have e8 : 6 * (many + 1 - 1) + q = a0 + 6 + q := by omega
      rw [e8, show ltf (rkid l k) q = (if q < l.length then ltf l q + (if q = k then 1 else 0) else ltf l k + 2) from ltf_lof (by first | decide | omega)]
      by_cases e9 : q < many
      · rw [if_pos (by first | decide | omega)]
        exact (e102 407 (a0 + 6 + q) (by first | decide | omega)).trans (hc1 q e9)
      · rw [if_neg (by first | decide | omega), show q = many by omega]
        exact k102
    have hk9 := rkid_le (l := l) (k := k) (by rw [hll]; exact hl) (by first | decide | omega)
    rw [hll] at hk9
    obtain ⟨_, r104, t104, rfl, g104, e104, hB104⟩ := hI (rkid l k) ((rlk j l k).foldl (upb O od nn) b) t102 (by rw [rkid_len, hll]) hk9 g102 (fun q hq => (((e102 389 (134 + q) (by first | decide | omega)).trans (e1 389 (134 + q) (by first | decide | omega))).trans (e0 389 (134 + q) (by first | decide | omega))).trans (kO q hq)) (fun q hq => (((e102 409 q (by first | decide | omega)).trans (e1 409 q (by first | decide | omega))).trans (e0 409 q (by first | decide | omega))).trans (ko q hq)) hc2 (RBs_keep hB ((e102 383 38 (by first | decide | omega)).trans (e1 383 38 (by first | decide | omega))) (fun q => (e102 408 q (by first | decide | omega)).trans (e1 408 q (by first | decide | omega))))
    refine gx_call0 rfl rfl g102 rfl rfl r104 rfl ?_
    have k5 : ai_hv t104 407 (a0 + k) = some (.inl (ltf l k)) := (e104 407 (a0 + k) (by first | decide | omega)).trans k3
    have k6 : ai_hv t104 407 ((a0 + 6) + many) = some (.inl ((ltf l k) + 2)) := (e104 407 ((a0 + 6) + many) (by first | decide | omega)).trans k102
    show en_ex _ _ _ _ (107, cl1, [], t104, n, 0) _
    refine gx_incS (i := 4) (a := k) (x := 1) rfl (fun _ => rfl) m4 (by first | decide | omega) rfl (fun l7 hl7 ml7 => ?_)
    have l7_0 : en_ld l7 0 = some (gx_r 383) := ml7 0 _ m0 rfl
    have l7_1 : en_ld l7 1 = some (.inl many) := ml7 1 _ m1 rfl
    have l7_2 : en_ld l7 2 = some (.inl nn) := ml7 2 _ m2 rfl
    have l7_3 : en_ld l7 3 = some (.inl a0) := ml7 3 _ m3 rfl
    refine ex_go (S := (22, l7, [], t104, n, 0)) rfl (fun _ => rfl) rfl ?_
    exact ih (k + 1) _ t104 (by first | decide | omega) g104 (fun c q h => (((e104 c q (by first | decide | omega)).trans (e102 c q (by first | decide | omega))).trans (e1 c q (by first | decide | omega))).trans (e0 c q (by first | decide | omega))) (by rw [rlk_s, List.foldl_append]; exact hB104) l7_0 l7_1 l7_2 l7_3 hl7
theorem pe_gr_s {dd n nn many j : Nat} {O : Nat → Nat} {od : List Nat} (hI : GRp (en_u dd) n nn O od (many + 1) j) (hn1 : 1 ≤ nn) (hn : nn ≤ 6) (hO : ∀ i, i < nn → O i ≤ 99) (hod : ∀ i, i < nn → ltf od i < nn) (hm : 1 ≤ many) (hmn : many < nn) : GRp (en_u (dd + 1)) n nn O od many (j + 1) := fun l b t0 hll hl g0 kO ko kg hB => by
  obtain ⟨a0, ha0⟩ : ∃ a, a = 6 * (many - 1) := ⟨_, rfl⟩
  rw [← ha0] at kg
  refine en_u_ex (d := dd) rfl ?_
  show en_ex _ _ _ _ (0, [(0, gx_r 383), (1, .inl many), (2, .inl nn)], [], t0, n, 0) _
  refine ex_go (S := (2, [(0, gx_r 383), (1, .inl many), (2, .inl nn)], [.inl 6], t0, n, 0)) rfl (fun _ => rfl) rfl ?_
  refine ex_go (S := (3, [(0, gx_r 383), (1, .inl many), (2, .inl nn)], [.inl many, .inl 6], t0, n, 0)) rfl (fun _ => rfl) rfl ?_
  refine ex_go (S := (4, [(0, gx_r 383), (1, .inl many), (2, .inl nn)], [.inl 1, .inl many, .inl 6], t0, n, 0)) rfl (fun _ => rfl) rfl ?_
  refine gx_isub rfl (by first | decide | omega) (by first | decide | omega) rfl ?_
  refine gx_imul rfl (by first | decide | omega) rfl ?_
  rw [← ha0]
  show en_ex _ _ _ _ (6, [(0, gx_r 383), (1, .inl many), (2, .inl nn)], [.inl a0], t0, n, 0) _
  refine ex_go (S := (7, [(3, .inl a0), (0, gx_r 383), (1, .inl many), (2, .inl nn)], [], t0, n, 0)) rfl (fun _ => rfl) rfl ?_
  refine ex_go (S := (8, [(3, .inl a0), (0, gx_r 383), (1, .inl many), (2, .inl nn)], [.inl many], t0, n, 0)) rfl (fun _ => rfl) rfl ?_
  refine ex_go (S := (9, [(3, .inl a0), (0, gx_r 383), (1, .inl many), (2, .inl nn)], [.inl nn, .inl many], t0, n, 0)) rfl (fun _ => rfl) rfl ?_
  refine gx_2t (c := .ne) rfl (by first | decide | omega) (by first | decide | omega) (show many ≠ nn from by omega) rfl ?_
  refine ex_go (S := (20, [(3, .inl a0), (0, gx_r 383), (1, .inl many), (2, .inl nn)], [.inl 0], t0, n, 0)) rfl (fun _ => rfl) rfl ?_
  refine ex_go (S := (22, [(4, .inl 0), (3, .inl a0), (0, gx_r 383), (1, .inl many), (2, .inl nn)], [], t0, n, 0)) rfl (fun _ => rfl) rfl ?_
  exact pe_gr_l (tb := t0) (l := l) (od := od) (b := b) hI hn1 hn hO hod hm hmn ha0 hll hl kO ko kg (fun t1 g1 e1 hB1 => ⟨_, rfl, t1, rfl, g1, e1, by
    show RBs t1 O od nn ((rlk j l l.length).foldl (upb O od nn) b)
    rw [hll]
    exact hB1⟩) many 0 _ t0 (by first | decide | omega) g0 (fun _ _ _ => rfl) hB rfl rfl rfl rfl rfl
theorem pe_gr (d n : Nat) {nn : Nat} {O : Nat → Nat} {od : List Nat} (h1 : 1 ≤ nn) (hn : nn ≤ 6) (hO : ∀ i, i < nn → O i ≤ 99) (hod : ∀ i, i < nn → ltf od i < nn) : ∀ j many, many + j = nn → 1 ≤ many → GRp (en_u (d + 2 + j)) n nn O od many j
  | 0, many, hj, _ => by
    have e : many = nn := by omega
    subst e
    exact pe_gr_0 d n h1 hn hO hod
  | j + 1, many, hj, hm => pe_gr_s (pe_gr d n h1 hn hO hod j (many + 1) (by first | decide | omega) (by first | decide | omega)) h1 hn hO hod hm (by first | decide | omega)
theorem gx_2mm {oc : Option (List en_V)} {f : en_F} {code : Nat → Option en_I} {stop : Nat → Bool} {P : en_O → Prop} {pc nx : Nat} {ls : en_L} {st : List en_V} {t : en_H} {n sl : Nat} {c : ClassFile.Cond} {j : Int} {x1 x2 x : Nat} (hc : code pc = some (.if_icmp c j, nx, x1, x2)) (h1 : 2147483648 ≤ x) (h2 : x < 4294967295) (hr : ai_rel c (0, 2147483646) (2147483647, 2147483647) = some true) (hp : stop x1 = false) (h : en_ex oc f code stop (x1, ls, st, t, n, sl) P) : en_ex oc f code stop (pc, ls, .inl 4294967295 :: .inl x :: st, t, n, sl) P := by
  obtain ⟨b, hb, h3⟩ := ai_rel_ok (c := c) (p := (0, 2147483646)) (q := (2147483647, 2147483647)) (x := x) (y := 4294967295) ⟨by omega, Nat.zero_le _, by unfold ai_off; show _ ≤ 2147483646; omega⟩ ⟨by decide, by decide, by decide⟩
  exact ex_cmp2 (r := true) hc (by rw [hb, h3 _ hr]) hp h
theorem pz_withinm (d n : Nat) {t0 : en_H} {x hi : Nat} (hx : x < 4294967296) (hh : hi < 1000) : ∃ r, en_u (d + 1) 107 [.inl x, .inl 4294967295, .inl hi] t0 n = some r ∧ ∃ b, r = (some (.inl b), t0, n, 0) ∧ b ≤ 1 ∧ (b = 1 ↔ x = 4294967295 ∨ x ≤ hi) := by
  refine en_u_ex rfl ?_
  show en_ex _ _ _ _ (0, [(0, .inl x), (1, .inl 4294967295), (2, .inl hi)], [], t0, n, 0) _
  by_cases h9 : x = 4294967295
  · rw [h9]
    refine ex_go (S := (1, [(0, .inl 4294967295), (1, .inl 4294967295), (2, .inl hi)], [.inl 4294967295], t0, n, 0)) rfl (fun _ => rfl) rfl ?_
    refine ex_go (S := (2, [(0, .inl 4294967295), (1, .inl 4294967295), (2, .inl hi)], [.inl 4294967295, .inl 4294967295], t0, n, 0)) rfl (fun _ => rfl) rfl ?_
    refine ex_go (S := (5, [(0, .inl 4294967295), (1, .inl 4294967295), (2, .inl hi)], [], t0, n, 0)) rfl (fun _ => rfl) rfl ?_
    refine ex_go (S := (6, [(0, .inl 4294967295), (1, .inl 4294967295), (2, .inl hi)], [.inl 4294967295], t0, n, 0)) rfl (fun _ => rfl) rfl ?_
    refine ex_go (S := (7, [(0, .inl 4294967295), (1, .inl 4294967295), (2, .inl hi)], [.inl hi, .inl 4294967295], t0, n, 0)) rfl (fun _ => rfl) rfl ?_
    refine gx_2nf (c := .gt) rfl (by first | decide | omega) (by first | decide | omega) (by first | decide | omega) rfl rfl ?_
    refine ex_go (S := (11, [(0, .inl 4294967295), (1, .inl 4294967295), (2, .inl hi)], [.inl 1], t0, n, 0)) rfl (fun _ => rfl) rfl ?_
    refine ex_go (S := (15, [(0, .inl 4294967295), (1, .inl 4294967295), (2, .inl hi)], [.inl 1], t0, n, 0)) rfl (fun _ => rfl) rfl ?_
    refine ex_ret (r := (some (.inl 1), t0, n, 0)) rfl (fun _ => rfl) ?_
    exact ⟨_, rfl, 1, rfl, by omega, by omega⟩
  · by_cases hn : 2147483648 ≤ x
    · refine ex_go (S := (1, [(0, .inl x), (1, .inl 4294967295), (2, .inl hi)], [.inl x], t0, n, 0)) rfl (fun _ => rfl) rfl ?_
      refine ex_go (S := (2, [(0, .inl x), (1, .inl 4294967295), (2, .inl hi)], [.inl 4294967295, .inl x], t0, n, 0)) rfl (fun _ => rfl) rfl ?_
      refine gx_2mm (c := .lt) rfl (by first | decide | omega) (by first | decide | omega) rfl rfl ?_
      refine ex_go (S := (15, [(0, .inl x), (1, .inl 4294967295), (2, .inl hi)], [.inl 0], t0, n, 0)) rfl (fun _ => rfl) rfl ?_
      refine ex_ret (r := (some (.inl 0), t0, n, 0)) rfl (fun _ => rfl) ?_
      exact ⟨_, rfl, 0, rfl, by omega, by omega⟩
    · refine ex_go (S := (1, [(0, .inl x), (1, .inl 4294967295), (2, .inl hi)], [.inl x], t0, n, 0)) rfl (fun _ => rfl) rfl ?_
      refine ex_go (S := (2, [(0, .inl x), (1, .inl 4294967295), (2, .inl hi)], [.inl 4294967295, .inl x], t0, n, 0)) rfl (fun _ => rfl) rfl ?_
      refine gx_2mf (c := .lt) rfl (by first | decide | omega) rfl rfl ?_
      refine ex_go (S := (6, [(0, .inl x), (1, .inl 4294967295), (2, .inl hi)], [.inl x], t0, n, 0)) rfl (fun _ => rfl) rfl ?_
      refine ex_go (S := (7, [(0, .inl x), (1, .inl 4294967295), (2, .inl hi)], [.inl hi, .inl x], t0, n, 0)) rfl (fun _ => rfl) rfl ?_
      by_cases hc1 : hi < x
      · refine gx_2t (c := .gt) rfl (by first | decide | omega) (by first | decide | omega) hc1 rfl ?_
        refine ex_go (S := (15, [(0, .inl x), (1, .inl 4294967295), (2, .inl hi)], [.inl 0], t0, n, 0)) rfl (fun _ => rfl) rfl ?_
        refine ex_ret (r := (some (.inl 0), t0, n, 0)) rfl (fun _ => rfl) ?_
        exact ⟨_, rfl, 0, rfl, by omega, by omega⟩
      · refine gx_2f (c := .gt) rfl (by first | decide | omega) (by first | decide | omega) hc1 rfl ?_
        refine ex_go (S := (11, [(0, .inl x), (1, .inl 4294967295), (2, .inl hi)], [.inl 1], t0, n, 0)) rfl (fun _ => rfl) rfl ?_
        refine ex_go (S := (15, [(0, .inl x), (1, .inl 4294967295), (2, .inl hi)], [.inl 1], t0, n, 0)) rfl (fun _ => rfl) rfl ?_
        refine ex_ret (r := (some (.inl 1), t0, n, 0)) rfl (fun _ => rfl) ?_
        exact ⟨_, rfl, 1, rfl, by omega, by omega⟩
/-- the best rows, and what is asked of them -/
noncomputable def cdb (O : Nat → Nat) (nn : Nat) : Option (List Nat) := (rlv (nn - 1) (cdl0 nn)).foldl (upb O (ordl O nn) nn) none
noncomputable def cdA (O : Nat → Nat) (nn x v : Nat) : Prop := (¬ (nn ≠ 0 ∧ (x = 4294967295 ∨ x < nn)) → v = 4294967294) ∧ (nn ≠ 0 → x = 4294967295 → ∃ q, cdb O nn = some q ∧ v = wsm O (ordl O nn) q nn) ∧ (x < nn → ∃ q, cdb O nn = some q ∧ ∃ k, k < nn ∧ ltf (ordl O nn) k = x ∧ v = ltf q k)
theorem cdA_one {O : Nat → Nat} {nn x v v' : Nat} (hn : nn ≤ 6) (h : cdA O nn x v) (h' : cdA O nn x v') : v = v' := by
  by_cases c : nn ≠ 0 ∧ (x = 4294967295 ∨ x < nn)
  · rcases c.2 with e | e
    · obtain ⟨q, a1, a2⟩ := h.2.1 c.1 e
      obtain ⟨q', b1, b2⟩ := h'.2.1 c.1 e
      have e9 := Option.some.inj (a1.symm.trans b1)
      rw [a2, b2, e9]
    · obtain ⟨q, a1, k, a2, a3, a4⟩ := h.2.2 e
      obtain ⟨q', b1, k', b2, b3, b4⟩ := h'.2.2 e
      have e9 := Option.some.inj (a1.symm.trans b1)
      have e8 := ordl_inj nn k k' a2 b2 (a3.trans b3.symm)
      rw [a4, b4, e9, e8]
  · rw [h.1 c, h'.1 c]
theorem pe_cd_l {fn : en_F} {n : Nat} {t0 : en_H} {nn x : Nat} {q : List Nat} {O : Nat → Nat} {Q : en_O → Prop} (g0 : ai_HG ah_G t0) (hn : nn ≤ 6) (hx : x < nn) (ko : ∀ i, i < nn → ai_hv t0 409 i = some (.inl (ltf (ordl O nn) i))) (kq : ∀ i, i < nn → ai_hv t0 408 i = some (.inl (ltf q i))) (hq : ∀ i, i < nn → ltf q i ≤ 12) (hQ : ∀ v, (∃ k, k < nn ∧ ltf (ordl O nn) k = x ∧ v = ltf q k) → Q (.inl (some (.inl v), t0, n, 0))) : ∀ j k cl v, k + j = nn → ((v = 0 ∧ ∀ i, i < k → ltf (ordl O nn) i ≠ x) ∨ ∃ i, i < k ∧ ltf (ordl O nn) i = x ∧ v = ltf q i) → en_ld cl 0 = some (gx_r 383) → en_ld cl 1 = some (.inl x) → en_ld cl 2 = some (.inl nn) → en_ld cl 3 = some (.inl v) → en_ld cl 4 = some (.inl k) → en_ex none fn (en_code 78) (fun _ => false) (77, cl, [], t0, n, 0) Q := by
  intro j
  induction j with
  | zero =>
    intro k cl v hj hv h0 h1 h2 h3 h4
    have hk : k = nn := by omega
    rw [hk] at hv
    refine gx_ld (i := 4) (d := 0) (v := .inl k) rfl (fun _ => rfl) h4 rfl rfl ?_
    refine gx_ld (i := 2) (d := 0) (v := .inl nn) rfl (fun _ => rfl) h2 rfl rfl ?_
    refine gx_2t (c := .ge) rfl (by first | decide | omega) (by first | decide | omega) (show nn ≤ k from by omega) rfl ?_
    refine gx_ld (i := 3) (d := 0) (v := .inl v) rfl (fun _ => rfl) h3 rfl rfl ?_
    refine ex_ret (r := (some (.inl v), t0, n, 0)) rfl (fun _ => rfl) ?_
    refine hQ _ ?_
    rcases hv with ⟨-, b⟩ | ⟨i, a, b, c⟩
    · obtain ⟨i, a, e⟩ := ordl_sur (O := O) nn x hx
      exact absurd e (b i a)
    · exact ⟨i, a, b, c⟩
  | succ j ih =>
    intro k cl v hj hv h0 h1 h2 h3 h4
    have hq9 := hq k (by first | decide | omega)
    have ho9 := ordl_lt (O := O) nn k (by first | decide | omega)
    refine gx_ld (i := 4) (d := 0) (v := .inl k) rfl (fun _ => rfl) h4 rfl rfl ?_
    refine gx_ld (i := 2) (d := 0) (v := .inl nn) rfl (fun _ => rfl) h2 rfl rfl ?_
    refine gx_2f (c := .ge) rfl (by first | decide | omega) (by first | decide | omega) (show ¬ (nn ≤ k) from by omega) rfl ?_
    refine gx_ld (i := 0) (d := 2) (v := gx_r 383) rfl (fun _ => rfl) h0 rfl rfl ?_
    refine gx_ref (c := 409) rfl g0 rfl rfl rfl rfl ?_
    refine gx_ld (i := 4) (d := 0) (v := .inl k) rfl (fun _ => rfl) h4 rfl rfl ?_
    refine gx_ag (v := .inl (ltf (ordl O nn) k)) (cb := fun c => Nat.beq c 0) rfl (fun _ => rfl) g0 rfl rfl (ko k (by first | decide | omega)) (by first | decide | omega) rfl ?_
    refine gx_ld (i := 1) (d := 0) (v := .inl x) rfl (fun _ => rfl) h1 rfl rfl ?_
    by_cases hc1 : ltf (ordl O nn) k ≠ x
    · refine gx_2t (c := .ne) rfl (by first | decide | omega) (by first | decide | omega) hc1 rfl ?_
      refine gx_ld (i := 3) (d := 0) (v := .inl v) rfl (fun _ => rfl) h3 rfl rfl ?_
      refine gx_sto (i := 3) (d := 0) rfl (fun _ => rfl) rfl rfl (fun l2 hl2 ml2 => ?_)
      have l2_0 : en_ld l2 0 = some (gx_r 383) := ml2 0 _ h0 rfl
      have l2_1 : en_ld l2 1 = some (.inl x) := ml2 1 _ h1 rfl
      have l2_2 : en_ld l2 2 = some (.inl nn) := ml2 2 _ h2 rfl
      have l2_4 : en_ld l2 4 = some (.inl k) := ml2 4 _ h4 rfl
      refine gx_incS (i := 4) (a := k) (x := 1) rfl (fun _ => rfl) l2_4 (by first | decide | omega) rfl (fun l3 hl3 ml3 => ?_)
      have l3_0 : en_ld l3 0 = some (gx_r 383) := ml3 0 _ l2_0 rfl
      have l3_1 : en_ld l3 1 = some (.inl x) := ml3 1 _ l2_1 rfl
      have l3_2 : en_ld l3 2 = some (.inl nn) := ml3 2 _ l2_2 rfl
      have l3_3 : en_ld l3 3 = some (.inl v) := ml3 3 _ hl2 rfl
      refine ex_go (S := (77, l3, [], t0, n, 0)) rfl (fun _ => rfl) rfl ?_
      exact ih (k + 1) _ _ (by first | decide | omega) (by
        rcases hv with ⟨a, b⟩ | ⟨i, a, b, c⟩
        · exact Or.inl ⟨a, fun i hi => by
            by_cases e9 : i = k
            · rw [e9]; omega
            · exact b i (by first | decide | omega)⟩
        · exact Or.inr ⟨i, by omega, b, c⟩) l3_0 l3_1 l3_2 l3_3 hl3
    · refine gx_2f (c := .ne) rfl (by first | decide | omega) (by first | decide | omega) hc1 rfl ?_
      refine gx_ld (i := 0) (d := 2) (v := gx_r 383) rfl (fun _ => rfl) h0 rfl rfl ?_
      refine gx_ref (c := 408) rfl g0 rfl rfl rfl rfl ?_
      refine gx_ld (i := 4) (d := 0) (v := .inl k) rfl (fun _ => rfl) h4 rfl rfl ?_
      refine gx_ag (v := .inl (ltf q k)) (cb := fun c => Nat.beq c 0) rfl (fun _ => rfl) g0 rfl rfl (kq k (by first | decide | omega)) (by first | decide | omega) rfl ?_
      refine ex_go (S := (105, cl, [.inl (ltf q k)], t0, n, 0)) rfl (fun _ => rfl) rfl ?_
      refine gx_sto (i := 3) (d := 0) rfl (fun _ => rfl) rfl rfl (fun l4 hl4 ml4 => ?_)
      have l4_0 : en_ld l4 0 = some (gx_r 383) := ml4 0 _ h0 rfl
      have l4_1 : en_ld l4 1 = some (.inl x) := ml4 1 _ h1 rfl
      have l4_2 : en_ld l4 2 = some (.inl nn) := ml4 2 _ h2 rfl
      have l4_4 : en_ld l4 4 = some (.inl k) := ml4 4 _ h4 rfl
      refine gx_incS (i := 4) (a := k) (x := 1) rfl (fun _ => rfl) l4_4 (by first | decide | omega) rfl (fun l5 hl5 ml5 => ?_)
      have l5_0 : en_ld l5 0 = some (gx_r 383) := ml5 0 _ l4_0 rfl
      have l5_1 : en_ld l5 1 = some (.inl x) := ml5 1 _ l4_1 rfl
      have l5_2 : en_ld l5 2 = some (.inl nn) := ml5 2 _ l4_2 rfl
      have l5_3 : en_ld l5 3 = some (.inl (ltf q k)) := ml5 3 _ hl4 rfl
      refine ex_go (S := (77, l5, [], t0, n, 0)) rfl (fun _ => rfl) rfl ?_
      exact ih (k + 1) _ _ (by first | decide | omega) (Or.inr ⟨k, by omega, by omega, rfl⟩) l5_0 l5_1 l5_2 l5_3 hl5
theorem pe_code (d n : Nat) {t0 : en_H} {nn x : Nat} {O : Nat → Nat} (g0 : ai_HG ah_G t0) (kn : ai_hv t0 389 7 = some (.inl nn)) (hn : nn ≤ 6) (kO : ∀ i, i < nn → ai_hv t0 389 (134 + i) = some (.inl (O i))) (hO : ∀ i, i < nn → O i ≤ 99) (hx : x < 4294967296) : ∃ r, en_u (d + 10) 78 [gx_r 383, .inl x] t0 n = some r ∧ ∃ v t', r = (some (.inl v), t', n, 0) ∧ cdA O nn x v := by
  refine en_u_ex (d := d + 9) rfl ?_
  show en_ex _ _ _ _ (0, [(0, gx_r 383), (1, .inl x)], [], t0, n, 0) _
  refine ex_go (S := (1, [(0, gx_r 383), (1, .inl x)], [gx_r 383], t0, n, 0)) rfl (fun _ => rfl) rfl ?_
  refine ex_go (S := (2, [(0, gx_r 383), (1, .inl x)], [.inl 0, gx_r 383], t0, n, 0)) rfl (fun _ => rfl) rfl ?_
  refine gx_put rfl g0 rfl rfl (ai_in_h (by first | decide | omega) (by first | decide | omega) (by first | decide | omega)) rfl (fun t101 g101 k101 e101 => ?_)
  have k2 : ai_hv t101 389 7 = some (.inl nn) := (e101 389 7 (by first | decide | omega)).trans kn
  refine ex_go (S := (6, [(0, gx_r 383), (1, .inl x)], [gx_r 383], t101, n, 0)) rfl (fun _ => rfl) rfl ?_
  refine gx_ref (c := 389) rfl g101 rfl rfl rfl rfl ?_
  refine ex_go (S := (11, [(0, gx_r 383), (1, .inl x)], [.inl 7, gx_r 389], t101, n, 0)) rfl (fun _ => rfl) rfl ?_
  refine gx_ag (v := .inl nn) (cb := fun c => Nat.beq c 0) rfl (fun _ => rfl) g101 rfl rfl k2 (by first | decide | omega) rfl ?_
  refine ex_go (S := (13, [(2, .inl nn), (0, gx_r 383), (1, .inl x)], [], t101, n, 0)) rfl (fun _ => rfl) rfl ?_
  refine ex_go (S := (14, [(2, .inl nn), (0, gx_r 383), (1, .inl x)], [.inl nn], t101, n, 0)) rfl (fun _ => rfl) rfl ?_
  by_cases hc3 : nn = 0
  · refine gx_1t (c := .eq) rfl (by first | decide | omega) hc3 rfl ?_
    refine ex_go (S := (30, [(2, .inl nn), (0, gx_r 383), (1, .inl x)], [.inl 4294967294], t101, n, 0)) rfl (fun _ => rfl) rfl ?_
    refine ex_ret (r := (some (.inl 4294967294), t101, n, 0)) rfl (fun _ => rfl) ?_
    exact ⟨_, rfl, _, t101, rfl, fun _ => rfl, fun z1 z2 => absurd z1 (by first | decide | omega), fun z => absurd z (by first | decide | omega)⟩
  · refine gx_1f (c := .eq) rfl (by first | decide | omega) hc3 rfl ?_
    refine ex_go (S := (18, [(2, .inl nn), (0, gx_r 383), (1, .inl x)], [.inl x], t101, n, 0)) rfl (fun _ => rfl) rfl ?_
    refine ex_go (S := (19, [(2, .inl nn), (0, gx_r 383), (1, .inl x)], [.inl 4294967295, .inl x], t101, n, 0)) rfl (fun _ => rfl) rfl ?_
    refine ex_go (S := (20, [(2, .inl nn), (0, gx_r 383), (1, .inl x)], [.inl nn, .inl 4294967295, .inl x], t101, n, 0)) rfl (fun _ => rfl) rfl ?_
    refine ex_go (S := (21, [(2, .inl nn), (0, gx_r 383), (1, .inl x)], [.inl 1, .inl nn, .inl 4294967295, .inl x], t101, n, 0)) rfl (fun _ => rfl) rfl ?_
    refine gx_isub rfl (by first | decide | omega) (by first | decide | omega) rfl ?_
    obtain ⟨_, r104, b104, rfl, hb104, hi104⟩ := pz_withinm (d + 8) n (t0 := t101) (x := x) (hi := nn - 1) hx (by first | decide | omega)
    refine ex_stat rfl rfl rfl rfl rfl r104 (Nat.le_refl _) rfl ?_
    show en_ex _ _ _ _ (25, [(2, .inl nn), (0, gx_r 383), (1, .inl x)], [.inl b104], t101, n, 0) _
    by_cases hc5 : b104 ≠ 0
    · refine gx_1t (c := .ne) rfl (by first | decide | omega) hc5 rfl ?_
      refine ex_go (S := (32, [(2, .inl nn), (0, gx_r 383), (1, .inl x)], [gx_r 383], t101, n, 0)) rfl (fun _ => rfl) rfl ?_
      refine ex_go (S := (33, [(2, .inl nn), (0, gx_r 383), (1, .inl x)], [.inl nn, gx_r 383], t101, n, 0)) rfl (fun _ => rfl) rfl ?_
      obtain ⟨_, r106, t106, rfl, g106, e106, ho106⟩ := pe_findOrder (d + 8) n (nn := nn) (O := O) g101 hn (fun i hi => (e101 389 (134 + i) (by first | decide | omega)).trans (kO i hi)) hO
      refine gx_call0 rfl rfl g101 rfl rfl r106 rfl ?_
      have k7 : ai_hv t106 389 7 = some (.inl nn) := (e106 389 7 (by first | decide | omega)).trans k2
      have k8 : ai_hv t106 383 0 = some (.inl 0) := (e106 383 0 (by first | decide | omega)).trans k101
      show en_ex _ _ _ _ (36, [(2, .inl nn), (0, gx_r 383), (1, .inl x)], [], t106, n, 0) _
      refine ex_go (S := (37, [(2, .inl nn), (0, gx_r 383), (1, .inl x)], [gx_r 383], t106, n, 0)) rfl (fun _ => rfl) rfl ?_
      refine ex_go (S := (38, [(2, .inl nn), (0, gx_r 383), (1, .inl x)], [.inl 4294967295, gx_r 383], t106, n, 0)) rfl (fun _ => rfl) rfl ?_
      refine gx_put rfl g106 rfl rfl ⟨_, rfl, by decide, by decide, by decide⟩ rfl (fun t109 g109 k109 e109 => ?_)
      have k10 : ai_hv t109 389 7 = some (.inl nn) := (e109 389 7 (by first | decide | omega)).trans k7
      have k11 : ai_hv t109 383 0 = some (.inl 0) := (e109 383 0 (by first | decide | omega)).trans k8
      refine ex_go (S := (42, [(2, .inl nn), (0, gx_r 383), (1, .inl x)], [gx_r 383], t109, n, 0)) rfl (fun _ => rfl) rfl ?_
      refine gx_ref (c := 407) rfl g109 rfl rfl rfl rfl ?_
      refine ex_go (S := (46, [(2, .inl nn), (0, gx_r 383), (1, .inl x)], [.inl 0, gx_r 407], t109, n, 0)) rfl (fun _ => rfl) rfl ?_
      refine ex_go (S := (47, [(2, .inl nn), (0, gx_r 383), (1, .inl x)], [.inl nn, .inl 0, gx_r 407], t109, n, 0)) rfl (fun _ => rfl) rfl ?_
      refine ex_go (S := (48, [(2, .inl nn), (0, gx_r 383), (1, .inl x)], [.inl 1, .inl nn, .inl 0, gx_r 407], t109, n, 0)) rfl (fun _ => rfl) rfl ?_
      by_cases hc12 : nn ≠ 1
      · refine gx_2t (c := .ne) rfl (by first | decide | omega) (by first | decide | omega) hc12 rfl ?_
        refine ex_go (S := (56, [(2, .inl nn), (0, gx_r 383), (1, .inl x)], [.inl 0, .inl 0, gx_r 407], t109, n, 0)) rfl (fun _ => rfl) rfl ?_
        refine gx_ap rfl (fun _ => rfl) g109 rfl rfl rfl (show 0 < 42 from by omega) (gx_run1 (show 0 < 42 from by omega)) (gx_full (by first | decide | omega)) rfl (fun t113 g113 k113 e113 => ?_)
        have k14 : ai_hv t113 389 7 = some (.inl nn) := (e113 389 7 (by first | decide | omega)).trans k10
        have k15 : ai_hv t113 383 0 = some (.inl 0) := (e113 383 0 (by first | decide | omega)).trans k11
        have k16 : ai_hv t113 383 38 = some (.inl 4294967295) := (e113 383 38 (by first | decide | omega)).trans k109
        refine ex_go (S := (58, [(2, .inl nn), (0, gx_r 383), (1, .inl x)], [gx_r 383], t113, n, 0)) rfl (fun _ => rfl) rfl ?_
        refine ex_go (S := (59, [(2, .inl nn), (0, gx_r 383), (1, .inl x)], [.inl 1, gx_r 383], t113, n, 0)) rfl (fun _ => rfl) rfl ?_
        refine ex_go (S := (60, [(2, .inl nn), (0, gx_r 383), (1, .inl x)], [.inl nn, .inl 1, gx_r 383], t113, n, 0)) rfl (fun _ => rfl) rfl ?_
        have hl0 : cdl0 nn = [0] := if_neg (by first | decide | omega)
        have hG9 := pe_gr (d + 8 - nn) n (nn := nn) (O := O) (od := ordl O nn) (by first | decide | omega) hn hO (fun i hi => ordl_lt nn i hi) (nn - 1) 1 (by first | decide | omega) (by decide)
        rw [show d + 8 - nn + 2 + (nn - 1) = d + 9 by omega] at hG9
        obtain ⟨_, r117, t117, rfl, g117, e117, hB117⟩ := hG9 (cdl0 nn) none t113 (by rw [hl0]; rfl) (fun i hi => by
          have e9 : i = 0 := by omega
          rw [hl0, e9]; decide) g113 (fun i hi => ((((e113 389 (134 + i) (by first | decide | omega)).trans (e109 389 (134 + i) (by first | decide | omega))).trans (e106 389 (134 + i) (by first | decide | omega))).trans (e101 389 (134 + i) (by first | decide | omega))).trans (kO i hi)) (fun i hi => ((e113 409 i (by first | decide | omega)).trans (e109 409 i (by first | decide | omega))).trans (ho106 i hi)) (fun i hi => by
          have e9 : i = 0 := by omega
          rw [hl0, e9]; exact k113) (show ai_hv t113 383 38 = some (.inl 4294967295) from k16)
        have hne : ∃ q, cdb O nn = some q := by
          unfold cdb
          obtain ⟨q, a, -⟩ := upb_foldn (O := O) (od := ordl O nn) (n := nn) (L := rlv (nn - 1) (cdl0 nn)) (by
            rcases (show nn = 1 ∨ nn = 2 ∨ nn = 3 ∨ nn = 4 ∨ nn = 5 ∨ nn = 6 by omega) with rfl | rfl | rfl | rfl | rfl | rfl
            · rw [show rlv (1 - 1) (cdl0 1) = cdR1 from cdR1_e]; decide
            · rw [show rlv (2 - 1) (cdl0 2) = cdR2 from cdR2_e]; decide
            · rw [show rlv (3 - 1) (cdl0 3) = cdR3 from cdR3_e]; decide
            · rw [show rlv (4 - 1) (cdl0 4) = cdR4 from cdR4_e]; decide
            · rw [show rlv (5 - 1) (cdl0 5) = cdR5 from cdR5_e]; decide
            · rw [show rlv (6 - 1) (cdl0 6) = cdR6 from cdR6_e]; decide)
          exact ⟨q, a⟩
        obtain ⟨q, hq9⟩ := hne
        have hB9 : RBs t117 O (ordl O nn) nn (some q) := by rw [← hq9]; exact hB117
        obtain ⟨q0, q1, q2, q3⟩ := hB9
        have hwq := wsm_le (O := O) (od := ordl O nn) (r := q) nn q1 (fun i hi => hO _ (ordl_lt nn i hi))
        refine gx_call0 rfl rfl g113 rfl rfl r117 rfl ?_
        show en_ex _ _ _ _ (63, [(2, .inl nn), (0, gx_r 383), (1, .inl x)], [], t117, n, 0) _
        refine ex_go (S := (64, [(2, .inl nn), (0, gx_r 383), (1, .inl x)], [.inl x], t117, n, 0)) rfl (fun _ => rfl) rfl ?_
        rcases (show x = 4294967295 ∨ x < nn by omega) with hx9 | hx9
        · refine gx_negf (c := .ge) rfl (by first | decide | omega) (by first | decide | omega) rfl rfl ?_
          refine ex_go (S := (68, [(2, .inl nn), (0, gx_r 383), (1, .inl x)], [gx_r 383], t117, n, 0)) rfl (fun _ => rfl) rfl ?_
          refine gx_get rfl g117 rfl q2 rfl ?_
          refine ex_ret (r := (some (.inl (wsm O (ordl O nn) q nn)), t117, n, 0)) rfl (fun _ => rfl) ?_
          have hx9 : x = 4294967295 := by omega
          exact ⟨_, rfl, _, t117, rfl, fun z => absurd ⟨by omega, Or.inl hx9⟩ z, fun _ _ => ⟨q, hq9, rfl⟩, fun z => absurd z (by first | decide | omega)⟩
        · refine gx_1t (c := .ge) rfl (by first | decide | omega) (show 0 ≤ x from by omega) rfl ?_
          refine ex_go (S := (73, [(2, .inl nn), (0, gx_r 383), (1, .inl x)], [.inl 0], t117, n, 0)) rfl (fun _ => rfl) rfl ?_
          refine ex_go (S := (74, [(3, .inl 0), (2, .inl nn), (0, gx_r 383), (1, .inl x)], [], t117, n, 0)) rfl (fun _ => rfl) rfl ?_
          refine ex_go (S := (75, [(3, .inl 0), (2, .inl nn), (0, gx_r 383), (1, .inl x)], [.inl 0], t117, n, 0)) rfl (fun _ => rfl) rfl ?_
          refine ex_go (S := (77, [(4, .inl 0), (3, .inl 0), (2, .inl nn), (0, gx_r 383), (1, .inl x)], [], t117, n, 0)) rfl (fun _ => rfl) rfl ?_
          have hxn : x < nn := by omega
          exact pe_cd_l g117 hn hxn (fun i hi => (e117 409 i (by first | decide | omega)).trans (((e113 409 i (by first | decide | omega)).trans (e109 409 i (by first | decide | omega))).trans (ho106 i hi))) q3 q1 (fun v hv => ⟨_, rfl, _, t117, rfl, fun z => absurd ⟨by omega, Or.inr hxn⟩ z, fun _ z => absurd z (by first | decide | omega), fun _ => ⟨q, hq9, hv⟩⟩) nn 0 _ 0 (by first | decide | omega) (Or.inl ⟨rfl, fun i h => absurd h (Nat.not_lt_zero i)⟩) rfl rfl rfl rfl rfl
      · refine gx_2f (c := .ne) rfl (by first | decide | omega) (by first | decide | omega) hc12 rfl ?_
        refine ex_go (S := (52, [(2, .inl nn), (0, gx_r 383), (1, .inl x)], [.inl 1, .inl 0, gx_r 407], t109, n, 0)) rfl (fun _ => rfl) rfl ?_
        refine ex_go (S := (56, [(2, .inl nn), (0, gx_r 383), (1, .inl x)], [.inl 1, .inl 0, gx_r 407], t109, n, 0)) rfl (fun _ => rfl) rfl ?_
        refine gx_ap rfl (fun _ => rfl) g109 rfl rfl rfl (show 0 < 42 from by omega) (gx_run1 (show 0 < 42 from by omega)) (gx_full (by first | decide | omega)) rfl (fun t118 g118 k118 e118 => ?_)
        have k19 : ai_hv t118 389 7 = some (.inl nn) := (e118 389 7 (by first | decide | omega)).trans k10
        have k20 : ai_hv t118 383 0 = some (.inl 0) := (e118 383 0 (by first | decide | omega)).trans k11
        have k21 : ai_hv t118 383 38 = some (.inl 4294967295) := (e118 383 38 (by first | decide | omega)).trans k109
        refine ex_go (S := (58, [(2, .inl nn), (0, gx_r 383), (1, .inl x)], [gx_r 383], t118, n, 0)) rfl (fun _ => rfl) rfl ?_
        refine ex_go (S := (59, [(2, .inl nn), (0, gx_r 383), (1, .inl x)], [.inl 1, gx_r 383], t118, n, 0)) rfl (fun _ => rfl) rfl ?_
        refine ex_go (S := (60, [(2, .inl nn), (0, gx_r 383), (1, .inl x)], [.inl nn, .inl 1, gx_r 383], t118, n, 0)) rfl (fun _ => rfl) rfl ?_
        have hl0 : cdl0 nn = [1] := if_pos (by first | decide | omega)
        have hG9 := pe_gr (d + 8 - nn) n (nn := nn) (O := O) (od := ordl O nn) (by first | decide | omega) hn hO (fun i hi => ordl_lt nn i hi) (nn - 1) 1 (by first | decide | omega) (by decide)
        rw [show d + 8 - nn + 2 + (nn - 1) = d + 9 by omega] at hG9
        obtain ⟨_, r122, t122, rfl, g122, e122, hB122⟩ := hG9 (cdl0 nn) none t118 (by rw [hl0]; rfl) (fun i hi => by
          have e9 : i = 0 := by omega
          rw [hl0, e9]; decide) g118 (fun i hi => ((((e118 389 (134 + i) (by first | decide | omega)).trans (e109 389 (134 + i) (by first | decide | omega))).trans (e106 389 (134 + i) (by first | decide | omega))).trans (e101 389 (134 + i) (by first | decide | omega))).trans (kO i hi)) (fun i hi => ((e118 409 i (by first | decide | omega)).trans (e109 409 i (by first | decide | omega))).trans (ho106 i hi)) (fun i hi => by
          have e9 : i = 0 := by omega
          rw [hl0, e9]; exact k118) (show ai_hv t118 383 38 = some (.inl 4294967295) from k21)
        have hne : ∃ q, cdb O nn = some q := by
          unfold cdb
          obtain ⟨q, a, -⟩ := upb_foldn (O := O) (od := ordl O nn) (n := nn) (L := rlv (nn - 1) (cdl0 nn)) (by
            rcases (show nn = 1 ∨ nn = 2 ∨ nn = 3 ∨ nn = 4 ∨ nn = 5 ∨ nn = 6 by omega) with rfl | rfl | rfl | rfl | rfl | rfl
            · rw [show rlv (1 - 1) (cdl0 1) = cdR1 from cdR1_e]; decide
            · rw [show rlv (2 - 1) (cdl0 2) = cdR2 from cdR2_e]; decide
            · rw [show rlv (3 - 1) (cdl0 3) = cdR3 from cdR3_e]; decide
            · rw [show rlv (4 - 1) (cdl0 4) = cdR4 from cdR4_e]; decide
            · rw [show rlv (5 - 1) (cdl0 5) = cdR5 from cdR5_e]; decide
            · rw [show rlv (6 - 1) (cdl0 6) = cdR6 from cdR6_e]; decide)
          exact ⟨q, a⟩
        obtain ⟨q, hq9⟩ := hne
        have hB9 : RBs t122 O (ordl O nn) nn (some q) := by rw [← hq9]; exact hB122
        obtain ⟨q0, q1, q2, q3⟩ := hB9
        have hwq := wsm_le (O := O) (od := ordl O nn) (r := q) nn q1 (fun i hi => hO _ (ordl_lt nn i hi))
        refine gx_call0 rfl rfl g118 rfl rfl r122 rfl ?_
        show en_ex _ _ _ _ (63, [(2, .inl nn), (0, gx_r 383), (1, .inl x)], [], t122, n, 0) _
        refine ex_go (S := (64, [(2, .inl nn), (0, gx_r 383), (1, .inl x)], [.inl x], t122, n, 0)) rfl (fun _ => rfl) rfl ?_
        rcases (show x = 4294967295 ∨ x < nn by omega) with hx9 | hx9
        · refine gx_negf (c := .ge) rfl (by first | decide | omega) (by first | decide | omega) rfl rfl ?_
          refine ex_go (S := (68, [(2, .inl nn), (0, gx_r 383), (1, .inl x)], [gx_r 383], t122, n, 0)) rfl (fun _ => rfl) rfl ?_
          refine gx_get rfl g122 rfl q2 rfl ?_
          refine ex_ret (r := (some (.inl (wsm O (ordl O nn) q nn)), t122, n, 0)) rfl (fun _ => rfl) ?_
          have hx9 : x = 4294967295 := by omega
          exact ⟨_, rfl, _, t122, rfl, fun z => absurd ⟨by omega, Or.inl hx9⟩ z, fun _ _ => ⟨q, hq9, rfl⟩, fun z => absurd z (by first | decide | omega)⟩
        · refine gx_1t (c := .ge) rfl (by first | decide | omega) (show 0 ≤ x from by omega) rfl ?_
          refine ex_go (S := (73, [(2, .inl nn), (0, gx_r 383), (1, .inl x)], [.inl 0], t122, n, 0)) rfl (fun _ => rfl) rfl ?_
          refine ex_go (S := (74, [(3, .inl 0), (2, .inl nn), (0, gx_r 383), (1, .inl x)], [], t122, n, 0)) rfl (fun _ => rfl) rfl ?_
          refine ex_go (S := (75, [(3, .inl 0), (2, .inl nn), (0, gx_r 383), (1, .inl x)], [.inl 0], t122, n, 0)) rfl (fun _ => rfl) rfl ?_
          refine ex_go (S := (77, [(4, .inl 0), (3, .inl 0), (2, .inl nn), (0, gx_r 383), (1, .inl x)], [], t122, n, 0)) rfl (fun _ => rfl) rfl ?_
          have hxn : x < nn := by omega
          exact pe_cd_l g122 hn hxn (fun i hi => (e122 409 i (by first | decide | omega)).trans (((e118 409 i (by first | decide | omega)).trans (e109 409 i (by first | decide | omega))).trans (ho106 i hi))) q3 q1 (fun v hv => ⟨_, rfl, _, t122, rfl, fun z => absurd ⟨by omega, Or.inr hxn⟩ z, fun _ z => absurd z (by first | decide | omega), fun _ => ⟨q, hq9, hv⟩⟩) nn 0 _ 0 (by first | decide | omega) (Or.inl ⟨rfl, fun i h => absurd h (Nat.not_lt_zero i)⟩) rfl rfl rfl rfl rfl
    · refine gx_1f (c := .ne) rfl (by first | decide | omega) hc5 rfl ?_
      refine ex_go (S := (30, [(2, .inl nn), (0, gx_r 383), (1, .inl x)], [.inl 4294967294], t101, n, 0)) rfl (fun _ => rfl) rfl ?_
      refine ex_ret (r := (some (.inl 4294967294), t101, n, 0)) rfl (fun _ => rfl) ?_
      exact ⟨_, rfl, _, t101, rfl, fun _ => rfl, fun z1 z2 => absurd z1 (by first | decide | omega), fun z => absurd z (by first | decide | omega)⟩
theorem gx_2mmf {oc : Option (List en_V)} {f : en_F} {code : Nat → Option en_I} {stop : Nat → Bool} {P : en_O → Prop} {pc nx : Nat} {ls : en_L} {st : List en_V} {t : en_H} {n sl : Nat} {c : ClassFile.Cond} {j : Int} {x1 x2 x : Nat} (hc : code pc = some (.if_icmp c j, nx, x1, x2)) (h1 : 2147483648 ≤ x) (h2 : x < 4294967295) (hr : ai_rel c (0, 2147483646) (2147483647, 2147483647) = some false) (hp : stop nx = false) (h : en_ex oc f code stop (nx, ls, st, t, n, sl) P) : en_ex oc f code stop (pc, ls, .inl 4294967295 :: .inl x :: st, t, n, sl) P := by
  obtain ⟨b, hb, h3⟩ := ai_rel_ok (c := c) (p := (0, 2147483646)) (q := (2147483647, 2147483647)) (x := x) (y := 4294967295) ⟨by omega, Nat.zero_le _, by unfold ai_off; show _ ≤ 2147483646; omega⟩ ⟨by decide, by decide, by decide⟩
  exact ex_cmp2 (r := false) hc (by rw [hb, h3 _ hr]) hp h
theorem ltf_insl {L : List Nat} {x k i : Nat} (hL : L.length = k) (h : i < k + 1) : ltf (insl x L) i = inp (ltf L) x (wlp (gtp (ltf L) x) k) i := by
  subst hL
  exact ltf_lof h
theorem crem_le {l : List Nat} {p i B : Nat} (h : ∀ i, i < l.length → ltf l i ≤ B) (hi : i < l.length - 1) : crem l p i ≤ B := by
  unfold crem
  split
  · exact h i (by first | decide | omega)
  · exact h (i + 1) (by first | decide | omega)
theorem pc_insl_l {fn : en_F} {n : Nat} {tb : en_H} {k : Nat} {f : Nat → Nat} {m x : Nat} {Q : en_O → Prop} (hm : m < 7) (hk : k < 6) (hx : x ≤ 100) (hf : ∀ i, i < k → f i ≤ 100) (hQ : ∀ cl t1, ai_HG ah_G t1 → (∀ c i, ¬ (c = 181 + m ∧ i ≤ k) → ai_hv t1 c i = ai_hv tb c i) → (∀ i, i ≤ k → ai_hv t1 (181 + m) i = some (.inl (inp f x (wlp (gtp f x) k) i))) → en_ld cl 0 = some (gx_r (181 + m)) → en_ld cl 1 = some (.inl k) → en_ld cl 2 = some (.inl x) → en_ex none fn (en_code 278) (fun _ => false) (33, cl, [], t1, n, 0) Q) : ∀ j cl t0, j ≤ k → ai_HG ah_G t0 → (∀ c i, ¬ (c = 181 + m ∧ i ≤ k) → ai_hv t0 c i = ai_hv tb c i) → wlp (gtp f x) j = wlp (gtp f x) k → (∀ i, i < j → ai_hv t0 (181 + m) i = some (.inl (f i))) → (∀ i, j < i → i ≤ k → ai_hv t0 (181 + m) i = some (.inl (f (i - 1)))) → en_ld cl 0 = some (gx_r (181 + m)) → en_ld cl 1 = some (.inl k) → en_ld cl 2 = some (.inl x) → en_ld cl 3 = some (.inl j) → en_ex none fn (en_code 278) (fun _ => false) (2, cl, [], t0, n, 0) Q := by
  intro j
  induction j with
  | zero =>
    intro cl t0 hj g0 e0 hw hlo hhi h0 h1 h2 h3
    refine gx_ld (i := 3) (d := 0) (v := .inl 0) rfl (fun _ => rfl) h3 rfl rfl ?_
    refine ex_go (S := (29, cl, [], t0, n, 0)) rfl (fun _ => rfl) rfl ?_
    refine gx_ld (i := 0) (d := 2) (v := gx_r (181 + m)) rfl (fun _ => rfl) h0 rfl rfl ?_
    refine gx_ld (i := 3) (d := 0) (v := .inl 0) rfl (fun _ => rfl) h3 rfl rfl ?_
    refine gx_ld (i := 2) (d := 0) (v := .inl x) rfl (fun _ => rfl) h2 rfl rfl ?_
    refine gx_ap (c := 181 + m) rfl (fun _ => rfl) g0 (lst_G (by first | decide | omega)) rfl rfl (show 0 < 6 from by omega) (gx_run1 (show 0 < 6 from by omega)) (gx_full (by first | decide | omega)) rfl (fun t101 g101 k101 e101 => ?_)
    have hw0 : wlp (gtp f x) k = 0 := hw.symm
    exact hQ _ t101 g101 (fun c i h => (e101 c i (by first | decide | omega)).trans (e0 c i (by first | decide | omega))) (fun i hi => by
      rw [hw0]
      by_cases e9 : i = 0
      · rw [e9, inp_eq]; exact k101
      · rw [inp_gt (by first | decide | omega)]; exact (e101 (181 + m) i (by first | decide | omega)).trans (hhi i (by first | decide | omega) hi)) h0 h1 h2
  | succ j ih =>
    intro cl t0 hj g0 e0 hw hlo hhi h0 h1 h2 h3
    refine gx_ld (i := 3) (d := 0) (v := .inl (j + 1)) rfl (fun _ => rfl) h3 rfl rfl ?_
    refine gx_1f (c := .le) rfl (by first | decide | omega) (show ¬ (j + 1 ≤ 0) from by omega) rfl ?_
    refine gx_ld (i := 0) (d := 2) (v := gx_r (181 + m)) rfl (fun _ => rfl) h0 rfl rfl ?_
    refine gx_ld (i := 3) (d := 0) (v := .inl (j + 1)) rfl (fun _ => rfl) h3 rfl rfl ?_
    refine ex_go (S := (9, cl, [.inl 1, .inl (j + 1), gx_r (181 + m)], t0, n, 0)) rfl (fun _ => rfl) rfl ?_
    refine gx_isub rfl (by first | decide | omega) (by first | decide | omega) rfl ?_
    show en_ex _ _ _ _ (10, cl, [.inl j, gx_r (181 + m)], t0, n, 0) _
    have hf9 := hf j (by first | decide | omega)
    refine gx_ag (c := 181 + m) (v := .inl (f j)) (cb := fun c => Nat.beq c 0) rfl (fun _ => rfl) g0 (lst_G (by first | decide | omega)) rfl (hlo j (by first | decide | omega)) (by first | decide | omega) rfl ?_
    refine gx_ld (i := 2) (d := 0) (v := .inl x) rfl (fun _ => rfl) h2 rfl rfl ?_
    by_cases hc1 : f j ≤ x
    · refine gx_2t (c := .le) rfl (by first | decide | omega) (by first | decide | omega) hc1 rfl ?_
      refine gx_ld (i := 0) (d := 2) (v := gx_r (181 + m)) rfl (fun _ => rfl) h0 rfl rfl ?_
      refine gx_ld (i := 3) (d := 0) (v := .inl (j + 1)) rfl (fun _ => rfl) h3 rfl rfl ?_
      refine gx_ld (i := 2) (d := 0) (v := .inl x) rfl (fun _ => rfl) h2 rfl rfl ?_
      refine gx_ap (c := 181 + m) rfl (fun _ => rfl) g0 (lst_G (by first | decide | omega)) rfl rfl (show j + 1 < 6 from by omega) (gx_run1 (show j + 1 < 6 from by omega)) (gx_full (by first | decide | omega)) rfl (fun t102 g102 k102 e102 => ?_)
      have hP9 : (gtp f x) j = false := decide_eq_false (by first | decide | omega)
      have hw0 : wlp (gtp f x) k = j + 1 := hw.symm.trans (wlp_f hP9)
      exact hQ _ t102 g102 (fun c i h => (e102 c i (by first | decide | omega)).trans (e0 c i (by first | decide | omega))) (fun i hi => by
        rw [hw0]
        rcases Nat.lt_trichotomy i (j + 1) with e9 | e9 | e9
        · rw [inp_lt e9]; exact (e102 (181 + m) i (by first | decide | omega)).trans (hlo i e9)
        · rw [e9, inp_eq]; exact k102
        · rw [inp_gt e9]; exact (e102 (181 + m) i (by first | decide | omega)).trans (hhi i e9 hi)) h0 h1 h2
    · refine gx_2f (c := .le) rfl (by first | decide | omega) (by first | decide | omega) hc1 rfl ?_
      refine gx_ld (i := 0) (d := 2) (v := gx_r (181 + m)) rfl (fun _ => rfl) h0 rfl rfl ?_
      refine gx_ld (i := 3) (d := 0) (v := .inl (j + 1)) rfl (fun _ => rfl) h3 rfl rfl ?_
      refine gx_ld (i := 0) (d := 2) (v := gx_r (181 + m)) rfl (fun _ => rfl) h0 rfl rfl ?_
      refine gx_ld (i := 3) (d := 0) (v := .inl (j + 1)) rfl (fun _ => rfl) h3 rfl rfl ?_
      refine ex_go (S := (20, cl, [.inl 1, .inl (j + 1), gx_r (181 + m), .inl (j + 1), gx_r (181 + m)], t0, n, 0)) rfl (fun _ => rfl) rfl ?_
      refine gx_isub rfl (by first | decide | omega) (by first | decide | omega) rfl ?_
      show en_ex _ _ _ _ (21, cl, [.inl j, gx_r (181 + m), .inl (j + 1), gx_r (181 + m)], t0, n, 0) _
      refine gx_ag (c := 181 + m) (v := .inl (f j)) (cb := fun c => Nat.beq c 0) rfl (fun _ => rfl) g0 (lst_G (by first | decide | omega)) rfl (hlo j (by first | decide | omega)) (by first | decide | omega) rfl ?_
      refine gx_ap (c := 181 + m) rfl (fun _ => rfl) g0 (lst_G (by first | decide | omega)) rfl rfl (show j + 1 < 6 from by omega) (gx_run1 (show j + 1 < 6 from by omega)) (gx_full (by first | decide | omega)) rfl (fun t103 g103 k103 e103 => ?_)
      refine gx_decS (i := 3) (a := j + 1) rfl (fun _ => rfl) h3 (by first | decide | omega) (by first | decide | omega) rfl (fun l4 hl4 ml4 => ?_)
      have l4_0 : en_ld l4 0 = some (gx_r (181 + m)) := ml4 0 _ h0 rfl
      have l4_1 : en_ld l4 1 = some (.inl k) := ml4 1 _ h1 rfl
      have l4_2 : en_ld l4 2 = some (.inl x) := ml4 2 _ h2 rfl
      refine ex_go (S := (2, l4, [], t103, n, 0)) rfl (fun _ => rfl) rfl ?_
      have hP9 : (gtp f x) j = true := decide_eq_true (show x < f j from by omega)
      exact ih _ t103 (by first | decide | omega) g103 (fun c i h => (e103 c i (by first | decide | omega)).trans (e0 c i (by first | decide | omega))) ((wlp_t hP9).symm.trans hw) (fun i hi => (e103 (181 + m) i (by first | decide | omega)).trans (hlo i (by first | decide | omega))) (fun i h1 h2 => by
        by_cases e9 : i = j + 1
        · rw [e9]; exact k103
        · exact (e103 (181 + m) i (by first | decide | omega)).trans (hhi i (by first | decide | omega) h2)) l4_0 l4_1 l4_2 hl4
theorem pc_insl (d n : Nat) {t0 : en_H} {m k x : Nat} {f : Nat → Nat} (g0 : ai_HG ah_G t0) (hm : m < 7) (hk : k < 6) (hx : x ≤ 100) (hf : ∀ i, i < k → f i ≤ 100) (kf : ∀ i, i < k → ai_hv t0 (181 + m) i = some (.inl (f i))) : ∃ r, en_u (d + 1) 278 [gx_r (181 + m), .inl k, .inl x] t0 n = some r ∧ ∃ t', r = (none, t', n, 0) ∧ ai_HG ah_G t' ∧ (∀ c i, ¬ (c = 181 + m ∧ i ≤ k) → ai_hv t' c i = ai_hv t0 c i) ∧ ∀ i, i ≤ k → ai_hv t' (181 + m) i = some (.inl (inp f x (wlp (gtp f x) k) i)) := by
  refine en_u_ex rfl ?_
  show en_ex _ _ _ _ (0, [(0, gx_r (181 + m)), (1, .inl k), (2, .inl x)], [], t0, n, 0) _
  refine ex_go (S := (1, [(0, gx_r (181 + m)), (1, .inl k), (2, .inl x)], [.inl k], t0, n, 0)) rfl (fun _ => rfl) rfl ?_
  refine ex_go (S := (2, [(3, .inl k), (0, gx_r (181 + m)), (1, .inl k), (2, .inl x)], [], t0, n, 0)) rfl (fun _ => rfl) rfl ?_
  refine pc_insl_l (tb := t0) (m := m) (x := x) hm hk hx hf (fun cl t1 g1 e1 hc h0 h1 h2 => ?_) k _ t0 (Nat.le_refl _) g0 (fun _ _ _ => rfl) rfl kf (fun i h1 h2 => absurd h2 (by first | decide | omega)) rfl rfl rfl rfl
  refine ex_ret (r := (none, t1, n, 0)) rfl (fun _ => rfl) ?_
  exact ⟨_, rfl, t1, rfl, g1, e1, hc⟩
theorem pc_pl_l {fn : en_F} {n : Nat} {tb : en_H} {m p9 : Nat} {l : List Nat} {Q : en_O → Prop} (hm : m ≤ 5) (hp : p9 < m) (kl : ∀ i, i < m → ai_hv tb (181 + m) i = some (.inl (ltf l i))) (hl : ∀ i, i < m → ltf l i ≤ 12) (hQ : ∀ cl t1, ai_HG ah_G t1 → (∀ c i, c ≠ 181 + (m + 1) → ai_hv t1 c i = ai_hv tb c i) → (∀ q, q < m - 1 → ai_hv t1 (181 + (m + 1)) q = some (.inl (crem l p9 q))) → en_ld cl 0 = some (gx_r 144) → en_ld cl 1 = some (.inl m) → en_ld cl 2 = some (.inl p9) → en_ld cl 3 = some (gx_r (181 + m)) → en_ld cl 4 = some (gx_r (181 + (m + 1))) → en_ld cl 5 = some (.inl (m - 1)) → en_ex none fn (en_code 258) (fun _ => false) (53, cl, [], t1, n, 0) Q) : ∀ j i a cl t0, i + j = m → (i ≤ p9 ∧ a = i) ∨ (p9 < i ∧ a + 1 = i) → ai_HG ah_G t0 → (∀ c i, c ≠ 181 + (m + 1) → ai_hv t0 c i = ai_hv tb c i) → (∀ q, q < a → ai_hv t0 (181 + (m + 1)) q = some (.inl (crem l p9 q))) → en_ld cl 0 = some (gx_r 144) → en_ld cl 1 = some (.inl m) → en_ld cl 2 = some (.inl p9) → en_ld cl 3 = some (gx_r (181 + m)) → en_ld cl 4 = some (gx_r (181 + (m + 1))) → en_ld cl 5 = some (.inl a) → en_ld cl 6 = some (.inl i) → en_ex none fn (en_code 258) (fun _ => false) (23, cl, [], t0, n, 0) Q := by
  intro j
  induction j with
  | zero =>
    intro i a cl t0 hj ha g0 e0 hc h0 h1 h2 h3 h4 h5 h6
    have hi : i = m := by omega
    have ha9 : a = m - 1 := by omega
    rw [ha9] at hc h5
    refine gx_ld (i := 6) (d := 0) (v := .inl i) rfl (fun _ => rfl) h6 rfl rfl ?_
    refine gx_ld (i := 1) (d := 0) (v := .inl m) rfl (fun _ => rfl) h1 rfl rfl ?_
    refine gx_2t (c := .ge) rfl (by first | decide | omega) (by first | decide | omega) (show m ≤ i from by omega) rfl ?_
    exact hQ _ t0 g0 e0 hc h0 h1 h2 h3 h4 h5
  | succ j ih =>
    intro i a cl t0 hj ha g0 e0 hc h0 h1 h2 h3 h4 h5 h6
    have hli := hl i (by first | decide | omega)
    refine gx_ld (i := 6) (d := 0) (v := .inl i) rfl (fun _ => rfl) h6 rfl rfl ?_
    refine gx_ld (i := 1) (d := 0) (v := .inl m) rfl (fun _ => rfl) h1 rfl rfl ?_
    refine gx_2f (c := .ge) rfl (by first | decide | omega) (by first | decide | omega) (show ¬ (m ≤ i) from by omega) rfl ?_
    refine gx_ld (i := 6) (d := 0) (v := .inl i) rfl (fun _ => rfl) h6 rfl rfl ?_
    refine gx_ld (i := 2) (d := 0) (v := .inl p9) rfl (fun _ => rfl) h2 rfl rfl ?_
    by_cases hc1 : i = p9
    · refine gx_2t (c := .eq) rfl (by first | decide | omega) (by first | decide | omega) hc1 rfl ?_
      refine gx_incS (i := 6) (a := i) (x := 1) rfl (fun _ => rfl) h6 (by first | decide | omega) rfl (fun l2 hl2 ml2 => ?_)
      have l2_0 : en_ld l2 0 = some (gx_r 144) := ml2 0 _ h0 rfl
      have l2_1 : en_ld l2 1 = some (.inl m) := ml2 1 _ h1 rfl
      have l2_2 : en_ld l2 2 = some (.inl p9) := ml2 2 _ h2 rfl
      have l2_3 : en_ld l2 3 = some (gx_r (181 + m)) := ml2 3 _ h3 rfl
      have l2_4 : en_ld l2 4 = some (gx_r (181 + (m + 1))) := ml2 4 _ h4 rfl
      have l2_5 : en_ld l2 5 = some (.inl a) := ml2 5 _ h5 rfl
      refine ex_go (S := (23, l2, [], t0, n, 0)) rfl (fun _ => rfl) rfl ?_
      exact ih (i + 1) a _ t0 (by first | decide | omega) (by first | decide | omega) g0 e0 hc l2_0 l2_1 l2_2 l2_3 l2_4 l2_5 hl2
    · refine gx_2f (c := .eq) rfl (by first | decide | omega) (by first | decide | omega) hc1 rfl ?_
      refine gx_ld (i := 4) (d := 2) (v := gx_r (181 + (m + 1))) rfl (fun _ => rfl) h4 rfl rfl ?_
      refine gx_ld (i := 5) (d := 0) (v := .inl a) rfl (fun _ => rfl) h5 rfl rfl ?_
      refine gx_ld (i := 3) (d := 2) (v := gx_r (181 + m)) rfl (fun _ => rfl) h3 rfl rfl ?_
      refine gx_ld (i := 6) (d := 0) (v := .inl i) rfl (fun _ => rfl) h6 rfl rfl ?_
      refine gx_ag (c := 181 + m) (v := .inl (ltf l i)) (cb := fun c => Nat.beq c 0) rfl (fun _ => rfl) g0 (lst_G (by first | decide | omega)) rfl ((e0 (181 + m) i (by first | decide | omega)).trans (kl i (by first | decide | omega))) (by first | decide | omega) rfl ?_
      refine gx_ap (c := 181 + (m + 1)) rfl (fun _ => rfl) g0 (lst_G (by first | decide | omega)) rfl rfl (show a < 6 from by omega) (gx_run1 (show a < 6 from by omega)) (gx_full (by first | decide | omega)) rfl (fun t103 g103 k103 e103 => ?_)
      refine gx_incS (i := 5) (a := a) (x := 1) rfl (fun _ => rfl) h5 (by first | decide | omega) rfl (fun l4 hl4 ml4 => ?_)
      have l4_0 : en_ld l4 0 = some (gx_r 144) := ml4 0 _ h0 rfl
      have l4_1 : en_ld l4 1 = some (.inl m) := ml4 1 _ h1 rfl
      have l4_2 : en_ld l4 2 = some (.inl p9) := ml4 2 _ h2 rfl
      have l4_3 : en_ld l4 3 = some (gx_r (181 + m)) := ml4 3 _ h3 rfl
      have l4_4 : en_ld l4 4 = some (gx_r (181 + (m + 1))) := ml4 4 _ h4 rfl
      have l4_6 : en_ld l4 6 = some (.inl i) := ml4 6 _ h6 rfl
      refine gx_incS (i := 6) (a := i) (x := 1) rfl (fun _ => rfl) l4_6 (by first | decide | omega) rfl (fun l5 hl5 ml5 => ?_)
      have l5_0 : en_ld l5 0 = some (gx_r 144) := ml5 0 _ l4_0 rfl
      have l5_1 : en_ld l5 1 = some (.inl m) := ml5 1 _ l4_1 rfl
      have l5_2 : en_ld l5 2 = some (.inl p9) := ml5 2 _ l4_2 rfl
      have l5_3 : en_ld l5 3 = some (gx_r (181 + m)) := ml5 3 _ l4_3 rfl
      have l5_4 : en_ld l5 4 = some (gx_r (181 + (m + 1))) := ml5 4 _ l4_4 rfl
      have l5_5 : en_ld l5 5 = some (.inl (a + 1)) := ml5 5 _ hl4 rfl
      refine ex_go (S := (23, l5, [], t103, n, 0)) rfl (fun _ => rfl) rfl ?_
      have hcr : crem l p9 a = ltf l i := by
        rcases ha with ⟨a1, a2⟩ | ⟨a1, a2⟩
        · rw [a2]; exact if_pos (by first | decide | omega)
        · rw [← a2]; exact if_neg (by first | decide | omega)
      exact ih (i + 1) (a + 1) _ t103 (by first | decide | omega) (by first | decide | omega) g103 (fun c q h => (e103 c q (by first | decide | omega)).trans (e0 c q (by first | decide | omega))) (fun q hq => by
        by_cases e9 : q = a
        · rw [e9, hcr]; exact k103
        · exact (e103 (181 + (m + 1)) q (by first | decide | omega)).trans (hc q (by first | decide | omega))) l5_0 l5_1 l5_2 l5_3 l5_4 l5_5 hl5
theorem pc_parl (d n : Nat) {t0 : en_H} {m p9 : Nat} {l : List Nat} (g0 : ai_HG ah_G t0) (hR : LR t0) (hm : m ≤ 5) (hp : p9 < m) (hll : l.length = m) (kl : ∀ i, i < m → ai_hv t0 (181 + m) i = some (.inl (ltf l i))) (hl : ∀ i, i < m → ltf l i ≤ 12) : ∃ r, en_u (d + 2) 258 [gx_r 144, .inl m, .inl p9] t0 n = some r ∧ ∃ t', r = (none, t', n, 0) ∧ ai_HG ah_G t' ∧ (∀ c i, c ≠ 181 + (m + 1) → ai_hv t' c i = ai_hv t0 c i) ∧ ∀ i, i < m + 1 → ai_hv t' (181 + (m + 1)) i = some (.inl (ltf (ckid l p9) i)) := by
  refine en_u_ex (d := d + 1) rfl ?_
  show en_ex _ _ _ _ (0, [(0, gx_r 144), (1, .inl m), (2, .inl p9)], [], t0, n, 0) _
  refine ex_go (S := (1, [(0, gx_r 144), (1, .inl m), (2, .inl p9)], [gx_r 144], t0, n, 0)) rfl (fun _ => rfl) rfl ?_
  refine gxo_ref (a := 144) (c := 180) rfl g0 rfl rfl rfl rfl rfl ?_
  refine ex_go (S := (5, [(0, gx_r 144), (1, .inl m), (2, .inl p9)], [.inl m, gx_r 180], t0, n, 0)) rfl (fun _ => rfl) rfl ?_
  refine gx_ag (v := gx_r (181 + m)) (cb := fun c => Nat.ble 4 c && Nat.ble c 7) rfl (fun _ => rfl) g0 rfl rfl (hR m (by first | decide | omega)) (by first | decide | omega) rfl ?_
  refine ex_go (S := (7, [(3, gx_r (181 + m)), (0, gx_r 144), (1, .inl m), (2, .inl p9)], [], t0, n, 0)) rfl (fun _ => rfl) rfl ?_
  refine ex_go (S := (8, [(3, gx_r (181 + m)), (0, gx_r 144), (1, .inl m), (2, .inl p9)], [gx_r 144], t0, n, 0)) rfl (fun _ => rfl) rfl ?_
  refine gxo_ref (a := 144) (c := 180) rfl g0 rfl rfl rfl rfl rfl ?_
  refine ex_go (S := (12, [(3, gx_r (181 + m)), (0, gx_r 144), (1, .inl m), (2, .inl p9)], [.inl m, gx_r 180], t0, n, 0)) rfl (fun _ => rfl) rfl ?_
  refine ex_go (S := (13, [(3, gx_r (181 + m)), (0, gx_r 144), (1, .inl m), (2, .inl p9)], [.inl 1, .inl m, gx_r 180], t0, n, 0)) rfl (fun _ => rfl) rfl ?_
  refine ex_iadd rfl (by first | decide | omega) rfl ?_
  refine gx_ag (v := gx_r (181 + (m + 1))) (cb := fun c => Nat.ble 4 c && Nat.ble c 7) rfl (fun _ => rfl) g0 rfl rfl (hR (m + 1) (by first | decide | omega)) (by first | decide | omega) rfl ?_
  refine ex_go (S := (17, [(4, gx_r (181 + (m + 1))), (3, gx_r (181 + m)), (0, gx_r 144), (1, .inl m), (2, .inl p9)], [], t0, n, 0)) rfl (fun _ => rfl) rfl ?_
  refine ex_go (S := (18, [(4, gx_r (181 + (m + 1))), (3, gx_r (181 + m)), (0, gx_r 144), (1, .inl m), (2, .inl p9)], [.inl 0], t0, n, 0)) rfl (fun _ => rfl) rfl ?_
  refine ex_go (S := (20, [(5, .inl 0), (4, gx_r (181 + (m + 1))), (3, gx_r (181 + m)), (0, gx_r 144), (1, .inl m), (2, .inl p9)], [], t0, n, 0)) rfl (fun _ => rfl) rfl ?_
  refine ex_go (S := (21, [(5, .inl 0), (4, gx_r (181 + (m + 1))), (3, gx_r (181 + m)), (0, gx_r 144), (1, .inl m), (2, .inl p9)], [.inl 0], t0, n, 0)) rfl (fun _ => rfl) rfl ?_
  refine ex_go (S := (23, [(6, .inl 0), (5, .inl 0), (4, gx_r (181 + (m + 1))), (3, gx_r (181 + m)), (0, gx_r 144), (1, .inl m), (2, .inl p9)], [], t0, n, 0)) rfl (fun _ => rfl) rfl ?_
  refine pc_pl_l (tb := t0) (l := l) hm hp kl hl (fun cl t1 g1 e1 hc h0 h1 h2 h3 h4 h5 => ?_) m 0 0 _ t0 (by first | decide | omega) (Or.inl ⟨Nat.zero_le _, rfl⟩) g0 (fun _ _ _ => rfl) (fun q h => absurd h (Nat.not_lt_zero q)) rfl rfl rfl rfl rfl rfl rfl
  have hlp := hl p9 hp
  have hn1 : (lof (crem l p9) (m - 1)).length = m - 1 := lof_len
  have hc1 : ∀ i, i < m - 1 → ai_hv t1 (181 + (m + 1)) i = some (.inl (ltf (lof (crem l p9) (m - 1)) i)) := fun i hi => by rw [ltf_lof hi]; exact hc i hi
  have hb1 : ∀ i, i < m - 1 → ltf (lof (crem l p9) (m - 1)) i ≤ 100 := fun i hi => by
    rw [ltf_lof hi]
    exact crem_le (fun q hq => by have := hl q (by first | decide | omega); omega) (by first | decide | omega)
  refine gx_ld (i := 4) (d := 2) (v := gx_r (181 + (m + 1))) rfl (fun _ => rfl) h4 rfl rfl ?_
  refine gx_ld (i := 5) (d := 0) (v := .inl (m - 1)) rfl (fun _ => rfl) h5 rfl rfl ?_
  refine gx_ld (i := 3) (d := 2) (v := gx_r (181 + m)) rfl (fun _ => rfl) h3 rfl rfl ?_
  refine gx_ld (i := 2) (d := 0) (v := .inl p9) rfl (fun _ => rfl) h2 rfl rfl ?_
  refine gx_ag (c := 181 + m) (v := .inl (ltf l p9)) (cb := fun c => Nat.beq c 0) rfl (fun _ => rfl) g1 (lst_G (by first | decide | omega)) rfl ((e1 (181 + m) p9 (by first | decide | omega)).trans (kl p9 hp)) (by first | decide | omega) rfl ?_
  refine ex_go (S := (61, cl, [.inl 1, .inl (ltf l p9), .inl (m - 1), gx_r (181 + (m + 1))], t1, n, 0)) rfl (fun _ => rfl) rfl ?_
  refine ex_iadd rfl (by first | decide | omega) rfl ?_
  obtain ⟨_, r101, t101, rfl, g101, e101, hi101⟩ := pc_insl d n (m := m + 1) (k := m - 1) (x := ltf l p9 + 1) (f := ltf (lof (crem l p9) (m - 1))) g1 (by first | decide | omega) (by first | decide | omega) (by first | decide | omega) hb1 hc1
  have hm9 : m - 1 + 1 = m := by omega
  have hn2 : (insl (ltf l p9 + 1) (lof (crem l p9) (m - 1))).length = m := insl_len.trans (by rw [hn1]; exact hm9)
  have hc2 : ∀ i, i < m → ai_hv t101 (181 + (m + 1)) i = some (.inl (ltf (insl (ltf l p9 + 1) (lof (crem l p9) (m - 1))) i)) := fun i hi => by
    rw [ltf_insl hn1 (by first | decide | omega)]
    exact hi101 i (by first | decide | omega)
  have hb2 : ∀ i, i < m → ltf (insl (ltf l p9 + 1) (lof (crem l p9) (m - 1))) i ≤ 100 := fun i hi => insl_le (by rw [hn1]; exact hb1) (by first | decide | omega) i (by rw [hn1]; omega)
  refine ex_stat rfl rfl rfl rfl rfl r101 (Nat.le_refl _) rfl ?_
  show en_ex _ _ _ _ (65, cl, [], t101, n, 0) _
  refine gx_ld (i := 4) (d := 2) (v := gx_r (181 + (m + 1))) rfl (fun _ => rfl) h4 rfl rfl ?_
  refine gx_ld (i := 5) (d := 0) (v := .inl (m - 1)) rfl (fun _ => rfl) h5 rfl rfl ?_
  refine ex_go (S := (70, cl, [.inl 1, .inl (m - 1), gx_r (181 + (m + 1))], t101, n, 0)) rfl (fun _ => rfl) rfl ?_
  refine ex_iadd rfl (by first | decide | omega) rfl ?_
  refine gx_ld (i := 3) (d := 2) (v := gx_r (181 + m)) rfl (fun _ => rfl) h3 rfl rfl ?_
  refine gx_ld (i := 2) (d := 0) (v := .inl p9) rfl (fun _ => rfl) h2 rfl rfl ?_
  refine gx_ag (c := 181 + m) (v := .inl (ltf l p9)) (cb := fun c => Nat.beq c 0) rfl (fun _ => rfl) g101 (lst_G (by first | decide | omega)) rfl (((e101 (181 + m) p9 (by first | decide | omega)).trans (e1 (181 + m) p9 (by first | decide | omega))).trans (kl p9 hp)) (by first | decide | omega) rfl ?_
  refine ex_go (S := (75, cl, [.inl 2, .inl (ltf l p9), .inl ((m - 1) + 1), gx_r (181 + (m + 1))], t101, n, 0)) rfl (fun _ => rfl) rfl ?_
  refine ex_iadd rfl (by first | decide | omega) rfl ?_
  rw [hm9]
  obtain ⟨_, r102, t102, rfl, g102, e102, hi102⟩ := pc_insl d n (m := m + 1) (k := m) (x := ltf l p9 + 2) (f := ltf (insl (ltf l p9 + 1) (lof (crem l p9) (m - 1)))) g101 (by first | decide | omega) (by first | decide | omega) (by first | decide | omega) hb2 hc2
  refine ex_stat rfl rfl rfl rfl rfl r102 (Nat.le_refl _) rfl ?_
  show en_ex _ _ _ _ (79, cl, [], t102, n, 0) _
  refine ex_ret (r := (none, t102, n, 0)) rfl (fun _ => rfl) ?_
  exact ⟨_, rfl, t102, rfl, g102, (fun c i h => ((e102 c i (by first | decide | omega)).trans (e101 c i (by first | decide | omega))).trans (e1 c i (by first | decide | omega))), fun i hi => by
    unfold ckid
    rw [hll, ltf_insl hn2 hi]
    exact hi102 i (by first | decide | omega)⟩
theorem pc_is_l {fn : en_F} {n : Nat} {t0 : en_H} {m nn : Nat} {r q : List Nat} {Q : en_O → Prop} (g0 : ai_HG ah_G t0) (hm : m < 7) (hn : nn ≤ 6) (kr : ∀ i, i < nn → ai_hv t0 (181 + m) i = some (.inl (ltf r i))) (hr : ∀ i, i < nn → ltf r i ≤ 12) (kq : ∀ i, i < nn → ai_hv t0 188 i = some (.inl (ltf q i))) (hq : ∀ i, i < nn → ltf q i ≤ 12) (hQ : ∀ b, b ≤ 1 → (b = 1 ↔ lxc r q nn = 1) → Q (.inl (some (.inl b), t0, n, 0))) : ∀ j k cl, k + j = nn → lxc r q k = 0 → en_ld cl 0 = some (gx_r 144) → en_ld cl 1 = some (gx_r (181 + m)) → en_ld cl 2 = some (.inl nn) → en_ld cl 3 = some (.inl k) → en_ex none fn (en_code 277) (fun _ => false) (2, cl, [], t0, n, 0) Q := by
  intro j
  induction j with
  | zero =>
    intro k cl hj hx h0 h1 h2 h3
    have hk : k = nn := by omega
    rw [hk] at hx
    refine gx_ld (i := 3) (d := 0) (v := .inl k) rfl (fun _ => rfl) h3 rfl rfl ?_
    refine gx_ld (i := 2) (d := 0) (v := .inl nn) rfl (fun _ => rfl) h2 rfl rfl ?_
    refine gx_2t (c := .ge) rfl (by first | decide | omega) (by first | decide | omega) (show nn ≤ k from by omega) rfl ?_
    refine ex_go (S := (44, cl, [.inl 0], t0, n, 0)) rfl (fun _ => rfl) rfl ?_
    refine ex_ret (r := (some (.inl 0), t0, n, 0)) rfl (fun _ => rfl) ?_
    exact hQ 0 (by decide) (by first | decide | omega)
  | succ j ih =>
    intro k cl hj hx h0 h1 h2 h3
    have hr9 := hr k (by first | decide | omega)
    have hq9 := hq k (by first | decide | omega)
    refine gx_ld (i := 3) (d := 0) (v := .inl k) rfl (fun _ => rfl) h3 rfl rfl ?_
    refine gx_ld (i := 2) (d := 0) (v := .inl nn) rfl (fun _ => rfl) h2 rfl rfl ?_
    refine gx_2f (c := .ge) rfl (by first | decide | omega) (by first | decide | omega) (show ¬ (nn ≤ k) from by omega) rfl ?_
    refine gx_ld (i := 1) (d := 2) (v := gx_r (181 + m)) rfl (fun _ => rfl) h1 rfl rfl ?_
    refine gx_ld (i := 3) (d := 0) (v := .inl k) rfl (fun _ => rfl) h3 rfl rfl ?_
    refine gx_ag (c := 181 + m) (v := .inl (ltf r k)) (cb := fun c => Nat.beq c 0) rfl (fun _ => rfl) g0 (lst_G (by first | decide | omega)) rfl (kr k (by first | decide | omega)) (by first | decide | omega) rfl ?_
    refine gx_ld (i := 0) (d := 2) (v := gx_r 144) rfl (fun _ => rfl) h0 rfl rfl ?_
    refine gxo_ref (a := 144) (c := 188) rfl g0 rfl rfl rfl rfl rfl ?_
    refine gx_ld (i := 3) (d := 0) (v := .inl k) rfl (fun _ => rfl) h3 rfl rfl ?_
    refine gx_ag (v := .inl (ltf q k)) (cb := fun c => Nat.beq c 0) rfl (fun _ => rfl) g0 rfl rfl (kq k (by first | decide | omega)) (by first | decide | omega) rfl ?_
    by_cases hc1 : ltf r k = ltf q k
    · refine gx_2t (c := .eq) rfl (by first | decide | omega) (by first | decide | omega) hc1 rfl ?_
      refine gx_incS (i := 3) (a := k) (x := 1) rfl (fun _ => rfl) h3 (by first | decide | omega) rfl (fun l2 hl2 ml2 => ?_)
      have l2_0 : en_ld l2 0 = some (gx_r 144) := ml2 0 _ h0 rfl
      have l2_1 : en_ld l2 1 = some (gx_r (181 + m)) := ml2 1 _ h1 rfl
      have l2_2 : en_ld l2 2 = some (.inl nn) := ml2 2 _ h2 rfl
      refine ex_go (S := (2, l2, [], t0, n, 0)) rfl (fun _ => rfl) rfl ?_
      exact ih (k + 1) _ (by first | decide | omega) (lxc_e hx (by first | decide | omega)) l2_0 l2_1 l2_2 hl2
    · refine gx_2f (c := .eq) rfl (by first | decide | omega) (by first | decide | omega) hc1 rfl ?_
      refine gx_ld (i := 1) (d := 2) (v := gx_r (181 + m)) rfl (fun _ => rfl) h1 rfl rfl ?_
      refine gx_ld (i := 3) (d := 0) (v := .inl k) rfl (fun _ => rfl) h3 rfl rfl ?_
      refine gx_ag (c := 181 + m) (v := .inl (ltf r k)) (cb := fun c => Nat.beq c 0) rfl (fun _ => rfl) g0 (lst_G (by first | decide | omega)) rfl (kr k (by first | decide | omega)) (by first | decide | omega) rfl ?_
      refine gx_ld (i := 0) (d := 2) (v := gx_r 144) rfl (fun _ => rfl) h0 rfl rfl ?_
      refine gxo_ref (a := 144) (c := 188) rfl g0 rfl rfl rfl rfl rfl ?_
      refine gx_ld (i := 3) (d := 0) (v := .inl k) rfl (fun _ => rfl) h3 rfl rfl ?_
      refine gx_ag (v := .inl (ltf q k)) (cb := fun c => Nat.beq c 0) rfl (fun _ => rfl) g0 rfl rfl (kq k (by first | decide | omega)) (by first | decide | omega) rfl ?_
      by_cases hc3 : ltf q k ≤ ltf r k
      · refine gx_2t (c := .ge) rfl (by first | decide | omega) (by first | decide | omega) hc3 rfl ?_
        refine ex_go (S := (36, cl, [.inl 0], t0, n, 0)) rfl (fun _ => rfl) rfl ?_
        refine ex_ret (r := (some (.inl 0), t0, n, 0)) rfl (fun _ => rfl) ?_
        have ho9 := lxc_on (r := r) (q := q) (k := k + 1) (by rw [lxc_g hx (by first | decide | omega)]; decide) j
        rw [show k + 1 + j = nn by omega, lxc_g hx (by first | decide | omega)] at ho9
        exact hQ 0 (by decide) (by first | decide | omega)
      · refine gx_2f (c := .ge) rfl (by first | decide | omega) (by first | decide | omega) hc3 rfl ?_
        refine ex_go (S := (32, cl, [.inl 1], t0, n, 0)) rfl (fun _ => rfl) rfl ?_
        refine ex_go (S := (36, cl, [.inl 1], t0, n, 0)) rfl (fun _ => rfl) rfl ?_
        refine ex_ret (r := (some (.inl 1), t0, n, 0)) rfl (fun _ => rfl) ?_
        have ho9 := lxc_on (r := r) (q := q) (k := k + 1) (by rw [lxc_l hx (by first | decide | omega)]; decide) j
        rw [show k + 1 + j = nn by omega, lxc_l hx (by first | decide | omega)] at ho9
        exact hQ 1 (by decide) (by first | decide | omega)
theorem pc_isShorter (d n : Nat) {t0 : en_H} {m nn : Nat} {r q : List Nat} (g0 : ai_HG ah_G t0) (hm : m < 7) (hn : nn ≤ 6) (kr : ∀ i, i < nn → ai_hv t0 (181 + m) i = some (.inl (ltf r i))) (hr : ∀ i, i < nn → ltf r i ≤ 12) (kq : ∀ i, i < nn → ai_hv t0 188 i = some (.inl (ltf q i))) (hq : ∀ i, i < nn → ltf q i ≤ 12) : ∃ r', en_u (d + 1) 277 [gx_r 144, gx_r (181 + m), .inl nn] t0 n = some r' ∧ ∃ b, r' = (some (.inl b), t0, n, 0) ∧ b ≤ 1 ∧ (b = 1 ↔ lxc r q nn = 1) := by
  refine en_u_ex rfl ?_
  show en_ex _ _ _ _ (0, [(0, gx_r 144), (1, gx_r (181 + m)), (2, .inl nn)], [], t0, n, 0) _
  refine ex_go (S := (1, [(0, gx_r 144), (1, gx_r (181 + m)), (2, .inl nn)], [.inl 0], t0, n, 0)) rfl (fun _ => rfl) rfl ?_
  refine ex_go (S := (2, [(3, .inl 0), (0, gx_r 144), (1, gx_r (181 + m)), (2, .inl nn)], [], t0, n, 0)) rfl (fun _ => rfl) rfl ?_
  exact pc_is_l g0 hm hn kr hr kq hq (fun b h1 h2 => ⟨_, rfl, b, rfl, h1, h2⟩) nn 0 _ (by first | decide | omega) rfl rfl rfl rfl rfl
theorem pc_lr_l {fn : en_F} {n : Nat} {t0 : en_H} {nn x : Nat} {q : List Nat} {O : Nat → Nat} {Q : en_O → Prop} (g0 : ai_HG ah_G t0) (hn : nn ≤ 6) (hx : x < nn) (ko : ∀ i, i < nn → ai_hv t0 179 i = some (.inl (ltf (ordl O nn) i))) (kq : ∀ i, i < nn → ai_hv t0 188 i = some (.inl (ltf q i))) (hq : ∀ i, i < nn → ltf q i ≤ 12) (hQ : ∀ v, v ≤ 12 → (∃ k, k < nn ∧ ltf (ordl O nn) k = x ∧ v = ltf q k) → Q (.inl (some (.inl v), t0, n, 0))) : ∀ j k cl, k + j = nn → (∀ i, i < k → ltf (ordl O nn) i ≠ x) → en_ld cl 0 = some (gx_r 144) → en_ld cl 1 = some (.inl x) → en_ld cl 2 = some (.inl nn) → en_ld cl 3 = some (.inl k) → en_ex none fn (en_code 155) (fun _ => false) (2, cl, [], t0, n, 0) Q := by
  intro j
  induction j with
  | zero =>
    intro k cl hj hv h0 h1 h2 h3
    obtain ⟨i9, a9, b9⟩ := ordl_sur (O := O) nn x hx
    exact absurd b9 (hv i9 (by first | decide | omega))
  | succ j ih =>
    intro k cl hj hv h0 h1 h2 h3
    have ho9 := ordl_lt (O := O) nn k (by first | decide | omega)
    have hq9 := hq k (by first | decide | omega)
    refine gx_ld (i := 3) (d := 0) (v := .inl k) rfl (fun _ => rfl) h3 rfl rfl ?_
    refine gx_ld (i := 2) (d := 0) (v := .inl nn) rfl (fun _ => rfl) h2 rfl rfl ?_
    refine gx_2f (c := .ge) rfl (by first | decide | omega) (by first | decide | omega) (show ¬ (nn ≤ k) from by omega) rfl ?_
    refine gx_ld (i := 0) (d := 2) (v := gx_r 144) rfl (fun _ => rfl) h0 rfl rfl ?_
    refine gxo_ref (a := 144) (c := 179) rfl g0 rfl rfl rfl rfl rfl ?_
    refine gx_ld (i := 3) (d := 0) (v := .inl k) rfl (fun _ => rfl) h3 rfl rfl ?_
    refine gx_ag (v := .inl (ltf (ordl O nn) k)) (cb := fun c => Nat.beq c 0) rfl (fun _ => rfl) g0 rfl rfl (ko k (by first | decide | omega)) (by first | decide | omega) rfl ?_
    refine gx_ld (i := 1) (d := 0) (v := .inl x) rfl (fun _ => rfl) h1 rfl rfl ?_
    by_cases hc1 : ltf (ordl O nn) k ≠ x
    · refine gx_2t (c := .ne) rfl (by first | decide | omega) (by first | decide | omega) hc1 rfl ?_
      refine gx_incS (i := 3) (a := k) (x := 1) rfl (fun _ => rfl) h3 (by first | decide | omega) rfl (fun l2 hl2 ml2 => ?_)
      have l2_0 : en_ld l2 0 = some (gx_r 144) := ml2 0 _ h0 rfl
      have l2_1 : en_ld l2 1 = some (.inl x) := ml2 1 _ h1 rfl
      have l2_2 : en_ld l2 2 = some (.inl nn) := ml2 2 _ h2 rfl
      refine ex_go (S := (2, l2, [], t0, n, 0)) rfl (fun _ => rfl) rfl ?_
      exact ih (k + 1) _ (by first | decide | omega) (fun i hi => by
        by_cases e9 : i = k
        · rw [e9]; omega
        · exact hv i (by first | decide | omega)) l2_0 l2_1 l2_2 hl2
    · refine gx_2f (c := .ne) rfl (by first | decide | omega) (by first | decide | omega) hc1 rfl ?_
      refine gx_ld (i := 0) (d := 2) (v := gx_r 144) rfl (fun _ => rfl) h0 rfl rfl ?_
      refine gxo_ref (a := 144) (c := 188) rfl g0 rfl rfl rfl rfl rfl ?_
      refine gx_ld (i := 3) (d := 0) (v := .inl k) rfl (fun _ => rfl) h3 rfl rfl ?_
      refine gx_ag (v := .inl (ltf q k)) (cb := fun c => Nat.beq c 0) rfl (fun _ => rfl) g0 rfl rfl (kq k (by first | decide | omega)) (by first | decide | omega) rfl ?_
      refine ex_ret (r := (some (.inl (ltf q k)), t0, n, 0)) rfl (fun _ => rfl) ?_
      exact hQ _ hq9 ⟨k, by omega, by omega, rfl⟩
theorem pc_lampRow (d n : Nat) {t0 : en_H} {nn x : Nat} {q : List Nat} {O : Nat → Nat} (g0 : ai_HG ah_G t0) (hn : nn ≤ 6) (hx : x < nn) (ko : ∀ i, i < nn → ai_hv t0 179 i = some (.inl (ltf (ordl O nn) i))) (kq : ∀ i, i < nn → ai_hv t0 188 i = some (.inl (ltf q i))) (hq : ∀ i, i < nn → ltf q i ≤ 12) : ∃ r, en_u (d + 1) 155 [gx_r 144, .inl x, .inl nn] t0 n = some r ∧ ∃ v, r = (some (.inl v), t0, n, 0) ∧ v ≤ 12 ∧ ∃ k, k < nn ∧ ltf (ordl O nn) k = x ∧ v = ltf q k := by
  refine en_u_ex rfl ?_
  show en_ex _ _ _ _ (0, [(0, gx_r 144), (1, .inl x), (2, .inl nn)], [], t0, n, 0) _
  refine ex_go (S := (1, [(0, gx_r 144), (1, .inl x), (2, .inl nn)], [.inl 0], t0, n, 0)) rfl (fun _ => rfl) rfl ?_
  refine ex_go (S := (2, [(3, .inl 0), (0, gx_r 144), (1, .inl x), (2, .inl nn)], [], t0, n, 0)) rfl (fun _ => rfl) rfl ?_
  exact pc_lr_l g0 hn hx ko kq hq (fun v h1 h2 => ⟨_, rfl, v, rfl, h1, h2⟩) nn 0 _ (by first | decide | omega) (fun i h => absurd h (Nat.not_lt_zero i)) rfl rfl rfl rfl
theorem cd_ne {n : Nat} (h1 : 1 ≤ n) (h2 : n ≤ 6) : rlv (n - 1) (cdl0 n) ≠ [] := by
  rcases (show n = 1 ∨ n = 2 ∨ n = 3 ∨ n = 4 ∨ n = 5 ∨ n = 6 by omega) with rfl | rfl | rfl | rfl | rfl | rfl
  · rw [show rlv (1 - 1) (cdl0 1) = cdR1 from cdR1_e]; decide
  · rw [show rlv (2 - 1) (cdl0 2) = cdR2 from cdR2_e]; decide
  · rw [show rlv (3 - 1) (cdl0 3) = cdR3 from cdR3_e]; decide
  · rw [show rlv (4 - 1) (cdl0 4) = cdR4 from cdR4_e]; decide
  · rw [show rlv (5 - 1) (cdl0 5) = cdR5 from cdR5_e]; decide
  · rw [show rlv (6 - 1) (cdl0 6) = cdR6 from cdR6_e]; decide
theorem pz_holds218 (d n : Nat) {t0 : en_H} {x K : Nat} (g0 : ai_HG ah_G t0) (hx : x < 4294967296) (kK : ai_hv t0 218 5 = some (.inl K)) (hK : K ≤ 1000) : ∃ r, en_u (d + 1) 23 [gx_r 218, .inl x] t0 n = some r ∧ ∃ b, r = (some (.inl b), t0, n, 0) ∧ b ≤ 1 ∧ (b = 1 ↔ x < K) := by
  refine en_u_ex rfl ?_
  show en_ex _ _ _ _ (0, [(0, gx_r 218), (1, .inl x)], [], t0, n, 0) _
  by_cases hn : 2147483648 ≤ x
  · refine ex_go (S := (1, [(0, gx_r 218), (1, .inl x)], [.inl x], t0, n, 0)) rfl (fun _ => rfl) rfl ?_
    refine gx_negt (c := .lt) rfl (by first | decide | omega) (by first | decide | omega) rfl rfl ?_
    refine ex_go (S := (17, [(0, gx_r 218), (1, .inl x)], [.inl 0], t0, n, 0)) rfl (fun _ => rfl) rfl ?_
    refine ex_ret (r := (some (.inl 0), t0, n, 0)) rfl (fun _ => rfl) ?_
    exact ⟨_, rfl, 0, rfl, by omega, by omega⟩
  · refine ex_go (S := (1, [(0, gx_r 218), (1, .inl x)], [.inl x], t0, n, 0)) rfl (fun _ => rfl) rfl ?_
    by_cases hc1 : x < 0
    · refine gx_1t (c := .lt) rfl (by first | decide | omega) hc1 rfl ?_
      refine ex_go (S := (17, [(0, gx_r 218), (1, .inl x)], [.inl 0], t0, n, 0)) rfl (fun _ => rfl) rfl ?_
      refine ex_ret (r := (some (.inl 0), t0, n, 0)) rfl (fun _ => rfl) ?_
      exact ⟨_, rfl, 0, rfl, by omega, by omega⟩
    · refine gx_1f (c := .lt) rfl (by first | decide | omega) hc1 rfl ?_
      refine ex_go (S := (5, [(0, gx_r 218), (1, .inl x)], [.inl x], t0, n, 0)) rfl (fun _ => rfl) rfl ?_
      refine ex_go (S := (6, [(0, gx_r 218), (1, .inl x)], [gx_r 218, .inl x], t0, n, 0)) rfl (fun _ => rfl) rfl ?_
      refine gxo_get (a := 218) rfl g0 rfl rfl kK rfl ?_
      by_cases hc2 : K ≤ x
      · refine gx_2t (c := .ge) rfl (by first | decide | omega) (by first | decide | omega) hc2 rfl ?_
        refine ex_go (S := (17, [(0, gx_r 218), (1, .inl x)], [.inl 0], t0, n, 0)) rfl (fun _ => rfl) rfl ?_
        refine ex_ret (r := (some (.inl 0), t0, n, 0)) rfl (fun _ => rfl) ?_
        exact ⟨_, rfl, 0, rfl, by omega, by omega⟩
      · refine gx_2f (c := .ge) rfl (by first | decide | omega) (by first | decide | omega) hc2 rfl ?_
        refine ex_go (S := (13, [(0, gx_r 218), (1, .inl x)], [.inl 1], t0, n, 0)) rfl (fun _ => rfl) rfl ?_
        refine ex_go (S := (17, [(0, gx_r 218), (1, .inl x)], [.inl 1], t0, n, 0)) rfl (fun _ => rfl) rfl ?_
        refine ex_ret (r := (some (.inl 1), t0, n, 0)) rfl (fun _ => rfl) ?_
        exact ⟨_, rfl, 1, rfl, by omega, by omega⟩
theorem pc_ord218_i {fn : en_F} {n : Nat} {tb : en_H} {k : Nat} {f : Nat → Nat} {nn : Nat} {O : Nat → Nat} {Q : en_O → Prop} (hk : k < nn) (hn : nn ≤ 6) (kO : ∀ i, i < nn → ai_hv tb 220 i = some (.inl (O i))) (hO : ∀ i, i < nn → O i ≤ 99) (hf : ∀ i, i < k → f i < k) (hQ : ∀ cl t1, ai_HG ah_G t1 → (∀ c i, ¬ (c = 179 ∧ i ≤ k) → ai_hv t1 c i = ai_hv tb c i) → (∀ i, i ≤ k → ai_hv t1 179 i = some (.inl (inp f k (wlp (ltp O f k) k) i))) → en_ld cl 0 = some (gx_r 144) → en_ld cl 1 = some (gx_r 218) → en_ld cl 2 = some (.inl k) → en_ex none fn (en_code 217) (fun _ => false) (65, cl, [], t1, n, 0) Q) : ∀ j cl t0, j ≤ k → ai_HG ah_G t0 → (∀ c i, ¬ (c = 179 ∧ i ≤ k) → ai_hv t0 c i = ai_hv tb c i) → wlp (ltp O f k) j = wlp (ltp O f k) k → (∀ i, i < j → ai_hv t0 179 i = some (.inl (f i))) → (∀ i, j < i → i ≤ k → ai_hv t0 179 i = some (.inl (f (i - 1)))) → en_ld cl 0 = some (gx_r 144) → en_ld cl 1 = some (gx_r 218) → en_ld cl 2 = some (.inl k) → en_ld cl 3 = some (.inl j) → en_ex none fn (en_code 217) (fun _ => false) (12, cl, [], t0, n, 0) Q := by
  intro j
  induction j with
  | zero =>
    intro cl t0 hj g0 e0 hw hlo hhi h0 h1 h2 h3
    refine gx_ld (i := 3) (d := 0) (v := .inl 0) rfl (fun _ => rfl) h3 rfl rfl ?_
    refine ex_go (S := (58, cl, [], t0, n, 0)) rfl (fun _ => rfl) rfl ?_
    refine gx_ld (i := 0) (d := 2) (v := gx_r 144) rfl (fun _ => rfl) h0 rfl rfl ?_
    refine gxo_ref (a := 144) (c := 179) rfl g0 rfl rfl rfl rfl rfl ?_
    refine gx_ld (i := 3) (d := 0) (v := .inl 0) rfl (fun _ => rfl) h3 rfl rfl ?_
    refine gx_ld (i := 2) (d := 0) (v := .inl k) rfl (fun _ => rfl) h2 rfl rfl ?_
    refine gx_ap rfl (fun _ => rfl) g0 rfl rfl rfl (show 0 < 6 from by omega) (gx_run1 (show 0 < 6 from by omega)) (ai_in_h (by first | decide | omega) (by first | decide | omega) (by first | decide | omega)) rfl (fun t101 g101 k101 e101 => ?_)
    have hw0 : wlp (ltp O f k) k = 0 := hw.symm
    exact hQ _ t101 g101 (fun c i h => (e101 c i (by first | decide | omega)).trans (e0 c i (by first | decide | omega))) (fun i hi => by
      rw [hw0]
      by_cases e9 : i = 0
      · rw [e9, inp_eq]; exact k101
      · rw [inp_gt (by first | decide | omega)]; exact (e101 179 i (by first | decide | omega)).trans (hhi i (by first | decide | omega) hi)) h0 h1 h2
  | succ j ih =>
    intro cl t0 hj g0 e0 hw hlo hhi h0 h1 h2 h3
    refine gx_ld (i := 3) (d := 0) (v := .inl (j + 1)) rfl (fun _ => rfl) h3 rfl rfl ?_
    refine gx_1f (c := .le) rfl (by first | decide | omega) (show ¬ (j + 1 ≤ 0) from by omega) rfl ?_
    refine gx_ld (i := 1) (d := 2) (v := gx_r 218) rfl (fun _ => rfl) h1 rfl rfl ?_
    refine gxo_ref (a := 218) (c := 220) rfl g0 rfl rfl rfl rfl rfl ?_
    refine gx_ld (i := 0) (d := 2) (v := gx_r 144) rfl (fun _ => rfl) h0 rfl rfl ?_
    refine gxo_ref (a := 144) (c := 179) rfl g0 rfl rfl rfl rfl rfl ?_
    refine gx_ld (i := 3) (d := 0) (v := .inl (j + 1)) rfl (fun _ => rfl) h3 rfl rfl ?_
    refine ex_go (S := (26, cl, [.inl 1, .inl (j + 1), gx_r 179, gx_r 220], t0, n, 0)) rfl (fun _ => rfl) rfl ?_
    refine gx_isub rfl (by first | decide | omega) (by first | decide | omega) rfl ?_
    show en_ex _ _ _ _ (27, cl, [.inl j, gx_r 179, gx_r 220], t0, n, 0) _
    have hf9 := hf j (by first | decide | omega)
    refine gx_ag (v := .inl (f j)) (cb := fun c => Nat.beq c 0) rfl (fun _ => rfl) g0 rfl rfl (hlo j (by first | decide | omega)) (by first | decide | omega) rfl ?_
    have hO1 := hO (f j) (by first | decide | omega)
    refine gx_ag (v := .inl (O (f j))) (cb := fun c => Nat.beq c 0) rfl (fun _ => rfl) g0 rfl rfl ((e0 220 (f j) (by first | decide | omega)).trans (kO (f j) (by first | decide | omega))) (by first | decide | omega) rfl ?_
    refine gx_ld (i := 1) (d := 2) (v := gx_r 218) rfl (fun _ => rfl) h1 rfl rfl ?_
    refine gxo_ref (a := 218) (c := 220) rfl g0 rfl rfl rfl rfl rfl ?_
    refine gx_ld (i := 2) (d := 0) (v := .inl k) rfl (fun _ => rfl) h2 rfl rfl ?_
    have hO2 := hO k (by first | decide | omega)
    refine gx_ag (v := .inl (O k)) (cb := fun c => Nat.beq c 0) rfl (fun _ => rfl) g0 rfl rfl ((e0 220 k (by first | decide | omega)).trans (kO k (by first | decide | omega))) (by first | decide | omega) rfl ?_
    by_cases hc3 : O k ≤ O (f j)
    · refine gx_2t (c := .ge) rfl (by first | decide | omega) (by first | decide | omega) hc3 rfl ?_
      refine gx_ld (i := 0) (d := 2) (v := gx_r 144) rfl (fun _ => rfl) h0 rfl rfl ?_
      refine gxo_ref (a := 144) (c := 179) rfl g0 rfl rfl rfl rfl rfl ?_
      refine gx_ld (i := 3) (d := 0) (v := .inl (j + 1)) rfl (fun _ => rfl) h3 rfl rfl ?_
      refine gx_ld (i := 2) (d := 0) (v := .inl k) rfl (fun _ => rfl) h2 rfl rfl ?_
      refine gx_ap rfl (fun _ => rfl) g0 rfl rfl rfl (show j + 1 < 6 from by omega) (gx_run1 (show j + 1 < 6 from by omega)) (ai_in_h (by first | decide | omega) (by first | decide | omega) (by first | decide | omega)) rfl (fun t104 g104 k104 e104 => ?_)
      have k5 : ai_hv t104 179 j = some (.inl (f j)) := (e104 179 j (by first | decide | omega)).trans (hlo j (by first | decide | omega))
      have k6 : ai_hv t104 220 (f j) = some (.inl (O (f j))) := (e104 220 (f j) (by first | decide | omega)).trans ((e0 220 (f j) (by first | decide | omega)).trans (kO (f j) (by first | decide | omega)))
      have k7 : ai_hv t104 220 k = some (.inl (O k)) := (e104 220 k (by first | decide | omega)).trans ((e0 220 k (by first | decide | omega)).trans (kO k (by first | decide | omega)))
      have hP9 : (ltp O f k) j = false := decide_eq_false (by first | decide | omega)
      have hw0 : wlp (ltp O f k) k = j + 1 := hw.symm.trans (wlp_f hP9)
      exact hQ _ t104 g104 (fun c i h => (e104 c i (by first | decide | omega)).trans (e0 c i (by first | decide | omega))) (fun i hi => by
        rw [hw0]
        rcases Nat.lt_trichotomy i (j + 1) with e9 | e9 | e9
        · rw [inp_lt e9]; exact (e104 179 i (by first | decide | omega)).trans (hlo i e9)
        · rw [e9, inp_eq]; exact k104
        · rw [inp_gt e9]; exact (e104 179 i (by first | decide | omega)).trans (hhi i e9 hi)) h0 h1 h2
    · refine gx_2f (c := .ge) rfl (by first | decide | omega) (by first | decide | omega) hc3 rfl ?_
      refine gx_ld (i := 0) (d := 2) (v := gx_r 144) rfl (fun _ => rfl) h0 rfl rfl ?_
      refine gxo_ref (a := 144) (c := 179) rfl g0 rfl rfl rfl rfl rfl ?_
      refine gx_ld (i := 3) (d := 0) (v := .inl (j + 1)) rfl (fun _ => rfl) h3 rfl rfl ?_
      refine gx_ld (i := 0) (d := 2) (v := gx_r 144) rfl (fun _ => rfl) h0 rfl rfl ?_
      refine gxo_ref (a := 144) (c := 179) rfl g0 rfl rfl rfl rfl rfl ?_
      refine gx_ld (i := 3) (d := 0) (v := .inl (j + 1)) rfl (fun _ => rfl) h3 rfl rfl ?_
      refine ex_go (S := (49, cl, [.inl 1, .inl (j + 1), gx_r 179, .inl (j + 1), gx_r 179], t0, n, 0)) rfl (fun _ => rfl) rfl ?_
      refine gx_isub rfl (by first | decide | omega) (by first | decide | omega) rfl ?_
      show en_ex _ _ _ _ (50, cl, [.inl j, gx_r 179, .inl (j + 1), gx_r 179], t0, n, 0) _
      refine gx_ag (v := .inl (f j)) (cb := fun c => Nat.beq c 0) rfl (fun _ => rfl) g0 rfl rfl (hlo j (by first | decide | omega)) (by first | decide | omega) rfl ?_
      refine gx_ap rfl (fun _ => rfl) g0 rfl rfl rfl (show j + 1 < 6 from by omega) (gx_run1 (show j + 1 < 6 from by omega)) (ai_in_h (by first | decide | omega) (by first | decide | omega) (by first | decide | omega)) rfl (fun t108 g108 k108 e108 => ?_)
      have k9 : ai_hv t108 179 j = some (.inl (f j)) := (e108 179 j (by first | decide | omega)).trans (hlo j (by first | decide | omega))
      have k10 : ai_hv t108 220 (f j) = some (.inl (O (f j))) := (e108 220 (f j) (by first | decide | omega)).trans ((e0 220 (f j) (by first | decide | omega)).trans (kO (f j) (by first | decide | omega)))
      have k11 : ai_hv t108 220 k = some (.inl (O k)) := (e108 220 k (by first | decide | omega)).trans ((e0 220 k (by first | decide | omega)).trans (kO k (by first | decide | omega)))
      refine gx_decS (i := 3) (a := j + 1) rfl (fun _ => rfl) h3 (by first | decide | omega) (by first | decide | omega) rfl (fun l12 hl12 ml12 => ?_)
      have l12_0 : en_ld l12 0 = some (gx_r 144) := ml12 0 _ h0 rfl
      have l12_1 : en_ld l12 1 = some (gx_r 218) := ml12 1 _ h1 rfl
      have l12_2 : en_ld l12 2 = some (.inl k) := ml12 2 _ h2 rfl
      refine ex_go (S := (12, l12, [], t108, n, 0)) rfl (fun _ => rfl) rfl ?_
      have hP9 : (ltp O f k) j = true := decide_eq_true (show O (f j) < O k from by omega)
      exact ih _ t108 (by first | decide | omega) g108 (fun c i h => (e108 c i (by first | decide | omega)).trans (e0 c i (by first | decide | omega))) ((wlp_t hP9).symm.trans hw) (fun i hi => (e108 179 i (by first | decide | omega)).trans (hlo i (by first | decide | omega))) (fun i h1 h2 => by
        by_cases e9 : i = j + 1
        · rw [e9]; exact k108
        · exact (e108 179 i (by first | decide | omega)).trans (hhi i (by first | decide | omega) h2)) l12_0 l12_1 l12_2 hl12
theorem pc_ord218_o {fn : en_F} {n : Nat} {tb : en_H} {nn : Nat} {O : Nat → Nat}  {Q : en_O → Prop} (kn : ai_hv tb 218 5 = some (.inl nn)) (hn : nn ≤ 6) (kO : ∀ i, i < nn → ai_hv tb 220 i = some (.inl (O i))) (hO : ∀ i, i < nn → O i ≤ 99) (hQ : ∀ cl t1, ai_HG ah_G t1 → (∀ c i, c ≠ 179 → ai_hv t1 c i = ai_hv tb c i) → (∀ i, i < nn → ai_hv t1 179 i = some (.inl (ltf (ordl O nn) i))) → en_ex none fn (en_code 217) (fun _ => false) (71, cl, [], t1, n, 0) Q) : ∀ j k cl t0, k + j = nn → ai_HG ah_G t0 → (∀ c i, c ≠ 179 → ai_hv t0 c i = ai_hv tb c i) → (∀ i, i < k → ai_hv t0 179 i = some (.inl (ltf (ordl O k) i))) → en_ld cl 0 = some (gx_r 144) → en_ld cl 1 = some (gx_r 218) → en_ld cl 2 = some (.inl k) → en_ex none fn (en_code 217) (fun _ => false) (2, cl, [], t0, n, 0) Q := by
  intro j
  induction j with
  | zero =>
    intro k cl t0 hj g0 e0 hc h0 h1 h2
    have hk : k = nn := by omega
    rw [hk] at hc
    have kn0 := (e0 218 5 (by first | decide | omega)).trans kn
    refine gx_ld (i := 2) (d := 0) (v := .inl k) rfl (fun _ => rfl) h2 rfl rfl ?_
    refine gx_ld (i := 1) (d := 2) (v := gx_r 218) rfl (fun _ => rfl) h1 rfl rfl ?_
    refine gxo_get (a := 218) rfl g0 rfl rfl kn0 rfl ?_
    refine gx_2t (c := .ge) rfl (by first | decide | omega) (by first | decide | omega) (show nn ≤ k from by omega) rfl ?_
    exact hQ _ t0 g0 e0 hc
  | succ j ih =>
    intro k cl t0 hj g0 e0 hc h0 h1 h2
    have kn0 := (e0 218 5 (by first | decide | omega)).trans kn
    refine gx_ld (i := 2) (d := 0) (v := .inl k) rfl (fun _ => rfl) h2 rfl rfl ?_
    refine gx_ld (i := 1) (d := 2) (v := gx_r 218) rfl (fun _ => rfl) h1 rfl rfl ?_
    refine gxo_get (a := 218) rfl g0 rfl rfl kn0 rfl ?_
    refine gx_2f (c := .ge) rfl (by first | decide | omega) (by first | decide | omega) (show ¬ (nn ≤ k) from by omega) rfl ?_
    refine gx_ld (i := 2) (d := 0) (v := .inl k) rfl (fun _ => rfl) h2 rfl rfl ?_
    refine gx_sto (i := 3) (d := 0) rfl (fun _ => rfl) rfl rfl (fun l1 hl1 ml1 => ?_)
    have l1_0 : en_ld l1 0 = some (gx_r 144) := ml1 0 _ h0 rfl
    have l1_1 : en_ld l1 1 = some (gx_r 218) := ml1 1 _ h1 rfl
    have l1_2 : en_ld l1 2 = some (.inl k) := ml1 2 _ h2 rfl
    refine pc_ord218_i (tb := t0) (nn := nn) (k := k) (O := O) (f := ltf (ordl O k)) (by first | decide | omega) hn (fun i hi => (e0 220 i (by first | decide | omega)).trans (kO i hi)) hO (fun i hi => ordl_lt k i hi) (fun cl1 t1 g1 e1 hc1 m0 m1 m2 => ?_) k _ t0 (Nat.le_refl _) g0 (fun _ _ _ => rfl) rfl hc (fun i h1 h2 => absurd h2 (by first | decide | omega)) l1_0 l1_1 l1_2 hl1
    refine gx_incS (i := 2) (a := k) (x := 1) rfl (fun _ => rfl) m2 (by first | decide | omega) rfl (fun l2 hl2 ml2 => ?_)
    have l2_0 : en_ld l2 0 = some (gx_r 144) := ml2 0 _ m0 rfl
    have l2_1 : en_ld l2 1 = some (gx_r 218) := ml2 1 _ m1 rfl
    refine ex_go (S := (2, l2, [], t1, n, 0)) rfl (fun _ => rfl) rfl ?_
    exact ih (k + 1) _ t1 (by first | decide | omega) g1 (fun c i h => (e1 c i (by first | decide | omega)).trans (e0 c i h)) (fun i hi => by rw [ordl_at hi]; exact hc1 i (by first | decide | omega)) l2_0 l2_1 hl2
theorem pc_orderSigns218 (d n : Nat) {t0 : en_H} {nn : Nat} {O : Nat → Nat} (g0 : ai_HG ah_G t0) (kn : ai_hv t0 218 5 = some (.inl nn)) (hn : nn ≤ 6) (kO : ∀ i, i < nn → ai_hv t0 220 i = some (.inl (O i))) (hO : ∀ i, i < nn → O i ≤ 99) : ∃ r, en_u (d + 1) 217 [gx_r 144, gx_r 218] t0 n = some r ∧ ∃ t', r = (none, t', n, 0) ∧ ai_HG ah_G t' ∧ (∀ c i, c ≠ 179 → ai_hv t' c i = ai_hv t0 c i) ∧ ∀ i, i < nn → ai_hv t' 179 i = some (.inl (ltf (ordl O nn) i)) := by
  refine en_u_ex rfl ?_
  show en_ex _ _ _ _ (0, [(0, gx_r 144), (1, gx_r 218)], [], t0, n, 0) _
  refine ex_go (S := (1, [(0, gx_r 144), (1, gx_r 218)], [.inl 0], t0, n, 0)) rfl (fun _ => rfl) rfl ?_
  refine ex_go (S := (2, [(2, .inl 0), (0, gx_r 144), (1, gx_r 218)], [], t0, n, 0)) rfl (fun _ => rfl) rfl ?_
  refine pc_ord218_o (tb := t0) kn hn kO hO (fun cl t1 g1 e1 hc => ?_) nn 0 _ t0 (by first | decide | omega) g0 (fun _ _ _ => rfl) (fun i h => absurd h (Nat.not_lt_zero i)) rfl rfl rfl
  refine ex_ret (r := (none, t1, n, 0)) rfl (fun _ => rfl) ?_
  exact ⟨_, rfl, t1, rfl, g1, e1, hc⟩
theorem pc_wl218_a {fn : en_F} {n : Nat} {t0 : en_H} {nn m : Nat} {r od : List Nat} {O : Nat → Nat} {Q : en_O → Prop} (g0 : ai_HG ah_G t0) (hm : m < 7) (hn : nn ≤ 6) (kn : ai_hv t0 218 5 = some (.inl nn)) (kO : ∀ i, i < nn → ai_hv t0 220 i = some (.inl (O i))) (hO : ∀ i, i < nn → O i ≤ 99) (ko : ∀ i, i < nn → ai_hv t0 179 i = some (.inl (ltf od i))) (hod : ∀ i, i < nn → ltf od i < nn) (kr : ∀ i, i < nn → ai_hv t0 (181 + m) i = some (.inl (ltf r i))) (hr : ∀ i, i < nn → ltf r i ≤ 12) (hQ : ∀ cl, en_ld cl 0 = some (gx_r 144) → en_ld cl 1 = some (gx_r 218) → en_ld cl 2 = some (gx_r (181 + m)) → en_ld cl 3 = some (.inl (wsm O od r nn)) → en_ex none fn (en_code 257) (fun _ => false) (40, cl, [], t0, n, 0) Q) : ∀ j k cl, k + j = nn → en_ld cl 0 = some (gx_r 144) → en_ld cl 1 = some (gx_r 218) → en_ld cl 2 = some (gx_r (181 + m)) → en_ld cl 3 = some (.inl (wsm O od r k)) → en_ld cl 4 = some (.inl k) → en_ex none fn (en_code 257) (fun _ => false) (5, cl, [], t0, n, 0) Q := by
  intro j
  induction j with
  | zero =>
    intro k cl hj h0 h1 h2 h3 h4
    have hk : k = nn := by omega
    rw [hk] at h3
    refine gx_ld (i := 4) (d := 0) (v := .inl k) rfl (fun _ => rfl) h4 rfl rfl ?_
    refine gx_ld (i := 1) (d := 2) (v := gx_r 218) rfl (fun _ => rfl) h1 rfl rfl ?_
    refine gxo_get (a := 218) rfl g0 rfl rfl kn rfl ?_
    refine gx_2t (c := .ge) rfl (by first | decide | omega) (by first | decide | omega) (show nn ≤ k from by omega) rfl ?_
    exact hQ _ h0 h1 h2 h3
  | succ j ih =>
    intro k cl hj h0 h1 h2 h3 h4
    have hws := wsm_le (O := O) (od := od) (r := r) k (fun i hi => hr i (by first | decide | omega)) (fun i hi => hO _ (hod i (by first | decide | omega)))
    have hr9 := hr k (by first | decide | omega)
    have ho9 := hod k (by first | decide | omega)
    have hO9 := hO (ltf od k) ho9
    have hm9 : O (ltf od k) * ltf r k ≤ 99 * 12 := Nat.mul_le_mul hO9 hr9
    refine gx_ld (i := 4) (d := 0) (v := .inl k) rfl (fun _ => rfl) h4 rfl rfl ?_
    refine gx_ld (i := 1) (d := 2) (v := gx_r 218) rfl (fun _ => rfl) h1 rfl rfl ?_
    refine gxo_get (a := 218) rfl g0 rfl rfl kn rfl ?_
    refine gx_2f (c := .ge) rfl (by first | decide | omega) (by first | decide | omega) (show ¬ (nn ≤ k) from by omega) rfl ?_
    refine gx_ld (i := 3) (d := 0) (v := .inl (wsm O od r k)) rfl (fun _ => rfl) h3 rfl rfl ?_
    refine gx_ld (i := 1) (d := 2) (v := gx_r 218) rfl (fun _ => rfl) h1 rfl rfl ?_
    refine gxo_ref (a := 218) (c := 220) rfl g0 rfl rfl rfl rfl rfl ?_
    refine gx_ld (i := 0) (d := 2) (v := gx_r 144) rfl (fun _ => rfl) h0 rfl rfl ?_
    refine gxo_ref (a := 144) (c := 179) rfl g0 rfl rfl rfl rfl rfl ?_
    refine gx_ld (i := 4) (d := 0) (v := .inl k) rfl (fun _ => rfl) h4 rfl rfl ?_
    refine gx_ag (v := .inl (ltf od k)) (cb := fun c => Nat.beq c 0) rfl (fun _ => rfl) g0 rfl rfl (ko k (by first | decide | omega)) (by first | decide | omega) rfl ?_
    refine gx_ag (v := .inl (O (ltf od k))) (cb := fun c => Nat.beq c 0) rfl (fun _ => rfl) g0 rfl rfl (kO (ltf od k) ho9) (by first | decide | omega) rfl ?_
    refine gx_ld (i := 2) (d := 2) (v := gx_r (181 + m)) rfl (fun _ => rfl) h2 rfl rfl ?_
    refine gx_ld (i := 4) (d := 0) (v := .inl k) rfl (fun _ => rfl) h4 rfl rfl ?_
    refine gx_ag (c := 181 + m) (v := .inl (ltf r k)) (cb := fun c => Nat.beq c 0) rfl (fun _ => rfl) g0 (lst_G (by first | decide | omega)) rfl (kr k (by first | decide | omega)) (by first | decide | omega) rfl ?_
    refine gx_imul rfl (by first | decide | omega) rfl ?_
    refine ex_iadd rfl (by first | decide | omega) rfl ?_
    refine gx_sto (i := 3) (d := 0) rfl (fun _ => rfl) rfl rfl (fun l1 hl1 ml1 => ?_)
    have l1_0 : en_ld l1 0 = some (gx_r 144) := ml1 0 _ h0 rfl
    have l1_1 : en_ld l1 1 = some (gx_r 218) := ml1 1 _ h1 rfl
    have l1_2 : en_ld l1 2 = some (gx_r (181 + m)) := ml1 2 _ h2 rfl
    have l1_4 : en_ld l1 4 = some (.inl k) := ml1 4 _ h4 rfl
    refine gx_incS (i := 4) (a := k) (x := 1) rfl (fun _ => rfl) l1_4 (by first | decide | omega) rfl (fun l2 hl2 ml2 => ?_)
    have l2_0 : en_ld l2 0 = some (gx_r 144) := ml2 0 _ l1_0 rfl
    have l2_1 : en_ld l2 1 = some (gx_r 218) := ml2 1 _ l1_1 rfl
    have l2_2 : en_ld l2 2 = some (gx_r (181 + m)) := ml2 2 _ l1_2 rfl
    have l2_3 : en_ld l2 3 = some (.inl ((wsm O od r k) + ((O (ltf od k)) * (ltf r k)))) := ml2 3 _ hl1 rfl
    refine ex_go (S := (5, l2, [], t0, n, 0)) rfl (fun _ => rfl) rfl ?_
    exact ih (k + 1) _ (by first | decide | omega) l2_0 l2_1 l2_2 (by show _ = some (Sum.inl (wsm O od r k + ltf r k * O (ltf od k))); rw [Nat.mul_comm (ltf r k)]; exact l2_3) hl2
theorem pc_wl218_c {fn : en_F} {n : Nat} {tb : en_H} {nn m : Nat} {r : List Nat} {Q : en_O → Prop} (hm : m < 7) (hn : nn ≤ 6) (kn : ai_hv tb 218 5 = some (.inl nn)) (kr : ∀ i, i < nn → ai_hv tb (181 + m) i = some (.inl (ltf r i))) (hr : ∀ i, i < nn → ltf r i ≤ 12) (hQ : ∀ t1, ai_HG ah_G t1 → (∀ c i, c ≠ 188 → ai_hv t1 c i = ai_hv tb c i) → (∀ i, i < nn → ai_hv t1 188 i = some (.inl (ltf r i))) → Q (.inl (none, t1, n, 0))) : ∀ j k cl t0, k + j = nn → ai_HG ah_G t0 → (∀ c i, c ≠ 188 → ai_hv t0 c i = ai_hv tb c i) → (∀ i, i < k → ai_hv t0 188 i = some (.inl (ltf r i))) → en_ld cl 0 = some (gx_r 144) → en_ld cl 1 = some (gx_r 218) → en_ld cl 2 = some (gx_r (181 + m)) → en_ld cl 4 = some (.inl k) → en_ex none fn (en_code 257) (fun _ => false) (76, cl, [], t0, n, 0) Q := by
  intro j
  induction j with
  | zero =>
    intro k cl t0 hj g0 e0 hc h0 h1 h2 h4
    have kn0 := (e0 218 5 (by first | decide | omega)).trans kn
    have hk : k = nn := by omega
    rw [hk] at hc
    refine gx_ld (i := 4) (d := 0) (v := .inl k) rfl (fun _ => rfl) h4 rfl rfl ?_
    refine gx_ld (i := 1) (d := 2) (v := gx_r 218) rfl (fun _ => rfl) h1 rfl rfl ?_
    refine gxo_get (a := 218) rfl g0 rfl rfl kn0 rfl ?_
    refine gx_2t (c := .ge) rfl (by first | decide | omega) (by first | decide | omega) (show nn ≤ k from by omega) rfl ?_
    refine ex_ret (r := (none, t0, n, 0)) rfl (fun _ => rfl) ?_
    exact hQ t0 g0 e0 hc
  | succ j ih =>
    intro k cl t0 hj g0 e0 hc h0 h1 h2 h4
    have kn0 := (e0 218 5 (by first | decide | omega)).trans kn
    have hr9 := hr k (by first | decide | omega)
    refine gx_ld (i := 4) (d := 0) (v := .inl k) rfl (fun _ => rfl) h4 rfl rfl ?_
    refine gx_ld (i := 1) (d := 2) (v := gx_r 218) rfl (fun _ => rfl) h1 rfl rfl ?_
    refine gxo_get (a := 218) rfl g0 rfl rfl kn0 rfl ?_
    refine gx_2f (c := .ge) rfl (by first | decide | omega) (by first | decide | omega) (show ¬ (nn ≤ k) from by omega) rfl ?_
    refine gx_ld (i := 0) (d := 2) (v := gx_r 144) rfl (fun _ => rfl) h0 rfl rfl ?_
    refine gxo_ref (a := 144) (c := 188) rfl g0 rfl rfl rfl rfl rfl ?_
    refine gx_ld (i := 4) (d := 0) (v := .inl k) rfl (fun _ => rfl) h4 rfl rfl ?_
    refine gx_ld (i := 2) (d := 2) (v := gx_r (181 + m)) rfl (fun _ => rfl) h2 rfl rfl ?_
    refine gx_ld (i := 4) (d := 0) (v := .inl k) rfl (fun _ => rfl) h4 rfl rfl ?_
    refine gx_ag (c := 181 + m) (v := .inl (ltf r k)) (cb := fun c => Nat.beq c 0) rfl (fun _ => rfl) g0 (lst_G (by first | decide | omega)) rfl ((e0 (181 + m) k (by first | decide | omega)).trans (kr k (by first | decide | omega))) (by first | decide | omega) rfl ?_
    refine gx_ap rfl (fun _ => rfl) g0 rfl rfl rfl (show k < 6 from by omega) (gx_run1 (show k < 6 from by omega)) (gx_full (by first | decide | omega)) rfl (fun t101 g101 k101 e101 => ?_)
    have k2 : ai_hv t101 218 5 = some (.inl nn) := (e101 218 5 (by first | decide | omega)).trans kn0
    refine gx_incS (i := 4) (a := k) (x := 1) rfl (fun _ => rfl) h4 (by first | decide | omega) rfl (fun l3 hl3 ml3 => ?_)
    have l3_0 : en_ld l3 0 = some (gx_r 144) := ml3 0 _ h0 rfl
    have l3_1 : en_ld l3 1 = some (gx_r 218) := ml3 1 _ h1 rfl
    have l3_2 : en_ld l3 2 = some (gx_r (181 + m)) := ml3 2 _ h2 rfl
    refine ex_go (S := (76, l3, [], t101, n, 0)) rfl (fun _ => rfl) rfl ?_
    exact ih (k + 1) _ t101 (by first | decide | omega) g101 (fun c i h => (e101 c i (by first | decide | omega)).trans (e0 c i (by first | decide | omega))) (fun i hi => by
      by_cases e9 : i = k
      · rw [e9]; exact k101
      · exact (e101 188 i (by first | decide | omega)).trans (hc i (by first | decide | omega))) l3_0 l3_1 l3_2 hl3
theorem pc_weigh218 (d n : Nat) {t0 : en_H} {nn m : Nat} {r od : List Nat} {O : Nat → Nat} {b : Option (List Nat)} (g0 : ai_HG ah_G t0) (hm : m < 7) (hn : nn ≤ 6) (kn : ai_hv t0 218 5 = some (.inl nn)) (kO : ∀ i, i < nn → ai_hv t0 220 i = some (.inl (O i))) (hO : ∀ i, i < nn → O i ≤ 99) (ko : ∀ i, i < nn → ai_hv t0 179 i = some (.inl (ltf od i))) (hod : ∀ i, i < nn → ltf od i < nn) (kr : ∀ i, i < nn → ai_hv t0 (181 + m) i = some (.inl (ltf r i))) (hr : ∀ i, i < nn → ltf r i ≤ 12) (hrl : r.length = nn) (hB : CBs t0 O od nn b) : ∃ r', en_u (d + 2) 257 [gx_r 144, gx_r 218, gx_r (181 + m)] t0 n = some r' ∧ ∃ t', r' = (none, t', n, 0) ∧ ai_HG ah_G t' ∧ (∀ c i, ¬ (c = 188 ∨ (c = 144 ∧ i = 1)) → ai_hv t' c i = ai_hv t0 c i) ∧ CBs t' O od nn (upb O od nn b r) := by
  have hws := wsm_le (O := O) (od := od) (r := r) nn hr (fun i hi => hO _ (hod i hi))
  refine en_u_ex (d := d + 1) rfl ?_
  show en_ex _ _ _ _ (0, [(0, gx_r 144), (1, gx_r 218), (2, gx_r (181 + m))], [], t0, n, 0) _
  refine ex_go (S := (1, [(0, gx_r 144), (1, gx_r 218), (2, gx_r (181 + m))], [.inl 0], t0, n, 0)) rfl (fun _ => rfl) rfl ?_
  refine ex_go (S := (2, [(3, .inl 0), (0, gx_r 144), (1, gx_r 218), (2, gx_r (181 + m))], [], t0, n, 0)) rfl (fun _ => rfl) rfl ?_
  refine ex_go (S := (3, [(3, .inl 0), (0, gx_r 144), (1, gx_r 218), (2, gx_r (181 + m))], [.inl 0], t0, n, 0)) rfl (fun _ => rfl) rfl ?_
  refine ex_go (S := (5, [(4, .inl 0), (3, .inl 0), (0, gx_r 144), (1, gx_r 218), (2, gx_r (181 + m))], [], t0, n, 0)) rfl (fun _ => rfl) rfl ?_
  refine pc_wl218_a (r := r) (od := od) g0 hm hn kn kO hO ko hod kr hr (fun cl h0 h1 h2 h3 => ?_) nn 0 _ (by first | decide | omega) rfl rfl rfl rfl rfl
  cases b with
    | none =>
      have hq2 : ai_hv t0 144 1 = some (.inl 1000000000) := hB
      refine gx_ld (i := 3) (d := 0) (v := .inl (wsm O od r nn)) rfl (fun _ => rfl) h3 rfl rfl ?_
      refine gx_ld (i := 0) (d := 2) (v := gx_r 144) rfl (fun _ => rfl) h0 rfl rfl ?_
      refine gxo_get (a := 144) rfl g0 rfl rfl hq2 rfl ?_
      refine gx_2t (c := .lt) rfl (by first | decide | omega) (by first | decide | omega) (show wsm O od r nn < 1000000000 from by omega) rfl ?_
      refine gx_ld (i := 0) (d := 2) (v := gx_r 144) rfl (fun _ => rfl) h0 rfl rfl ?_
      refine gx_ld (i := 3) (d := 0) (v := .inl (wsm O od r nn)) rfl (fun _ => rfl) h3 rfl rfl ?_
      refine gxo_put (a := 144) rfl g0 rfl rfl rfl (gx_full (by first | decide | omega)) rfl (fun t101 g101 k101 e101 => ?_)
      have k2 : ai_hv t101 218 5 = some (.inl nn) := (e101 218 5 (by first | decide | omega)).trans kn
      refine ex_go (S := (74, cl, [.inl 0], t101, n, 0)) rfl (fun _ => rfl) rfl ?_
      refine gx_sto (i := 4) (d := 0) rfl (fun _ => rfl) rfl rfl (fun l3 hl3 ml3 => ?_)
      have l3_0 : en_ld l3 0 = some (gx_r 144) := ml3 0 _ h0 rfl
      have l3_1 : en_ld l3 1 = some (gx_r 218) := ml3 1 _ h1 rfl
      have l3_2 : en_ld l3 2 = some (gx_r (181 + m)) := ml3 2 _ h2 rfl
      have l3_3 : en_ld l3 3 = some (.inl (wsm O od r nn)) := ml3 3 _ h3 rfl
      have hu9 : upb O od nn none r = some r := rfl
      rw [hu9]
      exact pc_wl218_c (tb := t101) (m := m) (r := r) hm hn ((e101 218 5 (by first | decide | omega)).trans kn) (fun i hi => (e101 (181 + m) i (by first | decide | omega)).trans (kr i hi)) hr (fun t9 g9 e9 hc9 => ⟨_, rfl, t9, rfl, g9, (fun c i h => (e9 c i (by first | decide | omega)).trans (e101 c i (by first | decide | omega))), hrl, hr, (e9 144 1 (by first | decide | omega)).trans k101, hc9⟩) nn 0 _ t101 (by first | decide | omega) g101 (fun _ _ _ => rfl) (fun i h => absurd h (Nat.not_lt_zero i)) l3_0 l3_1 l3_2 hl3
    | some q =>
      obtain ⟨hq0, hq1, hq2, hq3⟩ := hB
      have hwq := wsm_le (O := O) (od := od) (r := q) nn hq1 (fun i hi => hO _ (hod i hi))
      refine gx_ld (i := 3) (d := 0) (v := .inl (wsm O od r nn)) rfl (fun _ => rfl) h3 rfl rfl ?_
      refine gx_ld (i := 0) (d := 2) (v := gx_r 144) rfl (fun _ => rfl) h0 rfl rfl ?_
      refine gxo_get (a := 144) rfl g0 rfl rfl hq2 rfl ?_
      by_cases hc4 : wsm O od r nn < wsm O od q nn
      · refine gx_2t (c := .lt) rfl (by first | decide | omega) (by first | decide | omega) hc4 rfl ?_
        refine gx_ld (i := 0) (d := 2) (v := gx_r 144) rfl (fun _ => rfl) h0 rfl rfl ?_
        refine gx_ld (i := 3) (d := 0) (v := .inl (wsm O od r nn)) rfl (fun _ => rfl) h3 rfl rfl ?_
        refine gxo_put (a := 144) rfl g0 rfl rfl rfl (gx_full (by first | decide | omega)) rfl (fun t105 g105 k105 e105 => ?_)
        have k6 : ai_hv t105 218 5 = some (.inl nn) := (e105 218 5 (by first | decide | omega)).trans kn
        refine ex_go (S := (74, cl, [.inl 0], t105, n, 0)) rfl (fun _ => rfl) rfl ?_
        refine gx_sto (i := 4) (d := 0) rfl (fun _ => rfl) rfl rfl (fun l7 hl7 ml7 => ?_)
        have l7_0 : en_ld l7 0 = some (gx_r 144) := ml7 0 _ h0 rfl
        have l7_1 : en_ld l7 1 = some (gx_r 218) := ml7 1 _ h1 rfl
        have l7_2 : en_ld l7 2 = some (gx_r (181 + m)) := ml7 2 _ h2 rfl
        have l7_3 : en_ld l7 3 = some (.inl (wsm O od r nn)) := ml7 3 _ h3 rfl
        have hu9 : upb O od nn (some q) r = some r := upb_t (O := O) (od := od) (n := nn) (r := r) (q := q) (Or.inl (by first | decide | omega))
        rw [hu9]
        exact pc_wl218_c (tb := t105) (m := m) (r := r) hm hn ((e105 218 5 (by first | decide | omega)).trans kn) (fun i hi => (e105 (181 + m) i (by first | decide | omega)).trans (kr i hi)) hr (fun t9 g9 e9 hc9 => ⟨_, rfl, t9, rfl, g9, (fun c i h => (e9 c i (by first | decide | omega)).trans (e105 c i (by first | decide | omega))), hrl, hr, (e9 144 1 (by first | decide | omega)).trans k105, hc9⟩) nn 0 _ t105 (by first | decide | omega) g105 (fun _ _ _ => rfl) (fun i h => absurd h (Nat.not_lt_zero i)) l7_0 l7_1 l7_2 hl7
      · refine gx_2f (c := .lt) rfl (by first | decide | omega) (by first | decide | omega) hc4 rfl ?_
        refine gx_ld (i := 3) (d := 0) (v := .inl (wsm O od r nn)) rfl (fun _ => rfl) h3 rfl rfl ?_
        refine gx_ld (i := 0) (d := 2) (v := gx_r 144) rfl (fun _ => rfl) h0 rfl rfl ?_
        refine gxo_get (a := 144) rfl g0 rfl rfl hq2 rfl ?_
        by_cases hc8 : wsm O od r nn ≠ wsm O od q nn
        · refine gx_2t (c := .ne) rfl (by first | decide | omega) (by first | decide | omega) hc8 rfl ?_
          refine ex_ret (r := (none, t0, n, 0)) rfl (fun _ => rfl) ?_
          have hu9 : upb O od nn (some q) r = some q := upb_f (O := O) (od := od) (n := nn) (r := r) (q := q) (fun z => by rcases z with z | ⟨z, z1⟩ <;> omega)
          rw [hu9]
          exact ⟨_, rfl, t0, rfl, g0, (fun _ _ _ => rfl), hq0, hq1, hq2, hq3⟩
        · refine gx_2f (c := .ne) rfl (by first | decide | omega) (by first | decide | omega) hc8 rfl ?_
          refine gx_ld (i := 0) (d := 2) (v := gx_r 144) rfl (fun _ => rfl) h0 rfl rfl ?_
          refine gx_ld (i := 2) (d := 2) (v := gx_r (181 + m)) rfl (fun _ => rfl) h2 rfl rfl ?_
          refine gx_ld (i := 1) (d := 2) (v := gx_r 218) rfl (fun _ => rfl) h1 rfl rfl ?_
          refine gxo_get (a := 218) rfl g0 rfl rfl kn rfl ?_
          obtain ⟨_, r109, b109, rfl, hb109, hi109⟩ := pc_isShorter d n (r := r) (q := q) g0 hm hn kr hr hq3 hq1
          refine gx_callo (a := 144) rfl rfl g0 rfl rfl rfl r109 rfl ?_
          show en_ex _ _ _ _ (65, cl, [.inl b109], t0, n, 0) _
          by_cases hc10 : b109 = 0
          · refine gx_1t (c := .eq) rfl (by first | decide | omega) hc10 rfl ?_
            refine ex_ret (r := (none, t0, n, 0)) rfl (fun _ => rfl) ?_
            have hu9 : upb O od nn (some q) r = some q := upb_f (O := O) (od := od) (n := nn) (r := r) (q := q) (fun z => by
              rcases z with z | ⟨z, z1⟩
              · omega
              · have := hi109.mpr z1
                omega)
            rw [hu9]
            exact ⟨_, rfl, t0, rfl, g0, (fun _ _ _ => rfl), hq0, hq1, hq2, hq3⟩
          · refine gx_1f (c := .eq) rfl (by first | decide | omega) hc10 rfl ?_
            refine gx_ld (i := 0) (d := 2) (v := gx_r 144) rfl (fun _ => rfl) h0 rfl rfl ?_
            refine gx_ld (i := 3) (d := 0) (v := .inl (wsm O od r nn)) rfl (fun _ => rfl) h3 rfl rfl ?_
            refine gxo_put (a := 144) rfl g0 rfl rfl rfl (gx_full (by first | decide | omega)) rfl (fun t111 g111 k111 e111 => ?_)
            have k12 : ai_hv t111 218 5 = some (.inl nn) := (e111 218 5 (by first | decide | omega)).trans kn
            refine ex_go (S := (74, cl, [.inl 0], t111, n, 0)) rfl (fun _ => rfl) rfl ?_
            refine gx_sto (i := 4) (d := 0) rfl (fun _ => rfl) rfl rfl (fun l13 hl13 ml13 => ?_)
            have l13_0 : en_ld l13 0 = some (gx_r 144) := ml13 0 _ h0 rfl
            have l13_1 : en_ld l13 1 = some (gx_r 218) := ml13 1 _ h1 rfl
            have l13_2 : en_ld l13 2 = some (gx_r (181 + m)) := ml13 2 _ h2 rfl
            have l13_3 : en_ld l13 3 = some (.inl (wsm O od r nn)) := ml13 3 _ h3 rfl
            have hu9 : upb O od nn (some q) r = some r := upb_t (O := O) (od := od) (n := nn) (r := r) (q := q) (Or.inr ⟨by omega, hi109.mp (by first | decide | omega)⟩)
            rw [hu9]
            exact pc_wl218_c (tb := t111) (m := m) (r := r) hm hn ((e111 218 5 (by first | decide | omega)).trans kn) (fun i hi => (e111 (181 + m) i (by first | decide | omega)).trans (kr i hi)) hr (fun t9 g9 e9 hc9 => ⟨_, rfl, t9, rfl, g9, (fun c i h => (e9 c i (by first | decide | omega)).trans (e111 c i (by first | decide | omega))), hrl, hr, (e9 144 1 (by first | decide | omega)).trans k111, hc9⟩) nn 0 _ t111 (by first | decide | omega) g111 (fun _ _ _ => rfl) (fun i h => absurd h (Nat.not_lt_zero i)) l13_0 l13_1 l13_2 hl13
noncomputable def CGp218 (fD : en_F) (n nn : Nat) (O : Nat → Nat) (od : List Nat) (m j : Nat) : Prop := ∀ (l : List Nat) (b : Option (List Nat)) (t : en_H), l.length = m → (∀ i, i < m → ltf l i ≤ 2 * m) → ai_HG ah_G t → LR t → ai_hv t 218 5 = some (.inl nn) → (∀ i, i < nn → ai_hv t 220 i = some (.inl (O i))) → (∀ i, i < nn → ai_hv t 179 i = some (.inl (ltf od i))) → (∀ i, i < m → ai_hv t (181 + m) i = some (.inl (ltf l i))) → CBs t O od nn b → ∃ r, fD 218 [gx_r 144, gx_r 218, .inl m] t n = some r ∧ ∃ t', r = (none, t', n, 0) ∧ ai_HG ah_G t' ∧ (∀ c i, ¬ ((181 + m < c ∧ c ≤ 187) ∨ c = 188 ∨ (c = 144 ∧ i = 1)) → ai_hv t' c i = ai_hv t c i) ∧ CBs t' O od nn ((clv j l).foldl (upb O od nn) b)
theorem pc_gr218_0 (d n : Nat) {nn : Nat} {O : Nat → Nat} {od : List Nat} (h1 : 1 ≤ nn) (hn : nn ≤ 6) (hO : ∀ i, i < nn → O i ≤ 99) (hod : ∀ i, i < nn → ltf od i < nn) : CGp218 (en_u (d + 3)) n nn O od nn 0 := fun l b t0 hll hl g0 hR kn kO ko kg hB => by
  refine en_u_ex (d := d + 2) rfl ?_
  show en_ex _ _ _ _ (0, [(0, gx_r 144), (1, gx_r 218), (2, .inl nn)], [], t0, n, 0) _
  refine ex_go (S := (1, [(0, gx_r 144), (1, gx_r 218), (2, .inl nn)], [.inl nn], t0, n, 0)) rfl (fun _ => rfl) rfl ?_
  refine ex_go (S := (2, [(0, gx_r 144), (1, gx_r 218), (2, .inl nn)], [gx_r 218, .inl nn], t0, n, 0)) rfl (fun _ => rfl) rfl ?_
  refine gxo_get (a := 218) rfl g0 rfl rfl kn rfl ?_
  refine gx_2f (c := .lt) rfl (by first | decide | omega) (by first | decide | omega) (show ¬ (nn < nn) from by omega) rfl ?_
  refine ex_go (S := (9, [(0, gx_r 144), (1, gx_r 218), (2, .inl nn)], [gx_r 144], t0, n, 0)) rfl (fun _ => rfl) rfl ?_
  refine ex_go (S := (10, [(0, gx_r 144), (1, gx_r 218), (2, .inl nn)], [gx_r 218, gx_r 144], t0, n, 0)) rfl (fun _ => rfl) rfl ?_
  refine ex_go (S := (11, [(0, gx_r 144), (1, gx_r 218), (2, .inl nn)], [gx_r 144, gx_r 218, gx_r 144], t0, n, 0)) rfl (fun _ => rfl) rfl ?_
  refine gxo_ref (a := 144) (c := 180) rfl g0 rfl rfl rfl rfl rfl ?_
  refine ex_go (S := (15, [(0, gx_r 144), (1, gx_r 218), (2, .inl nn)], [.inl nn, gx_r 180, gx_r 218, gx_r 144], t0, n, 0)) rfl (fun _ => rfl) rfl ?_
  refine gx_ag (v := gx_r (181 + nn)) (cb := fun c => Nat.ble 4 c && Nat.ble c 7) rfl (fun _ => rfl) g0 rfl rfl (hR nn (by first | decide | omega)) (by first | decide | omega) rfl ?_
  obtain ⟨_, r101, t101, rfl, g101, e101, hB101⟩ := pc_weigh218 d n (m := nn) (r := l) (od := od) (b := b) g0 (by first | decide | omega) hn kn kO hO ko hod kg (fun i hi => by have := hl i hi; omega) hll hB
  refine gx_callo (a := 144) rfl rfl g0 rfl rfl rfl r101 rfl ?_
  have k2 : ai_hv t101 218 5 = some (.inl nn) := (e101 218 5 (by first | decide | omega)).trans kn
  show en_ex _ _ _ _ (19, [(0, gx_r 144), (1, gx_r 218), (2, .inl nn)], [], t101, n, 0) _
  refine ex_ret (r := (none, t101, n, 0)) rfl (fun _ => rfl) ?_
  exact ⟨_, rfl, t101, rfl, g101, (fun c i h => e101 c i (by first | decide | omega)), hB101⟩
theorem pc_gr218_l {dd n nn m j : Nat} {tb : en_H} {O : Nat → Nat} {l od : List Nat} {b : Option (List Nat)} {Q : en_O → Prop} (hI : CGp218 (en_u (dd + 2)) n nn O od (m + 1) j) (hn1 : 1 ≤ nn) (hn : nn ≤ 6) (hO : ∀ i, i < nn → O i ≤ 99) (hod : ∀ i, i < nn → ltf od i < nn) (hm : 1 ≤ m) (hmn : m < nn) (hll : l.length = m) (hl : ∀ i, i < m → ltf l i ≤ 2 * m) (hR : LR tb) (kn : ai_hv tb 218 5 = some (.inl nn)) (kO : ∀ i, i < nn → ai_hv tb 220 i = some (.inl (O i))) (ko : ∀ i, i < nn → ai_hv tb 179 i = some (.inl (ltf od i))) (kg : ∀ i, i < m → ai_hv tb (181 + m) i = some (.inl (ltf l i))) (hQ : ∀ t1, ai_HG ah_G t1 → (∀ c i, ¬ ((181 + m < c ∧ c ≤ 187) ∨ c = 188 ∨ (c = 144 ∧ i = 1)) → ai_hv t1 c i = ai_hv tb c i) → CBs t1 O od nn ((clk j l m).foldl (upb O od nn) b) → Q (.inl (none, t1, n, 0))) : ∀ i k cl t0, k + i = m → ai_HG ah_G t0 → (∀ c i, ¬ ((181 + m < c ∧ c ≤ 187) ∨ c = 188 ∨ (c = 144 ∧ i = 1)) → ai_hv t0 c i = ai_hv tb c i) → CBs t0 O od nn ((clk j l k).foldl (upb O od nn) b) → en_ld cl 0 = some (gx_r 144) → en_ld cl 1 = some (gx_r 218) → en_ld cl 2 = some (.inl m) → en_ld cl 3 = some (.inl k) → en_ex none (en_u (dd + 2)) (en_code 218) (fun _ => false) (22, cl, [], t0, n, 0) Q := by
  intro i
  induction i with
  | zero =>
    intro k cl t0 hj g0 e0 hB h0 h1 h2 h3
    have hk : k = m := by omega
    rw [hk] at hB
    refine gx_ld (i := 3) (d := 0) (v := .inl k) rfl (fun _ => rfl) h3 rfl rfl ?_
    refine gx_ld (i := 2) (d := 0) (v := .inl m) rfl (fun _ => rfl) h2 rfl rfl ?_
    refine gx_2t (c := .ge) rfl (by first | decide | omega) (by first | decide | omega) (show m ≤ k from by omega) rfl ?_
    refine ex_ret (r := (none, t0, n, 0)) rfl (fun _ => rfl) ?_
    exact hQ t0 g0 e0 hB
  | succ i ih =>
    intro k cl t0 hj g0 e0 hB h0 h1 h2 h3
    refine gx_ld (i := 3) (d := 0) (v := .inl k) rfl (fun _ => rfl) h3 rfl rfl ?_
    refine gx_ld (i := 2) (d := 0) (v := .inl m) rfl (fun _ => rfl) h2 rfl rfl ?_
    refine gx_2f (c := .ge) rfl (by first | decide | omega) (by first | decide | omega) (show ¬ (m ≤ k) from by omega) rfl ?_
    refine gx_ld (i := 0) (d := 2) (v := gx_r 144) rfl (fun _ => rfl) h0 rfl rfl ?_
    refine gx_ld (i := 2) (d := 0) (v := .inl m) rfl (fun _ => rfl) h2 rfl rfl ?_
    refine gx_ld (i := 3) (d := 0) (v := .inl k) rfl (fun _ => rfl) h3 rfl rfl ?_
    obtain ⟨_, r101, t101, rfl, g101, e101, hc101⟩ := pc_parl dd n (m := m) (p9 := k) (l := l) g0 (fun q hq => (e0 180 q (by first | decide | omega)).trans (hR q hq)) (by first | decide | omega) (by first | decide | omega) hll (fun q hq => (e0 (181 + m) q (by first | decide | omega)).trans (kg q hq)) (fun q hq => by have := hl q hq; omega)
    refine gx_callo (a := 144) rfl rfl g0 rfl rfl rfl r101 rfl ?_
    show en_ex _ _ _ _ (33, cl, [], t101, n, 0) _
    refine gx_ld (i := 0) (d := 2) (v := gx_r 144) rfl (fun _ => rfl) h0 rfl rfl ?_
    refine gx_ld (i := 1) (d := 2) (v := gx_r 218) rfl (fun _ => rfl) h1 rfl rfl ?_
    refine gx_ld (i := 2) (d := 0) (v := .inl m) rfl (fun _ => rfl) h2 rfl rfl ?_
    refine ex_go (S := (37, cl, [.inl 1, .inl m, gx_r 218, gx_r 144], t101, n, 0)) rfl (fun _ => rfl) rfl ?_
    refine ex_iadd rfl (by first | decide | omega) rfl ?_
    have hl9 := ckid_len (l := l) (k := k) (by first | decide | omega)
    have hk9 := ckid_le (l := l) (k := k) (by rw [hll]; exact hl) (by first | decide | omega)
    rw [hll] at hl9 hk9
    obtain ⟨_, r102, t102, rfl, g102, e102, hB102⟩ := hI (ckid l k) ((clk j l k).foldl (upb O od nn) b) t101 hl9 hk9 g101 (fun q hq => ((e101 180 q (by first | decide | omega)).trans (e0 180 q (by first | decide | omega))).trans (hR q hq)) (((e101 218 5 (by first | decide | omega)).trans (e0 218 5 (by first | decide | omega))).trans (kn)) (fun q hq => ((e101 220 q (by first | decide | omega)).trans (e0 220 q (by first | decide | omega))).trans (kO q hq)) (fun q hq => ((e101 179 q (by first | decide | omega)).trans (e0 179 q (by first | decide | omega))).trans (ko q hq)) hc101 (CBs_keep hB (e101 144 1 (by first | decide | omega)) (fun q => e101 188 q (by first | decide | omega)))
    refine gx_callo (a := 144) rfl rfl g101 rfl rfl rfl r102 rfl ?_
    show en_ex _ _ _ _ (41, cl, [], t102, n, 0) _
    refine gx_incS (i := 3) (a := k) (x := 1) rfl (fun _ => rfl) h3 (by first | decide | omega) rfl (fun l3 hl3 ml3 => ?_)
    have l3_0 : en_ld l3 0 = some (gx_r 144) := ml3 0 _ h0 rfl
    have l3_1 : en_ld l3 1 = some (gx_r 218) := ml3 1 _ h1 rfl
    have l3_2 : en_ld l3 2 = some (.inl m) := ml3 2 _ h2 rfl
    refine ex_go (S := (22, l3, [], t102, n, 0)) rfl (fun _ => rfl) rfl ?_
    exact ih (k + 1) _ t102 (by first | decide | omega) g102 (fun c q h => ((e102 c q (by first | decide | omega)).trans (e101 c q (by first | decide | omega))).trans (e0 c q (by first | decide | omega))) (by rw [clk_s, List.foldl_append]; exact hB102) l3_0 l3_1 l3_2 hl3
theorem pc_gr218_s {dd n nn m j : Nat} {O : Nat → Nat} {od : List Nat} (hI : CGp218 (en_u (dd + 2)) n nn O od (m + 1) j) (hn1 : 1 ≤ nn) (hn : nn ≤ 6) (hO : ∀ i, i < nn → O i ≤ 99) (hod : ∀ i, i < nn → ltf od i < nn) (hm : 1 ≤ m) (hmn : m < nn) : CGp218 (en_u (dd + 3)) n nn O od m (j + 1) := fun l b t0 hll hl g0 hR kn kO ko kg hB => by
  refine en_u_ex (d := dd + 2) rfl ?_
  show en_ex _ _ _ _ (0, [(0, gx_r 144), (1, gx_r 218), (2, .inl m)], [], t0, n, 0) _
  refine ex_go (S := (1, [(0, gx_r 144), (1, gx_r 218), (2, .inl m)], [.inl m], t0, n, 0)) rfl (fun _ => rfl) rfl ?_
  refine ex_go (S := (2, [(0, gx_r 144), (1, gx_r 218), (2, .inl m)], [gx_r 218, .inl m], t0, n, 0)) rfl (fun _ => rfl) rfl ?_
  refine gxo_get (a := 218) rfl g0 rfl rfl kn rfl ?_
  refine gx_2t (c := .lt) rfl (by first | decide | omega) (by first | decide | omega) (show m < nn from by omega) rfl ?_
  refine ex_go (S := (21, [(0, gx_r 144), (1, gx_r 218), (2, .inl m)], [.inl 0], t0, n, 0)) rfl (fun _ => rfl) rfl ?_
  refine ex_go (S := (22, [(3, .inl 0), (0, gx_r 144), (1, gx_r 218), (2, .inl m)], [], t0, n, 0)) rfl (fun _ => rfl) rfl ?_
  exact pc_gr218_l (tb := t0) (l := l) (od := od) (b := b) hI hn1 hn hO hod hm hmn hll hl hR kn kO ko kg (fun t1 g1 e1 hB1 => ⟨_, rfl, t1, rfl, g1, e1, by
    show CBs t1 O od nn ((clk j l l.length).foldl (upb O od nn) b)
    rw [hll]
    exact hB1⟩) m 0 _ t0 (by first | decide | omega) g0 (fun _ _ _ => rfl) hB rfl rfl rfl rfl
theorem pc_gr218 (d n : Nat) {nn : Nat} {O : Nat → Nat} {od : List Nat} (h1 : 1 ≤ nn) (hn : nn ≤ 6) (hO : ∀ i, i < nn → O i ≤ 99) (hod : ∀ i, i < nn → ltf od i < nn) : ∀ j m, m + j = nn → 1 ≤ m → CGp218 (en_u (d + j + 3)) n nn O od m j
  | 0, m, hj, _ => by
    have e : m = nn := by omega
    subst e
    exact pc_gr218_0 d n h1 hn hO hod
  | j + 1, m, hj, hm => pc_gr218_s (dd := d + j + 1) (pc_gr218 d n h1 hn hO hod j (m + 1) (by first | decide | omega) (by first | decide | omega)) h1 hn hO hod hm (by first | decide | omega)
theorem pc_lamp218 (d n : Nat) {t0 : en_H} {nn : Nat} {O : Nat → Nat} (g0 : ai_HG ah_G t0) (h1 : 1 ≤ nn) (hR : LR t0) (kn : ai_hv t0 218 5 = some (.inl nn)) (hn : nn ≤ 6) (kO : ∀ i, i < nn → ai_hv t0 220 i = some (.inl (O i))) (hO : ∀ i, i < nn → O i ≤ 99) : ∃ r, en_u (d + 10) 154 [gx_r 144, gx_r 218] t0 n = some r ∧ ∃ t', r = (none, t', n, 0) ∧ ai_HG ah_G t' ∧ (∀ c i, ¬ (c = 179 ∨ (182 ≤ c ∧ c ≤ 188) ∨ (c = 144 ∧ i = 1)) → ai_hv t' c i = ai_hv t0 c i) ∧ (∀ i, i < nn → ai_hv t' 179 i = some (.inl (ltf (ordl O nn) i))) ∧ CBs t' O (ordl O nn) nn (cdb O nn) := by
  refine en_u_ex (d := d + 9) rfl ?_
  show en_ex _ _ _ _ (0, [(0, gx_r 144), (1, gx_r 218)], [], t0, n, 0) _
  refine ex_go (S := (1, [(0, gx_r 144), (1, gx_r 218)], [gx_r 144], t0, n, 0)) rfl (fun _ => rfl) rfl ?_
  refine ex_go (S := (2, [(0, gx_r 144), (1, gx_r 218)], [gx_r 218, gx_r 144], t0, n, 0)) rfl (fun _ => rfl) rfl ?_
  obtain ⟨_, r101, t101, rfl, g101, e101, ho101⟩ := pc_orderSigns218 (d + 8) n (nn := nn) (O := O) g0 kn hn kO hO
  refine gx_callo (a := 144) rfl rfl g0 rfl rfl rfl r101 rfl ?_
  have k2 : ai_hv t101 218 5 = some (.inl nn) := (e101 218 5 (by first | decide | omega)).trans kn
  show en_ex _ _ _ _ (5, [(0, gx_r 144), (1, gx_r 218)], [], t101, n, 0) _
  refine ex_go (S := (6, [(0, gx_r 144), (1, gx_r 218)], [gx_r 144], t101, n, 0)) rfl (fun _ => rfl) rfl ?_
  refine ex_go (S := (8, [(0, gx_r 144), (1, gx_r 218)], [.inl 1000000000, gx_r 144], t101, n, 0)) rfl (fun _ => rfl) rfl ?_
  refine gxo_put (a := 144) rfl g101 rfl rfl rfl (gx_full (by first | decide | omega)) rfl (fun t103 g103 k103 e103 => ?_)
  have k4 : ai_hv t103 218 5 = some (.inl nn) := (e103 218 5 (by first | decide | omega)).trans k2
  refine ex_go (S := (12, [(0, gx_r 144), (1, gx_r 218)], [gx_r 144], t103, n, 0)) rfl (fun _ => rfl) rfl ?_
  refine gxo_ref (a := 144) (c := 180) rfl g103 rfl rfl rfl rfl rfl ?_
  refine ex_go (S := (16, [(0, gx_r 144), (1, gx_r 218)], [.inl 1, gx_r 180], t103, n, 0)) rfl (fun _ => rfl) rfl ?_
  refine gx_ag (v := gx_r (181 + 1)) (cb := fun c => Nat.ble 4 c && Nat.ble c 7) rfl (fun _ => rfl) g103 rfl rfl (((e103 180 1 (by first | decide | omega)).trans (e101 180 1 (by first | decide | omega))).trans (hR 1 (by first | decide | omega))) (by first | decide | omega) rfl ?_
  refine ex_go (S := (18, [(0, gx_r 144), (1, gx_r 218)], [.inl 0, gx_r (181 + 1)], t103, n, 0)) rfl (fun _ => rfl) rfl ?_
  refine ex_go (S := (19, [(0, gx_r 144), (1, gx_r 218)], [gx_r 218, .inl 0, gx_r (181 + 1)], t103, n, 0)) rfl (fun _ => rfl) rfl ?_
  refine gxo_get (a := 218) rfl g103 rfl rfl k4 rfl ?_
  refine ex_go (S := (23, [(0, gx_r 144), (1, gx_r 218)], [.inl 1, .inl nn, .inl 0, gx_r (181 + 1)], t103, n, 0)) rfl (fun _ => rfl) rfl ?_
  by_cases hc5 : nn ≠ 1
  · refine gx_2t (c := .ne) rfl (by first | decide | omega) (by first | decide | omega) hc5 rfl ?_
    refine ex_go (S := (31, [(0, gx_r 144), (1, gx_r 218)], [.inl 0, .inl 0, gx_r (181 + 1)], t103, n, 0)) rfl (fun _ => rfl) rfl ?_
    refine gx_ap (c := 181 + 1) rfl (fun _ => rfl) g103 (lst_G (by first | decide | omega)) rfl rfl (show 0 < 6 from by omega) (gx_run1 (show 0 < 6 from by omega)) (gx_full (by first | decide | omega)) rfl (fun t106 g106 k106 e106 => ?_)
    have k7 : ai_hv t106 218 5 = some (.inl nn) := (e106 218 5 (by first | decide | omega)).trans k4
    have k8 : ai_hv t106 144 1 = some (.inl 1000000000) := (e106 144 1 (by first | decide | omega)).trans k103
    refine ex_go (S := (33, [(0, gx_r 144), (1, gx_r 218)], [gx_r 144], t106, n, 0)) rfl (fun _ => rfl) rfl ?_
    refine ex_go (S := (34, [(0, gx_r 144), (1, gx_r 218)], [gx_r 218, gx_r 144], t106, n, 0)) rfl (fun _ => rfl) rfl ?_
    refine ex_go (S := (35, [(0, gx_r 144), (1, gx_r 218)], [.inl 1, gx_r 218, gx_r 144], t106, n, 0)) rfl (fun _ => rfl) rfl ?_
    have hl0 : cdl0 nn = [0] := if_neg (by first | decide | omega)
    have hG9 := pc_gr218 (d + 7 - nn) n (nn := nn) (O := O) (od := ordl O nn) h1 hn hO (fun i hi => ordl_lt nn i hi) (nn - 1) 1 (by first | decide | omega) (by decide)
    rw [show d + 7 - nn + (nn - 1) + 3 = d + 9 by omega] at hG9
    obtain ⟨_, r109, t109, rfl, g109, e109, hB109⟩ := hG9 (cdl0 nn) none t106 (by rw [hl0]; rfl) (fun i hi => by
      have e9 : i = 0 := by omega
      rw [hl0, e9]; decide) g106 (fun q hq => (((e106 180 q (by first | decide | omega)).trans (e103 180 q (by first | decide | omega))).trans (e101 180 q (by first | decide | omega))).trans (hR q hq)) ((((e106 218 5 (by first | decide | omega)).trans (e103 218 5 (by first | decide | omega))).trans (e101 218 5 (by first | decide | omega))).trans (kn)) (fun i hi => (((e106 220 i (by first | decide | omega)).trans (e103 220 i (by first | decide | omega))).trans (e101 220 i (by first | decide | omega))).trans (kO i hi)) (fun i hi => ((e106 179 i (by first | decide | omega)).trans (e103 179 i (by first | decide | omega))).trans (ho101 i hi)) (fun i hi => by
      have e9 : i = 0 := by omega
      rw [hl0, e9]; exact k106) (show ai_hv t106 144 1 = some (.inl 1000000000) from k8)
    refine gx_callo (a := 144) rfl rfl g106 rfl rfl rfl r109 rfl ?_
    show en_ex _ _ _ _ (38, [(0, gx_r 144), (1, gx_r 218)], [], t109, n, 0) _
    refine ex_ret (r := (none, t109, n, 0)) rfl (fun _ => rfl) ?_
    exact ⟨_, rfl, t109, rfl, g109, (fun c i h => (((e109 c i (by first | decide | omega)).trans (e106 c i (by first | decide | omega))).trans (e103 c i (by first | decide | omega))).trans (e101 c i (by first | decide | omega))), (fun i hi => (e109 179 i (by first | decide | omega)).trans (((e106 179 i (by first | decide | omega)).trans (e103 179 i (by first | decide | omega))).trans (ho101 i hi))), (by unfold cdb; rw [cd_same h1 hn]; exact hB109)⟩
  · refine gx_2f (c := .ne) rfl (by first | decide | omega) (by first | decide | omega) hc5 rfl ?_
    refine ex_go (S := (27, [(0, gx_r 144), (1, gx_r 218)], [.inl 1, .inl 0, gx_r (181 + 1)], t103, n, 0)) rfl (fun _ => rfl) rfl ?_
    refine ex_go (S := (31, [(0, gx_r 144), (1, gx_r 218)], [.inl 1, .inl 0, gx_r (181 + 1)], t103, n, 0)) rfl (fun _ => rfl) rfl ?_
    refine gx_ap (c := 181 + 1) rfl (fun _ => rfl) g103 (lst_G (by first | decide | omega)) rfl rfl (show 0 < 6 from by omega) (gx_run1 (show 0 < 6 from by omega)) (gx_full (by first | decide | omega)) rfl (fun t110 g110 k110 e110 => ?_)
    have k11 : ai_hv t110 218 5 = some (.inl nn) := (e110 218 5 (by first | decide | omega)).trans k4
    have k12 : ai_hv t110 144 1 = some (.inl 1000000000) := (e110 144 1 (by first | decide | omega)).trans k103
    refine ex_go (S := (33, [(0, gx_r 144), (1, gx_r 218)], [gx_r 144], t110, n, 0)) rfl (fun _ => rfl) rfl ?_
    refine ex_go (S := (34, [(0, gx_r 144), (1, gx_r 218)], [gx_r 218, gx_r 144], t110, n, 0)) rfl (fun _ => rfl) rfl ?_
    refine ex_go (S := (35, [(0, gx_r 144), (1, gx_r 218)], [.inl 1, gx_r 218, gx_r 144], t110, n, 0)) rfl (fun _ => rfl) rfl ?_
    have hl0 : cdl0 nn = [1] := if_pos (by first | decide | omega)
    have hG9 := pc_gr218 (d + 7 - nn) n (nn := nn) (O := O) (od := ordl O nn) h1 hn hO (fun i hi => ordl_lt nn i hi) (nn - 1) 1 (by first | decide | omega) (by decide)
    rw [show d + 7 - nn + (nn - 1) + 3 = d + 9 by omega] at hG9
    obtain ⟨_, r113, t113, rfl, g113, e113, hB113⟩ := hG9 (cdl0 nn) none t110 (by rw [hl0]; rfl) (fun i hi => by
      have e9 : i = 0 := by omega
      rw [hl0, e9]; decide) g110 (fun q hq => (((e110 180 q (by first | decide | omega)).trans (e103 180 q (by first | decide | omega))).trans (e101 180 q (by first | decide | omega))).trans (hR q hq)) ((((e110 218 5 (by first | decide | omega)).trans (e103 218 5 (by first | decide | omega))).trans (e101 218 5 (by first | decide | omega))).trans (kn)) (fun i hi => (((e110 220 i (by first | decide | omega)).trans (e103 220 i (by first | decide | omega))).trans (e101 220 i (by first | decide | omega))).trans (kO i hi)) (fun i hi => ((e110 179 i (by first | decide | omega)).trans (e103 179 i (by first | decide | omega))).trans (ho101 i hi)) (fun i hi => by
      have e9 : i = 0 := by omega
      rw [hl0, e9]; exact k110) (show ai_hv t110 144 1 = some (.inl 1000000000) from k12)
    refine gx_callo (a := 144) rfl rfl g110 rfl rfl rfl r113 rfl ?_
    show en_ex _ _ _ _ (38, [(0, gx_r 144), (1, gx_r 218)], [], t113, n, 0) _
    refine ex_ret (r := (none, t113, n, 0)) rfl (fun _ => rfl) ?_
    exact ⟨_, rfl, t113, rfl, g113, (fun c i h => (((e113 c i (by first | decide | omega)).trans (e110 c i (by first | decide | omega))).trans (e103 c i (by first | decide | omega))).trans (e101 c i (by first | decide | omega))), (fun i hi => (e113 179 i (by first | decide | omega)).trans (((e110 179 i (by first | decide | omega)).trans (e103 179 i (by first | decide | omega))).trans (ho101 i hi))), (by unfold cdb; rw [cd_same h1 hn]; exact hB113)⟩
theorem pc_code191 (d n : Nat) {t0 : en_H} {nn x : Nat} {O : Nat → Nat} (g0 : ai_HG ah_G t0) (k10 : ai_hv t0 0 10 = some (gx_r 191)) (hR : LR t0) (kn : ai_hv t0 218 5 = some (.inl nn)) (hn : nn ≤ 6) (kO : ∀ i, i < nn → ai_hv t0 220 i = some (.inl (O i))) (hO : ∀ i, i < nn → O i ≤ 99) (hx : x < 4294967296) : ∃ r, en_u (d + 11) 77 [gx_r 0, .inl x] t0 n = some r ∧ ∃ v t', r = (some (.inl v), t', n, 0) ∧ ai_HG ah_G t' ∧ (∀ c i, ¬ (c = 179 ∨ (182 ≤ c ∧ c ≤ 188) ∨ (c = 144 ∧ i = 1)) → ai_hv t' c i = ai_hv t0 c i) ∧ cdA O nn x v := by
  by_cases hx9 : x = 4294967295
  · subst hx9
    refine en_u_ex (d := d + 10) rfl ?_
    show en_ex _ _ _ _ (0, [(0, gx_r 0), (1, .inl 4294967295)], [], t0, n, 0) _
    refine ex_go (S := (1, [(0, gx_r 0), (1, .inl 4294967295)], [gx_r 0], t0, n, 0)) rfl (fun _ => rfl) rfl ?_
    refine gxo_get (a := 0) rfl g0 rfl rfl k10 rfl ?_
    refine gxo_ref (a := 191) (c := 218) rfl g0 rfl rfl rfl rfl rfl ?_
    refine gxo_get (a := 218) rfl g0 rfl rfl kn rfl ?_
    by_cases hc1 : nn = 0
    · refine gx_1t (c := .eq) rfl (by first | decide | omega) hc1 rfl ?_
      refine ex_go (S := (34, [(0, gx_r 0), (1, .inl 4294967295)], [.inl 4294967294], t0, n, 0)) rfl (fun _ => rfl) rfl ?_
      refine ex_ret (r := (some (.inl 4294967294), t0, n, 0)) rfl (fun _ => rfl) ?_
      exact ⟨_, rfl, _, t0, rfl, g0, (fun c i h => rfl), fun _ => rfl, fun z1 z2 => absurd z1 (by first | decide | omega), fun z => absurd z (by first | decide | omega)⟩
    · refine gx_1f (c := .eq) rfl (by first | decide | omega) hc1 rfl ?_
      refine ex_go (S := (14, [(0, gx_r 0), (1, .inl 4294967295)], [.inl 4294967295], t0, n, 0)) rfl (fun _ => rfl) rfl ?_
      refine ex_go (S := (15, [(0, gx_r 0), (1, .inl 4294967295)], [.inl 4294967295, .inl 4294967295], t0, n, 0)) rfl (fun _ => rfl) rfl ?_
      refine ex_go (S := (35, [(0, gx_r 0), (1, .inl 4294967295)], [], t0, n, 0)) rfl (fun _ => rfl) rfl ?_
      refine ex_go (S := (36, [(0, gx_r 0), (1, .inl 4294967295)], [gx_r 0], t0, n, 0)) rfl (fun _ => rfl) rfl ?_
      refine gxo_ref (a := 0) (c := 144) rfl g0 rfl rfl rfl rfl rfl ?_
      refine ex_go (S := (40, [(0, gx_r 0), (1, .inl 4294967295)], [gx_r 0, gx_r 144], t0, n, 0)) rfl (fun _ => rfl) rfl ?_
      refine gxo_get (a := 0) rfl g0 rfl rfl k10 rfl ?_
      refine gxo_ref (a := 191) (c := 218) rfl g0 rfl rfl rfl rfl rfl ?_
      obtain ⟨_, r102, t102, rfl, g102, e102, ho102, hB102⟩ := pc_lamp218 d n (nn := nn) (O := O) g0 (by first | decide | omega) hR kn hn kO hO
      obtain ⟨q, hq9⟩ : ∃ q, cdb O nn = some q := by
        unfold cdb
        obtain ⟨q, a, -⟩ := upb_foldn (O := O) (od := ordl O nn) (n := nn) (L := rlv (nn - 1) (cdl0 nn)) (cd_ne (by first | decide | omega) hn)
        exact ⟨q, a⟩
      rw [hq9] at hB102
      obtain ⟨q0, q1, q2, q3⟩ := hB102
      have hwq := wsm_le (O := O) (od := ordl O nn) (r := q) nn q1 (fun i hi => hO _ (ordl_lt nn i hi))
      refine gx_callo (a := 144) rfl rfl g0 rfl rfl rfl r102 rfl ?_
      have k3 : ai_hv t102 0 10 = some (gx_r 191) := (e102 0 10 (by first | decide | omega)).trans k10
      have k4 : ai_hv t102 218 5 = some (.inl nn) := (e102 218 5 (by first | decide | omega)).trans kn
      show en_ex _ _ _ _ (49, [(0, gx_r 0), (1, .inl 4294967295)], [], t102, n, 0) _
      refine ex_go (S := (50, [(0, gx_r 0), (1, .inl 4294967295)], [.inl 4294967295], t102, n, 0)) rfl (fun _ => rfl) rfl ?_
      refine ex_go (S := (51, [(0, gx_r 0), (1, .inl 4294967295)], [.inl 4294967295, .inl 4294967295], t102, n, 0)) rfl (fun _ => rfl) rfl ?_
      refine ex_go (S := (54, [(0, gx_r 0), (1, .inl 4294967295)], [], t102, n, 0)) rfl (fun _ => rfl) rfl ?_
      refine ex_go (S := (55, [(0, gx_r 0), (1, .inl 4294967295)], [gx_r 0], t102, n, 0)) rfl (fun _ => rfl) rfl ?_
      refine gxo_ref (a := 0) (c := 144) rfl g102 rfl rfl rfl rfl rfl ?_
      refine gxo_get (a := 144) rfl g102 rfl rfl q2 rfl ?_
      refine ex_go (S := (82, [(0, gx_r 0), (1, .inl 4294967295)], [.inl (wsm O (ordl O nn) q nn)], t102, n, 0)) rfl (fun _ => rfl) rfl ?_
      refine ex_ret (r := (some (.inl (wsm O (ordl O nn) q nn)), t102, n, 0)) rfl (fun _ => rfl) ?_
      exact ⟨_, rfl, _, t102, rfl, g102, (fun c i h => e102 c i (by first | decide | omega)), fun z => absurd ⟨by omega, Or.inl rfl⟩ z, fun _ _ => ⟨q, hq9, rfl⟩, fun z => absurd z (by first | decide | omega)⟩
  · refine en_u_ex (d := d + 10) rfl ?_
    show en_ex _ _ _ _ (0, [(0, gx_r 0), (1, .inl x)], [], t0, n, 0) _
    refine ex_go (S := (1, [(0, gx_r 0), (1, .inl x)], [gx_r 0], t0, n, 0)) rfl (fun _ => rfl) rfl ?_
    refine gxo_get (a := 0) rfl g0 rfl rfl k10 rfl ?_
    refine gxo_ref (a := 191) (c := 218) rfl g0 rfl rfl rfl rfl rfl ?_
    refine gxo_get (a := 218) rfl g0 rfl rfl kn rfl ?_
    by_cases hc1 : nn = 0
    · refine gx_1t (c := .eq) rfl (by first | decide | omega) hc1 rfl ?_
      refine ex_go (S := (34, [(0, gx_r 0), (1, .inl x)], [.inl 4294967294], t0, n, 0)) rfl (fun _ => rfl) rfl ?_
      refine ex_ret (r := (some (.inl 4294967294), t0, n, 0)) rfl (fun _ => rfl) ?_
      exact ⟨_, rfl, _, t0, rfl, g0, (fun c i h => rfl), fun _ => rfl, fun z1 z2 => absurd z1 (by first | decide | omega), fun z => absurd z (by first | decide | omega)⟩
    · refine gx_1f (c := .eq) rfl (by first | decide | omega) hc1 rfl ?_
      refine ex_go (S := (14, [(0, gx_r 0), (1, .inl x)], [.inl x], t0, n, 0)) rfl (fun _ => rfl) rfl ?_
      refine ex_go (S := (15, [(0, gx_r 0), (1, .inl x)], [.inl 4294967295, .inl x], t0, n, 0)) rfl (fun _ => rfl) rfl ?_
      by_cases hneg : 2147483648 ≤ x
      · refine gx_2mmf (c := .eq) rfl (by first | decide | omega) (by first | decide | omega) rfl rfl ?_
        refine ex_go (S := (19, [(0, gx_r 0), (1, .inl x)], [gx_r 0], t0, n, 0)) rfl (fun _ => rfl) rfl ?_
        refine gxo_get (a := 0) rfl g0 rfl rfl k10 rfl ?_
        refine gxo_ref (a := 191) (c := 218) rfl g0 rfl rfl rfl rfl rfl ?_
        refine ex_go (S := (26, [(0, gx_r 0), (1, .inl x)], [.inl x, gx_r 218], t0, n, 0)) rfl (fun _ => rfl) rfl ?_
        obtain ⟨_, r102, b102, rfl, hb102, hi102⟩ := pz_holds218 (d + 9) n (x := x) g0 hx kn (by first | decide | omega)
        refine gx_callo (a := 218) rfl rfl g0 rfl rfl rfl r102 rfl ?_
        show en_ex _ _ _ _ (29, [(0, gx_r 0), (1, .inl x)], [.inl b102], t0, n, 0) _
        by_cases hc3 : b102 ≠ 0
        · refine gx_1t (c := .ne) rfl (by first | decide | omega) hc3 rfl ?_
          refine ex_go (S := (36, [(0, gx_r 0), (1, .inl x)], [gx_r 0], t0, n, 0)) rfl (fun _ => rfl) rfl ?_
          refine gxo_ref (a := 0) (c := 144) rfl g0 rfl rfl rfl rfl rfl ?_
          refine ex_go (S := (40, [(0, gx_r 0), (1, .inl x)], [gx_r 0, gx_r 144], t0, n, 0)) rfl (fun _ => rfl) rfl ?_
          refine gxo_get (a := 0) rfl g0 rfl rfl k10 rfl ?_
          refine gxo_ref (a := 191) (c := 218) rfl g0 rfl rfl rfl rfl rfl ?_
          obtain ⟨_, r104, t104, rfl, g104, e104, ho104, hB104⟩ := pc_lamp218 d n (nn := nn) (O := O) g0 (by first | decide | omega) hR kn hn kO hO
          obtain ⟨q, hq9⟩ : ∃ q, cdb O nn = some q := by
            unfold cdb
            obtain ⟨q, a, -⟩ := upb_foldn (O := O) (od := ordl O nn) (n := nn) (L := rlv (nn - 1) (cdl0 nn)) (cd_ne (by first | decide | omega) hn)
            exact ⟨q, a⟩
          rw [hq9] at hB104
          obtain ⟨q0, q1, q2, q3⟩ := hB104
          have hwq := wsm_le (O := O) (od := ordl O nn) (r := q) nn q1 (fun i hi => hO _ (ordl_lt nn i hi))
          refine gx_callo (a := 144) rfl rfl g0 rfl rfl rfl r104 rfl ?_
          have k5 : ai_hv t104 0 10 = some (gx_r 191) := (e104 0 10 (by first | decide | omega)).trans k10
          have k6 : ai_hv t104 218 5 = some (.inl nn) := (e104 218 5 (by first | decide | omega)).trans kn
          show en_ex _ _ _ _ (49, [(0, gx_r 0), (1, .inl x)], [], t104, n, 0) _
          refine ex_go (S := (50, [(0, gx_r 0), (1, .inl x)], [.inl x], t104, n, 0)) rfl (fun _ => rfl) rfl ?_
          refine ex_go (S := (51, [(0, gx_r 0), (1, .inl x)], [.inl 4294967295, .inl x], t104, n, 0)) rfl (fun _ => rfl) rfl ?_
          refine gx_2mt (c := .ne) rfl (by first | decide | omega) rfl rfl ?_
          refine ex_go (S := (65, [(0, gx_r 0), (1, .inl x)], [gx_r 0], t104, n, 0)) rfl (fun _ => rfl) rfl ?_
          refine gxo_ref (a := 0) (c := 144) rfl g104 rfl rfl rfl rfl rfl ?_
          refine ex_go (S := (69, [(0, gx_r 0), (1, .inl x)], [.inl x, gx_r 144], t104, n, 0)) rfl (fun _ => rfl) rfl ?_
          refine ex_go (S := (70, [(0, gx_r 0), (1, .inl x)], [gx_r 0, .inl x, gx_r 144], t104, n, 0)) rfl (fun _ => rfl) rfl ?_
          refine gxo_get (a := 0) rfl g104 rfl rfl k5 rfl ?_
          refine gxo_ref (a := 191) (c := 218) rfl g104 rfl rfl rfl rfl rfl ?_
          refine gxo_get (a := 218) rfl g104 rfl rfl k6 rfl ?_
          have hxn : x < nn := by omega
          obtain ⟨_, r107, v9, rfl, hv8, hv9⟩ := pc_lampRow (d + 9) n (q := q) (O := O) g104 hn hxn ho104 q3 q1
          refine gx_callo (a := 144) rfl rfl g104 rfl rfl rfl r107 rfl ?_
          show en_ex _ _ _ _ (82, [(0, gx_r 0), (1, .inl x)], [.inl v9], t104, n, 0) _
          refine ex_ret (r := (some (.inl v9), t104, n, 0)) rfl (fun _ => rfl) ?_
          exact ⟨_, rfl, _, t104, rfl, g104, (fun c i h => e104 c i (by first | decide | omega)), fun z => absurd ⟨by omega, Or.inr hxn⟩ z, fun _ z => absurd z (by first | decide | omega), fun _ => ⟨q, hq9, hv9⟩⟩
        · refine gx_1f (c := .ne) rfl (by first | decide | omega) hc3 rfl ?_
          refine ex_go (S := (34, [(0, gx_r 0), (1, .inl x)], [.inl 4294967294], t0, n, 0)) rfl (fun _ => rfl) rfl ?_
          refine ex_ret (r := (some (.inl 4294967294), t0, n, 0)) rfl (fun _ => rfl) ?_
          exact ⟨_, rfl, _, t0, rfl, g0, (fun c i h => rfl), fun _ => rfl, fun z1 z2 => absurd z1 (by first | decide | omega), fun z => absurd z (by first | decide | omega)⟩
      · refine gx_2mf (c := .eq) rfl (by first | decide | omega) rfl rfl ?_
        refine ex_go (S := (19, [(0, gx_r 0), (1, .inl x)], [gx_r 0], t0, n, 0)) rfl (fun _ => rfl) rfl ?_
        refine gxo_get (a := 0) rfl g0 rfl rfl k10 rfl ?_
        refine gxo_ref (a := 191) (c := 218) rfl g0 rfl rfl rfl rfl rfl ?_
        refine ex_go (S := (26, [(0, gx_r 0), (1, .inl x)], [.inl x, gx_r 218], t0, n, 0)) rfl (fun _ => rfl) rfl ?_
        obtain ⟨_, r108, b108, rfl, hb108, hi108⟩ := pz_holds218 (d + 9) n (x := x) g0 hx kn (by first | decide | omega)
        refine gx_callo (a := 218) rfl rfl g0 rfl rfl rfl r108 rfl ?_
        show en_ex _ _ _ _ (29, [(0, gx_r 0), (1, .inl x)], [.inl b108], t0, n, 0) _
        by_cases hc9 : b108 ≠ 0
        · refine gx_1t (c := .ne) rfl (by first | decide | omega) hc9 rfl ?_
          refine ex_go (S := (36, [(0, gx_r 0), (1, .inl x)], [gx_r 0], t0, n, 0)) rfl (fun _ => rfl) rfl ?_
          refine gxo_ref (a := 0) (c := 144) rfl g0 rfl rfl rfl rfl rfl ?_
          refine ex_go (S := (40, [(0, gx_r 0), (1, .inl x)], [gx_r 0, gx_r 144], t0, n, 0)) rfl (fun _ => rfl) rfl ?_
          refine gxo_get (a := 0) rfl g0 rfl rfl k10 rfl ?_
          refine gxo_ref (a := 191) (c := 218) rfl g0 rfl rfl rfl rfl rfl ?_
          obtain ⟨_, r110, t110, rfl, g110, e110, ho110, hB110⟩ := pc_lamp218 d n (nn := nn) (O := O) g0 (by first | decide | omega) hR kn hn kO hO
          obtain ⟨q, hq9⟩ : ∃ q, cdb O nn = some q := by
            unfold cdb
            obtain ⟨q, a, -⟩ := upb_foldn (O := O) (od := ordl O nn) (n := nn) (L := rlv (nn - 1) (cdl0 nn)) (cd_ne (by first | decide | omega) hn)
            exact ⟨q, a⟩
          rw [hq9] at hB110
          obtain ⟨q0, q1, q2, q3⟩ := hB110
          have hwq := wsm_le (O := O) (od := ordl O nn) (r := q) nn q1 (fun i hi => hO _ (ordl_lt nn i hi))
          refine gx_callo (a := 144) rfl rfl g0 rfl rfl rfl r110 rfl ?_
          have k11 : ai_hv t110 0 10 = some (gx_r 191) := (e110 0 10 (by first | decide | omega)).trans k10
          have k12 : ai_hv t110 218 5 = some (.inl nn) := (e110 218 5 (by first | decide | omega)).trans kn
          show en_ex _ _ _ _ (49, [(0, gx_r 0), (1, .inl x)], [], t110, n, 0) _
          refine ex_go (S := (50, [(0, gx_r 0), (1, .inl x)], [.inl x], t110, n, 0)) rfl (fun _ => rfl) rfl ?_
          refine ex_go (S := (51, [(0, gx_r 0), (1, .inl x)], [.inl 4294967295, .inl x], t110, n, 0)) rfl (fun _ => rfl) rfl ?_
          refine gx_2mt (c := .ne) rfl (by first | decide | omega) rfl rfl ?_
          refine ex_go (S := (65, [(0, gx_r 0), (1, .inl x)], [gx_r 0], t110, n, 0)) rfl (fun _ => rfl) rfl ?_
          refine gxo_ref (a := 0) (c := 144) rfl g110 rfl rfl rfl rfl rfl ?_
          refine ex_go (S := (69, [(0, gx_r 0), (1, .inl x)], [.inl x, gx_r 144], t110, n, 0)) rfl (fun _ => rfl) rfl ?_
          refine ex_go (S := (70, [(0, gx_r 0), (1, .inl x)], [gx_r 0, .inl x, gx_r 144], t110, n, 0)) rfl (fun _ => rfl) rfl ?_
          refine gxo_get (a := 0) rfl g110 rfl rfl k11 rfl ?_
          refine gxo_ref (a := 191) (c := 218) rfl g110 rfl rfl rfl rfl rfl ?_
          refine gxo_get (a := 218) rfl g110 rfl rfl k12 rfl ?_
          have hxn : x < nn := by omega
          obtain ⟨_, r113, v9, rfl, hv8, hv9⟩ := pc_lampRow (d + 9) n (q := q) (O := O) g110 hn hxn ho110 q3 q1
          refine gx_callo (a := 144) rfl rfl g110 rfl rfl rfl r113 rfl ?_
          show en_ex _ _ _ _ (82, [(0, gx_r 0), (1, .inl x)], [.inl v9], t110, n, 0) _
          refine ex_ret (r := (some (.inl v9), t110, n, 0)) rfl (fun _ => rfl) ?_
          exact ⟨_, rfl, _, t110, rfl, g110, (fun c i h => e110 c i (by first | decide | omega)), fun z => absurd ⟨by omega, Or.inr hxn⟩ z, fun _ z => absurd z (by first | decide | omega), fun _ => ⟨q, hq9, hv9⟩⟩
        · refine gx_1f (c := .ne) rfl (by first | decide | omega) hc9 rfl ?_
          refine ex_go (S := (34, [(0, gx_r 0), (1, .inl x)], [.inl 4294967294], t0, n, 0)) rfl (fun _ => rfl) rfl ?_
          refine ex_ret (r := (some (.inl 4294967294), t0, n, 0)) rfl (fun _ => rfl) ?_
          exact ⟨_, rfl, _, t0, rfl, g0, (fun c i h => rfl), fun _ => rfl, fun z1 z2 => absurd z1 (by first | decide | omega), fun z => absurd z (by first | decide | omega)⟩
theorem pz_holds284 (d n : Nat) {t0 : en_H} {x K : Nat} (g0 : ai_HG ah_G t0) (hx : x < 4294967296) (kK : ai_hv t0 284 5 = some (.inl K)) (hK : K ≤ 1000) : ∃ r, en_u (d + 1) 23 [gx_r 284, .inl x] t0 n = some r ∧ ∃ b, r = (some (.inl b), t0, n, 0) ∧ b ≤ 1 ∧ (b = 1 ↔ x < K) := by
  refine en_u_ex rfl ?_
  show en_ex _ _ _ _ (0, [(0, gx_r 284), (1, .inl x)], [], t0, n, 0) _
  by_cases hn : 2147483648 ≤ x
  · refine ex_go (S := (1, [(0, gx_r 284), (1, .inl x)], [.inl x], t0, n, 0)) rfl (fun _ => rfl) rfl ?_
    refine gx_negt (c := .lt) rfl (by first | decide | omega) (by first | decide | omega) rfl rfl ?_
    refine ex_go (S := (17, [(0, gx_r 284), (1, .inl x)], [.inl 0], t0, n, 0)) rfl (fun _ => rfl) rfl ?_
    refine ex_ret (r := (some (.inl 0), t0, n, 0)) rfl (fun _ => rfl) ?_
    exact ⟨_, rfl, 0, rfl, by omega, by omega⟩
  · refine ex_go (S := (1, [(0, gx_r 284), (1, .inl x)], [.inl x], t0, n, 0)) rfl (fun _ => rfl) rfl ?_
    by_cases hc1 : x < 0
    · refine gx_1t (c := .lt) rfl (by first | decide | omega) hc1 rfl ?_
      refine ex_go (S := (17, [(0, gx_r 284), (1, .inl x)], [.inl 0], t0, n, 0)) rfl (fun _ => rfl) rfl ?_
      refine ex_ret (r := (some (.inl 0), t0, n, 0)) rfl (fun _ => rfl) ?_
      exact ⟨_, rfl, 0, rfl, by omega, by omega⟩
    · refine gx_1f (c := .lt) rfl (by first | decide | omega) hc1 rfl ?_
      refine ex_go (S := (5, [(0, gx_r 284), (1, .inl x)], [.inl x], t0, n, 0)) rfl (fun _ => rfl) rfl ?_
      refine ex_go (S := (6, [(0, gx_r 284), (1, .inl x)], [gx_r 284, .inl x], t0, n, 0)) rfl (fun _ => rfl) rfl ?_
      refine gxo_get (a := 284) rfl g0 rfl rfl kK rfl ?_
      by_cases hc2 : K ≤ x
      · refine gx_2t (c := .ge) rfl (by first | decide | omega) (by first | decide | omega) hc2 rfl ?_
        refine ex_go (S := (17, [(0, gx_r 284), (1, .inl x)], [.inl 0], t0, n, 0)) rfl (fun _ => rfl) rfl ?_
        refine ex_ret (r := (some (.inl 0), t0, n, 0)) rfl (fun _ => rfl) ?_
        exact ⟨_, rfl, 0, rfl, by omega, by omega⟩
      · refine gx_2f (c := .ge) rfl (by first | decide | omega) (by first | decide | omega) hc2 rfl ?_
        refine ex_go (S := (13, [(0, gx_r 284), (1, .inl x)], [.inl 1], t0, n, 0)) rfl (fun _ => rfl) rfl ?_
        refine ex_go (S := (17, [(0, gx_r 284), (1, .inl x)], [.inl 1], t0, n, 0)) rfl (fun _ => rfl) rfl ?_
        refine ex_ret (r := (some (.inl 1), t0, n, 0)) rfl (fun _ => rfl) ?_
        exact ⟨_, rfl, 1, rfl, by omega, by omega⟩
theorem pc_ord284_i {fn : en_F} {n : Nat} {tb : en_H} {k : Nat} {f : Nat → Nat} {nn : Nat} {O : Nat → Nat} {Q : en_O → Prop} (hk : k < nn) (hn : nn ≤ 6) (kO : ∀ i, i < nn → ai_hv tb 286 i = some (.inl (O i))) (hO : ∀ i, i < nn → O i ≤ 99) (hf : ∀ i, i < k → f i < k) (hQ : ∀ cl t1, ai_HG ah_G t1 → (∀ c i, ¬ (c = 179 ∧ i ≤ k) → ai_hv t1 c i = ai_hv tb c i) → (∀ i, i ≤ k → ai_hv t1 179 i = some (.inl (inp f k (wlp (ltp O f k) k) i))) → en_ld cl 0 = some (gx_r 144) → en_ld cl 1 = some (gx_r 284) → en_ld cl 2 = some (.inl k) → en_ex none fn (en_code 217) (fun _ => false) (65, cl, [], t1, n, 0) Q) : ∀ j cl t0, j ≤ k → ai_HG ah_G t0 → (∀ c i, ¬ (c = 179 ∧ i ≤ k) → ai_hv t0 c i = ai_hv tb c i) → wlp (ltp O f k) j = wlp (ltp O f k) k → (∀ i, i < j → ai_hv t0 179 i = some (.inl (f i))) → (∀ i, j < i → i ≤ k → ai_hv t0 179 i = some (.inl (f (i - 1)))) → en_ld cl 0 = some (gx_r 144) → en_ld cl 1 = some (gx_r 284) → en_ld cl 2 = some (.inl k) → en_ld cl 3 = some (.inl j) → en_ex none fn (en_code 217) (fun _ => false) (12, cl, [], t0, n, 0) Q := by
  intro j
  induction j with
  | zero =>
    intro cl t0 hj g0 e0 hw hlo hhi h0 h1 h2 h3
    refine gx_ld (i := 3) (d := 0) (v := .inl 0) rfl (fun _ => rfl) h3 rfl rfl ?_
    refine ex_go (S := (58, cl, [], t0, n, 0)) rfl (fun _ => rfl) rfl ?_
    refine gx_ld (i := 0) (d := 2) (v := gx_r 144) rfl (fun _ => rfl) h0 rfl rfl ?_
    refine gxo_ref (a := 144) (c := 179) rfl g0 rfl rfl rfl rfl rfl ?_
    refine gx_ld (i := 3) (d := 0) (v := .inl 0) rfl (fun _ => rfl) h3 rfl rfl ?_
    refine gx_ld (i := 2) (d := 0) (v := .inl k) rfl (fun _ => rfl) h2 rfl rfl ?_
    refine gx_ap rfl (fun _ => rfl) g0 rfl rfl rfl (show 0 < 6 from by omega) (gx_run1 (show 0 < 6 from by omega)) (ai_in_h (by first | decide | omega) (by first | decide | omega) (by first | decide | omega)) rfl (fun t101 g101 k101 e101 => ?_)
    have hw0 : wlp (ltp O f k) k = 0 := hw.symm
    exact hQ _ t101 g101 (fun c i h => (e101 c i (by first | decide | omega)).trans (e0 c i (by first | decide | omega))) (fun i hi => by
      rw [hw0]
      by_cases e9 : i = 0
      · rw [e9, inp_eq]; exact k101
      · rw [inp_gt (by first | decide | omega)]; exact (e101 179 i (by first | decide | omega)).trans (hhi i (by first | decide | omega) hi)) h0 h1 h2
  | succ j ih =>
    intro cl t0 hj g0 e0 hw hlo hhi h0 h1 h2 h3
    refine gx_ld (i := 3) (d := 0) (v := .inl (j + 1)) rfl (fun _ => rfl) h3 rfl rfl ?_
    refine gx_1f (c := .le) rfl (by first | decide | omega) (show ¬ (j + 1 ≤ 0) from by omega) rfl ?_
    refine gx_ld (i := 1) (d := 2) (v := gx_r 284) rfl (fun _ => rfl) h1 rfl rfl ?_
    refine gxo_ref (a := 284) (c := 286) rfl g0 rfl rfl rfl rfl rfl ?_
    refine gx_ld (i := 0) (d := 2) (v := gx_r 144) rfl (fun _ => rfl) h0 rfl rfl ?_
    refine gxo_ref (a := 144) (c := 179) rfl g0 rfl rfl rfl rfl rfl ?_
    refine gx_ld (i := 3) (d := 0) (v := .inl (j + 1)) rfl (fun _ => rfl) h3 rfl rfl ?_
    refine ex_go (S := (26, cl, [.inl 1, .inl (j + 1), gx_r 179, gx_r 286], t0, n, 0)) rfl (fun _ => rfl) rfl ?_
    refine gx_isub rfl (by first | decide | omega) (by first | decide | omega) rfl ?_
    show en_ex _ _ _ _ (27, cl, [.inl j, gx_r 179, gx_r 286], t0, n, 0) _
    have hf9 := hf j (by first | decide | omega)
    refine gx_ag (v := .inl (f j)) (cb := fun c => Nat.beq c 0) rfl (fun _ => rfl) g0 rfl rfl (hlo j (by first | decide | omega)) (by first | decide | omega) rfl ?_
    have hO1 := hO (f j) (by first | decide | omega)
    refine gx_ag (v := .inl (O (f j))) (cb := fun c => Nat.beq c 0) rfl (fun _ => rfl) g0 rfl rfl ((e0 286 (f j) (by first | decide | omega)).trans (kO (f j) (by first | decide | omega))) (by first | decide | omega) rfl ?_
    refine gx_ld (i := 1) (d := 2) (v := gx_r 284) rfl (fun _ => rfl) h1 rfl rfl ?_
    refine gxo_ref (a := 284) (c := 286) rfl g0 rfl rfl rfl rfl rfl ?_
    refine gx_ld (i := 2) (d := 0) (v := .inl k) rfl (fun _ => rfl) h2 rfl rfl ?_
    have hO2 := hO k (by first | decide | omega)
    refine gx_ag (v := .inl (O k)) (cb := fun c => Nat.beq c 0) rfl (fun _ => rfl) g0 rfl rfl ((e0 286 k (by first | decide | omega)).trans (kO k (by first | decide | omega))) (by first | decide | omega) rfl ?_
    by_cases hc3 : O k ≤ O (f j)
    · refine gx_2t (c := .ge) rfl (by first | decide | omega) (by first | decide | omega) hc3 rfl ?_
      refine gx_ld (i := 0) (d := 2) (v := gx_r 144) rfl (fun _ => rfl) h0 rfl rfl ?_
      refine gxo_ref (a := 144) (c := 179) rfl g0 rfl rfl rfl rfl rfl ?_
      refine gx_ld (i := 3) (d := 0) (v := .inl (j + 1)) rfl (fun _ => rfl) h3 rfl rfl ?_
      refine gx_ld (i := 2) (d := 0) (v := .inl k) rfl (fun _ => rfl) h2 rfl rfl ?_
      refine gx_ap rfl (fun _ => rfl) g0 rfl rfl rfl (show j + 1 < 6 from by omega) (gx_run1 (show j + 1 < 6 from by omega)) (ai_in_h (by first | decide | omega) (by first | decide | omega) (by first | decide | omega)) rfl (fun t104 g104 k104 e104 => ?_)
      have k5 : ai_hv t104 179 j = some (.inl (f j)) := (e104 179 j (by first | decide | omega)).trans (hlo j (by first | decide | omega))
      have k6 : ai_hv t104 286 (f j) = some (.inl (O (f j))) := (e104 286 (f j) (by first | decide | omega)).trans ((e0 286 (f j) (by first | decide | omega)).trans (kO (f j) (by first | decide | omega)))
      have k7 : ai_hv t104 286 k = some (.inl (O k)) := (e104 286 k (by first | decide | omega)).trans ((e0 286 k (by first | decide | omega)).trans (kO k (by first | decide | omega)))
      have hP9 : (ltp O f k) j = false := decide_eq_false (by first | decide | omega)
      have hw0 : wlp (ltp O f k) k = j + 1 := hw.symm.trans (wlp_f hP9)
      exact hQ _ t104 g104 (fun c i h => (e104 c i (by first | decide | omega)).trans (e0 c i (by first | decide | omega))) (fun i hi => by
        rw [hw0]
        rcases Nat.lt_trichotomy i (j + 1) with e9 | e9 | e9
        · rw [inp_lt e9]; exact (e104 179 i (by first | decide | omega)).trans (hlo i e9)
        · rw [e9, inp_eq]; exact k104
        · rw [inp_gt e9]; exact (e104 179 i (by first | decide | omega)).trans (hhi i e9 hi)) h0 h1 h2
    · refine gx_2f (c := .ge) rfl (by first | decide | omega) (by first | decide | omega) hc3 rfl ?_
      refine gx_ld (i := 0) (d := 2) (v := gx_r 144) rfl (fun _ => rfl) h0 rfl rfl ?_
      refine gxo_ref (a := 144) (c := 179) rfl g0 rfl rfl rfl rfl rfl ?_
      refine gx_ld (i := 3) (d := 0) (v := .inl (j + 1)) rfl (fun _ => rfl) h3 rfl rfl ?_
      refine gx_ld (i := 0) (d := 2) (v := gx_r 144) rfl (fun _ => rfl) h0 rfl rfl ?_
      refine gxo_ref (a := 144) (c := 179) rfl g0 rfl rfl rfl rfl rfl ?_
      refine gx_ld (i := 3) (d := 0) (v := .inl (j + 1)) rfl (fun _ => rfl) h3 rfl rfl ?_
      refine ex_go (S := (49, cl, [.inl 1, .inl (j + 1), gx_r 179, .inl (j + 1), gx_r 179], t0, n, 0)) rfl (fun _ => rfl) rfl ?_
      refine gx_isub rfl (by first | decide | omega) (by first | decide | omega) rfl ?_
      show en_ex _ _ _ _ (50, cl, [.inl j, gx_r 179, .inl (j + 1), gx_r 179], t0, n, 0) _
      refine gx_ag (v := .inl (f j)) (cb := fun c => Nat.beq c 0) rfl (fun _ => rfl) g0 rfl rfl (hlo j (by first | decide | omega)) (by first | decide | omega) rfl ?_
      refine gx_ap rfl (fun _ => rfl) g0 rfl rfl rfl (show j + 1 < 6 from by omega) (gx_run1 (show j + 1 < 6 from by omega)) (ai_in_h (by first | decide | omega) (by first | decide | omega) (by first | decide | omega)) rfl (fun t108 g108 k108 e108 => ?_)
      have k9 : ai_hv t108 179 j = some (.inl (f j)) := (e108 179 j (by first | decide | omega)).trans (hlo j (by first | decide | omega))
      have k10 : ai_hv t108 286 (f j) = some (.inl (O (f j))) := (e108 286 (f j) (by first | decide | omega)).trans ((e0 286 (f j) (by first | decide | omega)).trans (kO (f j) (by first | decide | omega)))
      have k11 : ai_hv t108 286 k = some (.inl (O k)) := (e108 286 k (by first | decide | omega)).trans ((e0 286 k (by first | decide | omega)).trans (kO k (by first | decide | omega)))
      refine gx_decS (i := 3) (a := j + 1) rfl (fun _ => rfl) h3 (by first | decide | omega) (by first | decide | omega) rfl (fun l12 hl12 ml12 => ?_)
      have l12_0 : en_ld l12 0 = some (gx_r 144) := ml12 0 _ h0 rfl
      have l12_1 : en_ld l12 1 = some (gx_r 284) := ml12 1 _ h1 rfl
      have l12_2 : en_ld l12 2 = some (.inl k) := ml12 2 _ h2 rfl
      refine ex_go (S := (12, l12, [], t108, n, 0)) rfl (fun _ => rfl) rfl ?_
      have hP9 : (ltp O f k) j = true := decide_eq_true (show O (f j) < O k from by omega)
      exact ih _ t108 (by first | decide | omega) g108 (fun c i h => (e108 c i (by first | decide | omega)).trans (e0 c i (by first | decide | omega))) ((wlp_t hP9).symm.trans hw) (fun i hi => (e108 179 i (by first | decide | omega)).trans (hlo i (by first | decide | omega))) (fun i h1 h2 => by
        by_cases e9 : i = j + 1
        · rw [e9]; exact k108
        · exact (e108 179 i (by first | decide | omega)).trans (hhi i (by first | decide | omega) h2)) l12_0 l12_1 l12_2 hl12
theorem pc_ord284_o {fn : en_F} {n : Nat} {tb : en_H} {nn : Nat} {O : Nat → Nat}  {Q : en_O → Prop} (kn : ai_hv tb 284 5 = some (.inl nn)) (hn : nn ≤ 6) (kO : ∀ i, i < nn → ai_hv tb 286 i = some (.inl (O i))) (hO : ∀ i, i < nn → O i ≤ 99) (hQ : ∀ cl t1, ai_HG ah_G t1 → (∀ c i, c ≠ 179 → ai_hv t1 c i = ai_hv tb c i) → (∀ i, i < nn → ai_hv t1 179 i = some (.inl (ltf (ordl O nn) i))) → en_ex none fn (en_code 217) (fun _ => false) (71, cl, [], t1, n, 0) Q) : ∀ j k cl t0, k + j = nn → ai_HG ah_G t0 → (∀ c i, c ≠ 179 → ai_hv t0 c i = ai_hv tb c i) → (∀ i, i < k → ai_hv t0 179 i = some (.inl (ltf (ordl O k) i))) → en_ld cl 0 = some (gx_r 144) → en_ld cl 1 = some (gx_r 284) → en_ld cl 2 = some (.inl k) → en_ex none fn (en_code 217) (fun _ => false) (2, cl, [], t0, n, 0) Q := by
  intro j
  induction j with
  | zero =>
    intro k cl t0 hj g0 e0 hc h0 h1 h2
    have hk : k = nn := by omega
    rw [hk] at hc
    have kn0 := (e0 284 5 (by first | decide | omega)).trans kn
    refine gx_ld (i := 2) (d := 0) (v := .inl k) rfl (fun _ => rfl) h2 rfl rfl ?_
    refine gx_ld (i := 1) (d := 2) (v := gx_r 284) rfl (fun _ => rfl) h1 rfl rfl ?_
    refine gxo_get (a := 284) rfl g0 rfl rfl kn0 rfl ?_
    refine gx_2t (c := .ge) rfl (by first | decide | omega) (by first | decide | omega) (show nn ≤ k from by omega) rfl ?_
    exact hQ _ t0 g0 e0 hc
  | succ j ih =>
    intro k cl t0 hj g0 e0 hc h0 h1 h2
    have kn0 := (e0 284 5 (by first | decide | omega)).trans kn
    refine gx_ld (i := 2) (d := 0) (v := .inl k) rfl (fun _ => rfl) h2 rfl rfl ?_
    refine gx_ld (i := 1) (d := 2) (v := gx_r 284) rfl (fun _ => rfl) h1 rfl rfl ?_
    refine gxo_get (a := 284) rfl g0 rfl rfl kn0 rfl ?_
    refine gx_2f (c := .ge) rfl (by first | decide | omega) (by first | decide | omega) (show ¬ (nn ≤ k) from by omega) rfl ?_
    refine gx_ld (i := 2) (d := 0) (v := .inl k) rfl (fun _ => rfl) h2 rfl rfl ?_
    refine gx_sto (i := 3) (d := 0) rfl (fun _ => rfl) rfl rfl (fun l1 hl1 ml1 => ?_)
    have l1_0 : en_ld l1 0 = some (gx_r 144) := ml1 0 _ h0 rfl
    have l1_1 : en_ld l1 1 = some (gx_r 284) := ml1 1 _ h1 rfl
    have l1_2 : en_ld l1 2 = some (.inl k) := ml1 2 _ h2 rfl
    refine pc_ord284_i (tb := t0) (nn := nn) (k := k) (O := O) (f := ltf (ordl O k)) (by first | decide | omega) hn (fun i hi => (e0 286 i (by first | decide | omega)).trans (kO i hi)) hO (fun i hi => ordl_lt k i hi) (fun cl1 t1 g1 e1 hc1 m0 m1 m2 => ?_) k _ t0 (Nat.le_refl _) g0 (fun _ _ _ => rfl) rfl hc (fun i h1 h2 => absurd h2 (by first | decide | omega)) l1_0 l1_1 l1_2 hl1
    refine gx_incS (i := 2) (a := k) (x := 1) rfl (fun _ => rfl) m2 (by first | decide | omega) rfl (fun l2 hl2 ml2 => ?_)
    have l2_0 : en_ld l2 0 = some (gx_r 144) := ml2 0 _ m0 rfl
    have l2_1 : en_ld l2 1 = some (gx_r 284) := ml2 1 _ m1 rfl
    refine ex_go (S := (2, l2, [], t1, n, 0)) rfl (fun _ => rfl) rfl ?_
    exact ih (k + 1) _ t1 (by first | decide | omega) g1 (fun c i h => (e1 c i (by first | decide | omega)).trans (e0 c i h)) (fun i hi => by rw [ordl_at hi]; exact hc1 i (by first | decide | omega)) l2_0 l2_1 hl2
theorem pc_orderSigns284 (d n : Nat) {t0 : en_H} {nn : Nat} {O : Nat → Nat} (g0 : ai_HG ah_G t0) (kn : ai_hv t0 284 5 = some (.inl nn)) (hn : nn ≤ 6) (kO : ∀ i, i < nn → ai_hv t0 286 i = some (.inl (O i))) (hO : ∀ i, i < nn → O i ≤ 99) : ∃ r, en_u (d + 1) 217 [gx_r 144, gx_r 284] t0 n = some r ∧ ∃ t', r = (none, t', n, 0) ∧ ai_HG ah_G t' ∧ (∀ c i, c ≠ 179 → ai_hv t' c i = ai_hv t0 c i) ∧ ∀ i, i < nn → ai_hv t' 179 i = some (.inl (ltf (ordl O nn) i)) := by
  refine en_u_ex rfl ?_
  show en_ex _ _ _ _ (0, [(0, gx_r 144), (1, gx_r 284)], [], t0, n, 0) _
  refine ex_go (S := (1, [(0, gx_r 144), (1, gx_r 284)], [.inl 0], t0, n, 0)) rfl (fun _ => rfl) rfl ?_
  refine ex_go (S := (2, [(2, .inl 0), (0, gx_r 144), (1, gx_r 284)], [], t0, n, 0)) rfl (fun _ => rfl) rfl ?_
  refine pc_ord284_o (tb := t0) kn hn kO hO (fun cl t1 g1 e1 hc => ?_) nn 0 _ t0 (by first | decide | omega) g0 (fun _ _ _ => rfl) (fun i h => absurd h (Nat.not_lt_zero i)) rfl rfl rfl
  refine ex_ret (r := (none, t1, n, 0)) rfl (fun _ => rfl) ?_
  exact ⟨_, rfl, t1, rfl, g1, e1, hc⟩
theorem pc_wl284_a {fn : en_F} {n : Nat} {t0 : en_H} {nn m : Nat} {r od : List Nat} {O : Nat → Nat} {Q : en_O → Prop} (g0 : ai_HG ah_G t0) (hm : m < 7) (hn : nn ≤ 6) (kn : ai_hv t0 284 5 = some (.inl nn)) (kO : ∀ i, i < nn → ai_hv t0 286 i = some (.inl (O i))) (hO : ∀ i, i < nn → O i ≤ 99) (ko : ∀ i, i < nn → ai_hv t0 179 i = some (.inl (ltf od i))) (hod : ∀ i, i < nn → ltf od i < nn) (kr : ∀ i, i < nn → ai_hv t0 (181 + m) i = some (.inl (ltf r i))) (hr : ∀ i, i < nn → ltf r i ≤ 12) (hQ : ∀ cl, en_ld cl 0 = some (gx_r 144) → en_ld cl 1 = some (gx_r 284) → en_ld cl 2 = some (gx_r (181 + m)) → en_ld cl 3 = some (.inl (wsm O od r nn)) → en_ex none fn (en_code 257) (fun _ => false) (40, cl, [], t0, n, 0) Q) : ∀ j k cl, k + j = nn → en_ld cl 0 = some (gx_r 144) → en_ld cl 1 = some (gx_r 284) → en_ld cl 2 = some (gx_r (181 + m)) → en_ld cl 3 = some (.inl (wsm O od r k)) → en_ld cl 4 = some (.inl k) → en_ex none fn (en_code 257) (fun _ => false) (5, cl, [], t0, n, 0) Q := by
  intro j
  induction j with
  | zero =>
    intro k cl hj h0 h1 h2 h3 h4
    have hk : k = nn := by omega
    rw [hk] at h3
    refine gx_ld (i := 4) (d := 0) (v := .inl k) rfl (fun _ => rfl) h4 rfl rfl ?_
    refine gx_ld (i := 1) (d := 2) (v := gx_r 284) rfl (fun _ => rfl) h1 rfl rfl ?_
    refine gxo_get (a := 284) rfl g0 rfl rfl kn rfl ?_
    refine gx_2t (c := .ge) rfl (by first | decide | omega) (by first | decide | omega) (show nn ≤ k from by omega) rfl ?_
    exact hQ _ h0 h1 h2 h3
  | succ j ih =>
    intro k cl hj h0 h1 h2 h3 h4
    have hws := wsm_le (O := O) (od := od) (r := r) k (fun i hi => hr i (by first | decide | omega)) (fun i hi => hO _ (hod i (by first | decide | omega)))
    have hr9 := hr k (by first | decide | omega)
    have ho9 := hod k (by first | decide | omega)
    have hO9 := hO (ltf od k) ho9
    have hm9 : O (ltf od k) * ltf r k ≤ 99 * 12 := Nat.mul_le_mul hO9 hr9
    refine gx_ld (i := 4) (d := 0) (v := .inl k) rfl (fun _ => rfl) h4 rfl rfl ?_
    refine gx_ld (i := 1) (d := 2) (v := gx_r 284) rfl (fun _ => rfl) h1 rfl rfl ?_
    refine gxo_get (a := 284) rfl g0 rfl rfl kn rfl ?_
    refine gx_2f (c := .ge) rfl (by first | decide | omega) (by first | decide | omega) (show ¬ (nn ≤ k) from by omega) rfl ?_
    refine gx_ld (i := 3) (d := 0) (v := .inl (wsm O od r k)) rfl (fun _ => rfl) h3 rfl rfl ?_
    refine gx_ld (i := 1) (d := 2) (v := gx_r 284) rfl (fun _ => rfl) h1 rfl rfl ?_
    refine gxo_ref (a := 284) (c := 286) rfl g0 rfl rfl rfl rfl rfl ?_
    refine gx_ld (i := 0) (d := 2) (v := gx_r 144) rfl (fun _ => rfl) h0 rfl rfl ?_
    refine gxo_ref (a := 144) (c := 179) rfl g0 rfl rfl rfl rfl rfl ?_
    refine gx_ld (i := 4) (d := 0) (v := .inl k) rfl (fun _ => rfl) h4 rfl rfl ?_
    refine gx_ag (v := .inl (ltf od k)) (cb := fun c => Nat.beq c 0) rfl (fun _ => rfl) g0 rfl rfl (ko k (by first | decide | omega)) (by first | decide | omega) rfl ?_
    refine gx_ag (v := .inl (O (ltf od k))) (cb := fun c => Nat.beq c 0) rfl (fun _ => rfl) g0 rfl rfl (kO (ltf od k) ho9) (by first | decide | omega) rfl ?_
    refine gx_ld (i := 2) (d := 2) (v := gx_r (181 + m)) rfl (fun _ => rfl) h2 rfl rfl ?_
    refine gx_ld (i := 4) (d := 0) (v := .inl k) rfl (fun _ => rfl) h4 rfl rfl ?_
    refine gx_ag (c := 181 + m) (v := .inl (ltf r k)) (cb := fun c => Nat.beq c 0) rfl (fun _ => rfl) g0 (lst_G (by first | decide | omega)) rfl (kr k (by first | decide | omega)) (by first | decide | omega) rfl ?_
    refine gx_imul rfl (by first | decide | omega) rfl ?_
    refine ex_iadd rfl (by first | decide | omega) rfl ?_
    refine gx_sto (i := 3) (d := 0) rfl (fun _ => rfl) rfl rfl (fun l1 hl1 ml1 => ?_)
    have l1_0 : en_ld l1 0 = some (gx_r 144) := ml1 0 _ h0 rfl
    have l1_1 : en_ld l1 1 = some (gx_r 284) := ml1 1 _ h1 rfl
    have l1_2 : en_ld l1 2 = some (gx_r (181 + m)) := ml1 2 _ h2 rfl
    have l1_4 : en_ld l1 4 = some (.inl k) := ml1 4 _ h4 rfl
    refine gx_incS (i := 4) (a := k) (x := 1) rfl (fun _ => rfl) l1_4 (by first | decide | omega) rfl (fun l2 hl2 ml2 => ?_)
    have l2_0 : en_ld l2 0 = some (gx_r 144) := ml2 0 _ l1_0 rfl
    have l2_1 : en_ld l2 1 = some (gx_r 284) := ml2 1 _ l1_1 rfl
    have l2_2 : en_ld l2 2 = some (gx_r (181 + m)) := ml2 2 _ l1_2 rfl
    have l2_3 : en_ld l2 3 = some (.inl ((wsm O od r k) + ((O (ltf od k)) * (ltf r k)))) := ml2 3 _ hl1 rfl
    refine ex_go (S := (5, l2, [], t0, n, 0)) rfl (fun _ => rfl) rfl ?_
    exact ih (k + 1) _ (by first | decide | omega) l2_0 l2_1 l2_2 (by show _ = some (Sum.inl (wsm O od r k + ltf r k * O (ltf od k))); rw [Nat.mul_comm (ltf r k)]; exact l2_3) hl2
theorem pc_wl284_c {fn : en_F} {n : Nat} {tb : en_H} {nn m : Nat} {r : List Nat} {Q : en_O → Prop} (hm : m < 7) (hn : nn ≤ 6) (kn : ai_hv tb 284 5 = some (.inl nn)) (kr : ∀ i, i < nn → ai_hv tb (181 + m) i = some (.inl (ltf r i))) (hr : ∀ i, i < nn → ltf r i ≤ 12) (hQ : ∀ t1, ai_HG ah_G t1 → (∀ c i, c ≠ 188 → ai_hv t1 c i = ai_hv tb c i) → (∀ i, i < nn → ai_hv t1 188 i = some (.inl (ltf r i))) → Q (.inl (none, t1, n, 0))) : ∀ j k cl t0, k + j = nn → ai_HG ah_G t0 → (∀ c i, c ≠ 188 → ai_hv t0 c i = ai_hv tb c i) → (∀ i, i < k → ai_hv t0 188 i = some (.inl (ltf r i))) → en_ld cl 0 = some (gx_r 144) → en_ld cl 1 = some (gx_r 284) → en_ld cl 2 = some (gx_r (181 + m)) → en_ld cl 4 = some (.inl k) → en_ex none fn (en_code 257) (fun _ => false) (76, cl, [], t0, n, 0) Q := by
  intro j
  induction j with
  | zero =>
    intro k cl t0 hj g0 e0 hc h0 h1 h2 h4
    have kn0 := (e0 284 5 (by first | decide | omega)).trans kn
    have hk : k = nn := by omega
    rw [hk] at hc
    refine gx_ld (i := 4) (d := 0) (v := .inl k) rfl (fun _ => rfl) h4 rfl rfl ?_
    refine gx_ld (i := 1) (d := 2) (v := gx_r 284) rfl (fun _ => rfl) h1 rfl rfl ?_
    refine gxo_get (a := 284) rfl g0 rfl rfl kn0 rfl ?_
    refine gx_2t (c := .ge) rfl (by first | decide | omega) (by first | decide | omega) (show nn ≤ k from by omega) rfl ?_
    refine ex_ret (r := (none, t0, n, 0)) rfl (fun _ => rfl) ?_
    exact hQ t0 g0 e0 hc
  | succ j ih =>
    intro k cl t0 hj g0 e0 hc h0 h1 h2 h4
    have kn0 := (e0 284 5 (by first | decide | omega)).trans kn
    have hr9 := hr k (by first | decide | omega)
    refine gx_ld (i := 4) (d := 0) (v := .inl k) rfl (fun _ => rfl) h4 rfl rfl ?_
    refine gx_ld (i := 1) (d := 2) (v := gx_r 284) rfl (fun _ => rfl) h1 rfl rfl ?_
    refine gxo_get (a := 284) rfl g0 rfl rfl kn0 rfl ?_
    refine gx_2f (c := .ge) rfl (by first | decide | omega) (by first | decide | omega) (show ¬ (nn ≤ k) from by omega) rfl ?_
    refine gx_ld (i := 0) (d := 2) (v := gx_r 144) rfl (fun _ => rfl) h0 rfl rfl ?_
    refine gxo_ref (a := 144) (c := 188) rfl g0 rfl rfl rfl rfl rfl ?_
    refine gx_ld (i := 4) (d := 0) (v := .inl k) rfl (fun _ => rfl) h4 rfl rfl ?_
    refine gx_ld (i := 2) (d := 2) (v := gx_r (181 + m)) rfl (fun _ => rfl) h2 rfl rfl ?_
    refine gx_ld (i := 4) (d := 0) (v := .inl k) rfl (fun _ => rfl) h4 rfl rfl ?_
    refine gx_ag (c := 181 + m) (v := .inl (ltf r k)) (cb := fun c => Nat.beq c 0) rfl (fun _ => rfl) g0 (lst_G (by first | decide | omega)) rfl ((e0 (181 + m) k (by first | decide | omega)).trans (kr k (by first | decide | omega))) (by first | decide | omega) rfl ?_
    refine gx_ap rfl (fun _ => rfl) g0 rfl rfl rfl (show k < 6 from by omega) (gx_run1 (show k < 6 from by omega)) (gx_full (by first | decide | omega)) rfl (fun t101 g101 k101 e101 => ?_)
    have k2 : ai_hv t101 284 5 = some (.inl nn) := (e101 284 5 (by first | decide | omega)).trans kn0
    refine gx_incS (i := 4) (a := k) (x := 1) rfl (fun _ => rfl) h4 (by first | decide | omega) rfl (fun l3 hl3 ml3 => ?_)
    have l3_0 : en_ld l3 0 = some (gx_r 144) := ml3 0 _ h0 rfl
    have l3_1 : en_ld l3 1 = some (gx_r 284) := ml3 1 _ h1 rfl
    have l3_2 : en_ld l3 2 = some (gx_r (181 + m)) := ml3 2 _ h2 rfl
    refine ex_go (S := (76, l3, [], t101, n, 0)) rfl (fun _ => rfl) rfl ?_
    exact ih (k + 1) _ t101 (by first | decide | omega) g101 (fun c i h => (e101 c i (by first | decide | omega)).trans (e0 c i (by first | decide | omega))) (fun i hi => by
      by_cases e9 : i = k
      · rw [e9]; exact k101
      · exact (e101 188 i (by first | decide | omega)).trans (hc i (by first | decide | omega))) l3_0 l3_1 l3_2 hl3
theorem pc_weigh284 (d n : Nat) {t0 : en_H} {nn m : Nat} {r od : List Nat} {O : Nat → Nat} {b : Option (List Nat)} (g0 : ai_HG ah_G t0) (hm : m < 7) (hn : nn ≤ 6) (kn : ai_hv t0 284 5 = some (.inl nn)) (kO : ∀ i, i < nn → ai_hv t0 286 i = some (.inl (O i))) (hO : ∀ i, i < nn → O i ≤ 99) (ko : ∀ i, i < nn → ai_hv t0 179 i = some (.inl (ltf od i))) (hod : ∀ i, i < nn → ltf od i < nn) (kr : ∀ i, i < nn → ai_hv t0 (181 + m) i = some (.inl (ltf r i))) (hr : ∀ i, i < nn → ltf r i ≤ 12) (hrl : r.length = nn) (hB : CBs t0 O od nn b) : ∃ r', en_u (d + 2) 257 [gx_r 144, gx_r 284, gx_r (181 + m)] t0 n = some r' ∧ ∃ t', r' = (none, t', n, 0) ∧ ai_HG ah_G t' ∧ (∀ c i, ¬ (c = 188 ∨ (c = 144 ∧ i = 1)) → ai_hv t' c i = ai_hv t0 c i) ∧ CBs t' O od nn (upb O od nn b r) := by
  have hws := wsm_le (O := O) (od := od) (r := r) nn hr (fun i hi => hO _ (hod i hi))
  refine en_u_ex (d := d + 1) rfl ?_
  show en_ex _ _ _ _ (0, [(0, gx_r 144), (1, gx_r 284), (2, gx_r (181 + m))], [], t0, n, 0) _
  refine ex_go (S := (1, [(0, gx_r 144), (1, gx_r 284), (2, gx_r (181 + m))], [.inl 0], t0, n, 0)) rfl (fun _ => rfl) rfl ?_
  refine ex_go (S := (2, [(3, .inl 0), (0, gx_r 144), (1, gx_r 284), (2, gx_r (181 + m))], [], t0, n, 0)) rfl (fun _ => rfl) rfl ?_
  refine ex_go (S := (3, [(3, .inl 0), (0, gx_r 144), (1, gx_r 284), (2, gx_r (181 + m))], [.inl 0], t0, n, 0)) rfl (fun _ => rfl) rfl ?_
  refine ex_go (S := (5, [(4, .inl 0), (3, .inl 0), (0, gx_r 144), (1, gx_r 284), (2, gx_r (181 + m))], [], t0, n, 0)) rfl (fun _ => rfl) rfl ?_
  refine pc_wl284_a (r := r) (od := od) g0 hm hn kn kO hO ko hod kr hr (fun cl h0 h1 h2 h3 => ?_) nn 0 _ (by first | decide | omega) rfl rfl rfl rfl rfl
  cases b with
    | none =>
      have hq2 : ai_hv t0 144 1 = some (.inl 1000000000) := hB
      refine gx_ld (i := 3) (d := 0) (v := .inl (wsm O od r nn)) rfl (fun _ => rfl) h3 rfl rfl ?_
      refine gx_ld (i := 0) (d := 2) (v := gx_r 144) rfl (fun _ => rfl) h0 rfl rfl ?_
      refine gxo_get (a := 144) rfl g0 rfl rfl hq2 rfl ?_
      refine gx_2t (c := .lt) rfl (by first | decide | omega) (by first | decide | omega) (show wsm O od r nn < 1000000000 from by omega) rfl ?_
      refine gx_ld (i := 0) (d := 2) (v := gx_r 144) rfl (fun _ => rfl) h0 rfl rfl ?_
      refine gx_ld (i := 3) (d := 0) (v := .inl (wsm O od r nn)) rfl (fun _ => rfl) h3 rfl rfl ?_
      refine gxo_put (a := 144) rfl g0 rfl rfl rfl (gx_full (by first | decide | omega)) rfl (fun t101 g101 k101 e101 => ?_)
      have k2 : ai_hv t101 284 5 = some (.inl nn) := (e101 284 5 (by first | decide | omega)).trans kn
      refine ex_go (S := (74, cl, [.inl 0], t101, n, 0)) rfl (fun _ => rfl) rfl ?_
      refine gx_sto (i := 4) (d := 0) rfl (fun _ => rfl) rfl rfl (fun l3 hl3 ml3 => ?_)
      have l3_0 : en_ld l3 0 = some (gx_r 144) := ml3 0 _ h0 rfl
      have l3_1 : en_ld l3 1 = some (gx_r 284) := ml3 1 _ h1 rfl
      have l3_2 : en_ld l3 2 = some (gx_r (181 + m)) := ml3 2 _ h2 rfl
      have l3_3 : en_ld l3 3 = some (.inl (wsm O od r nn)) := ml3 3 _ h3 rfl
      have hu9 : upb O od nn none r = some r := rfl
      rw [hu9]
      exact pc_wl284_c (tb := t101) (m := m) (r := r) hm hn ((e101 284 5 (by first | decide | omega)).trans kn) (fun i hi => (e101 (181 + m) i (by first | decide | omega)).trans (kr i hi)) hr (fun t9 g9 e9 hc9 => ⟨_, rfl, t9, rfl, g9, (fun c i h => (e9 c i (by first | decide | omega)).trans (e101 c i (by first | decide | omega))), hrl, hr, (e9 144 1 (by first | decide | omega)).trans k101, hc9⟩) nn 0 _ t101 (by first | decide | omega) g101 (fun _ _ _ => rfl) (fun i h => absurd h (Nat.not_lt_zero i)) l3_0 l3_1 l3_2 hl3
    | some q =>
      obtain ⟨hq0, hq1, hq2, hq3⟩ := hB
      have hwq := wsm_le (O := O) (od := od) (r := q) nn hq1 (fun i hi => hO _ (hod i hi))
      refine gx_ld (i := 3) (d := 0) (v := .inl (wsm O od r nn)) rfl (fun _ => rfl) h3 rfl rfl ?_
      refine gx_ld (i := 0) (d := 2) (v := gx_r 144) rfl (fun _ => rfl) h0 rfl rfl ?_
      refine gxo_get (a := 144) rfl g0 rfl rfl hq2 rfl ?_
      by_cases hc4 : wsm O od r nn < wsm O od q nn
      · refine gx_2t (c := .lt) rfl (by first | decide | omega) (by first | decide | omega) hc4 rfl ?_
        refine gx_ld (i := 0) (d := 2) (v := gx_r 144) rfl (fun _ => rfl) h0 rfl rfl ?_
        refine gx_ld (i := 3) (d := 0) (v := .inl (wsm O od r nn)) rfl (fun _ => rfl) h3 rfl rfl ?_
        refine gxo_put (a := 144) rfl g0 rfl rfl rfl (gx_full (by first | decide | omega)) rfl (fun t105 g105 k105 e105 => ?_)
        have k6 : ai_hv t105 284 5 = some (.inl nn) := (e105 284 5 (by first | decide | omega)).trans kn
        refine ex_go (S := (74, cl, [.inl 0], t105, n, 0)) rfl (fun _ => rfl) rfl ?_
        refine gx_sto (i := 4) (d := 0) rfl (fun _ => rfl) rfl rfl (fun l7 hl7 ml7 => ?_)
        have l7_0 : en_ld l7 0 = some (gx_r 144) := ml7 0 _ h0 rfl
        have l7_1 : en_ld l7 1 = some (gx_r 284) := ml7 1 _ h1 rfl
        have l7_2 : en_ld l7 2 = some (gx_r (181 + m)) := ml7 2 _ h2 rfl
        have l7_3 : en_ld l7 3 = some (.inl (wsm O od r nn)) := ml7 3 _ h3 rfl
        have hu9 : upb O od nn (some q) r = some r := upb_t (O := O) (od := od) (n := nn) (r := r) (q := q) (Or.inl (by first | decide | omega))
        rw [hu9]
        exact pc_wl284_c (tb := t105) (m := m) (r := r) hm hn ((e105 284 5 (by first | decide | omega)).trans kn) (fun i hi => (e105 (181 + m) i (by first | decide | omega)).trans (kr i hi)) hr (fun t9 g9 e9 hc9 => ⟨_, rfl, t9, rfl, g9, (fun c i h => (e9 c i (by first | decide | omega)).trans (e105 c i (by first | decide | omega))), hrl, hr, (e9 144 1 (by first | decide | omega)).trans k105, hc9⟩) nn 0 _ t105 (by first | decide | omega) g105 (fun _ _ _ => rfl) (fun i h => absurd h (Nat.not_lt_zero i)) l7_0 l7_1 l7_2 hl7
      · refine gx_2f (c := .lt) rfl (by first | decide | omega) (by first | decide | omega) hc4 rfl ?_
        refine gx_ld (i := 3) (d := 0) (v := .inl (wsm O od r nn)) rfl (fun _ => rfl) h3 rfl rfl ?_
        refine gx_ld (i := 0) (d := 2) (v := gx_r 144) rfl (fun _ => rfl) h0 rfl rfl ?_
        refine gxo_get (a := 144) rfl g0 rfl rfl hq2 rfl ?_
        by_cases hc8 : wsm O od r nn ≠ wsm O od q nn
        · refine gx_2t (c := .ne) rfl (by first | decide | omega) (by first | decide | omega) hc8 rfl ?_
          refine ex_ret (r := (none, t0, n, 0)) rfl (fun _ => rfl) ?_
          have hu9 : upb O od nn (some q) r = some q := upb_f (O := O) (od := od) (n := nn) (r := r) (q := q) (fun z => by rcases z with z | ⟨z, z1⟩ <;> omega)
          rw [hu9]
          exact ⟨_, rfl, t0, rfl, g0, (fun _ _ _ => rfl), hq0, hq1, hq2, hq3⟩
        · refine gx_2f (c := .ne) rfl (by first | decide | omega) (by first | decide | omega) hc8 rfl ?_
          refine gx_ld (i := 0) (d := 2) (v := gx_r 144) rfl (fun _ => rfl) h0 rfl rfl ?_
          refine gx_ld (i := 2) (d := 2) (v := gx_r (181 + m)) rfl (fun _ => rfl) h2 rfl rfl ?_
          refine gx_ld (i := 1) (d := 2) (v := gx_r 284) rfl (fun _ => rfl) h1 rfl rfl ?_
          refine gxo_get (a := 284) rfl g0 rfl rfl kn rfl ?_
          obtain ⟨_, r109, b109, rfl, hb109, hi109⟩ := pc_isShorter d n (r := r) (q := q) g0 hm hn kr hr hq3 hq1
          refine gx_callo (a := 144) rfl rfl g0 rfl rfl rfl r109 rfl ?_
          show en_ex _ _ _ _ (65, cl, [.inl b109], t0, n, 0) _
          by_cases hc10 : b109 = 0
          · refine gx_1t (c := .eq) rfl (by first | decide | omega) hc10 rfl ?_
            refine ex_ret (r := (none, t0, n, 0)) rfl (fun _ => rfl) ?_
            have hu9 : upb O od nn (some q) r = some q := upb_f (O := O) (od := od) (n := nn) (r := r) (q := q) (fun z => by
              rcases z with z | ⟨z, z1⟩
              · omega
              · have := hi109.mpr z1
                omega)
            rw [hu9]
            exact ⟨_, rfl, t0, rfl, g0, (fun _ _ _ => rfl), hq0, hq1, hq2, hq3⟩
          · refine gx_1f (c := .eq) rfl (by first | decide | omega) hc10 rfl ?_
            refine gx_ld (i := 0) (d := 2) (v := gx_r 144) rfl (fun _ => rfl) h0 rfl rfl ?_
            refine gx_ld (i := 3) (d := 0) (v := .inl (wsm O od r nn)) rfl (fun _ => rfl) h3 rfl rfl ?_
            refine gxo_put (a := 144) rfl g0 rfl rfl rfl (gx_full (by first | decide | omega)) rfl (fun t111 g111 k111 e111 => ?_)
            have k12 : ai_hv t111 284 5 = some (.inl nn) := (e111 284 5 (by first | decide | omega)).trans kn
            refine ex_go (S := (74, cl, [.inl 0], t111, n, 0)) rfl (fun _ => rfl) rfl ?_
            refine gx_sto (i := 4) (d := 0) rfl (fun _ => rfl) rfl rfl (fun l13 hl13 ml13 => ?_)
            have l13_0 : en_ld l13 0 = some (gx_r 144) := ml13 0 _ h0 rfl
            have l13_1 : en_ld l13 1 = some (gx_r 284) := ml13 1 _ h1 rfl
            have l13_2 : en_ld l13 2 = some (gx_r (181 + m)) := ml13 2 _ h2 rfl
            have l13_3 : en_ld l13 3 = some (.inl (wsm O od r nn)) := ml13 3 _ h3 rfl
            have hu9 : upb O od nn (some q) r = some r := upb_t (O := O) (od := od) (n := nn) (r := r) (q := q) (Or.inr ⟨by omega, hi109.mp (by first | decide | omega)⟩)
            rw [hu9]
            exact pc_wl284_c (tb := t111) (m := m) (r := r) hm hn ((e111 284 5 (by first | decide | omega)).trans kn) (fun i hi => (e111 (181 + m) i (by first | decide | omega)).trans (kr i hi)) hr (fun t9 g9 e9 hc9 => ⟨_, rfl, t9, rfl, g9, (fun c i h => (e9 c i (by first | decide | omega)).trans (e111 c i (by first | decide | omega))), hrl, hr, (e9 144 1 (by first | decide | omega)).trans k111, hc9⟩) nn 0 _ t111 (by first | decide | omega) g111 (fun _ _ _ => rfl) (fun i h => absurd h (Nat.not_lt_zero i)) l13_0 l13_1 l13_2 hl13
noncomputable def CGp284 (fD : en_F) (n nn : Nat) (O : Nat → Nat) (od : List Nat) (m j : Nat) : Prop := ∀ (l : List Nat) (b : Option (List Nat)) (t : en_H), l.length = m → (∀ i, i < m → ltf l i ≤ 2 * m) → ai_HG ah_G t → LR t → ai_hv t 284 5 = some (.inl nn) → (∀ i, i < nn → ai_hv t 286 i = some (.inl (O i))) → (∀ i, i < nn → ai_hv t 179 i = some (.inl (ltf od i))) → (∀ i, i < m → ai_hv t (181 + m) i = some (.inl (ltf l i))) → CBs t O od nn b → ∃ r, fD 218 [gx_r 144, gx_r 284, .inl m] t n = some r ∧ ∃ t', r = (none, t', n, 0) ∧ ai_HG ah_G t' ∧ (∀ c i, ¬ ((181 + m < c ∧ c ≤ 187) ∨ c = 188 ∨ (c = 144 ∧ i = 1)) → ai_hv t' c i = ai_hv t c i) ∧ CBs t' O od nn ((clv j l).foldl (upb O od nn) b)
theorem pc_gr284_0 (d n : Nat) {nn : Nat} {O : Nat → Nat} {od : List Nat} (h1 : 1 ≤ nn) (hn : nn ≤ 6) (hO : ∀ i, i < nn → O i ≤ 99) (hod : ∀ i, i < nn → ltf od i < nn) : CGp284 (en_u (d + 3)) n nn O od nn 0 := fun l b t0 hll hl g0 hR kn kO ko kg hB => by
  refine en_u_ex (d := d + 2) rfl ?_
  show en_ex _ _ _ _ (0, [(0, gx_r 144), (1, gx_r 284), (2, .inl nn)], [], t0, n, 0) _
  refine ex_go (S := (1, [(0, gx_r 144), (1, gx_r 284), (2, .inl nn)], [.inl nn], t0, n, 0)) rfl (fun _ => rfl) rfl ?_
  refine ex_go (S := (2, [(0, gx_r 144), (1, gx_r 284), (2, .inl nn)], [gx_r 284, .inl nn], t0, n, 0)) rfl (fun _ => rfl) rfl ?_
  refine gxo_get (a := 284) rfl g0 rfl rfl kn rfl ?_
  refine gx_2f (c := .lt) rfl (by first | decide | omega) (by first | decide | omega) (show ¬ (nn < nn) from by omega) rfl ?_
  refine ex_go (S := (9, [(0, gx_r 144), (1, gx_r 284), (2, .inl nn)], [gx_r 144], t0, n, 0)) rfl (fun _ => rfl) rfl ?_
  refine ex_go (S := (10, [(0, gx_r 144), (1, gx_r 284), (2, .inl nn)], [gx_r 284, gx_r 144], t0, n, 0)) rfl (fun _ => rfl) rfl ?_
  refine ex_go (S := (11, [(0, gx_r 144), (1, gx_r 284), (2, .inl nn)], [gx_r 144, gx_r 284, gx_r 144], t0, n, 0)) rfl (fun _ => rfl) rfl ?_
  refine gxo_ref (a := 144) (c := 180) rfl g0 rfl rfl rfl rfl rfl ?_
  refine ex_go (S := (15, [(0, gx_r 144), (1, gx_r 284), (2, .inl nn)], [.inl nn, gx_r 180, gx_r 284, gx_r 144], t0, n, 0)) rfl (fun _ => rfl) rfl ?_
  refine gx_ag (v := gx_r (181 + nn)) (cb := fun c => Nat.ble 4 c && Nat.ble c 7) rfl (fun _ => rfl) g0 rfl rfl (hR nn (by first | decide | omega)) (by first | decide | omega) rfl ?_
  obtain ⟨_, r101, t101, rfl, g101, e101, hB101⟩ := pc_weigh284 d n (m := nn) (r := l) (od := od) (b := b) g0 (by first | decide | omega) hn kn kO hO ko hod kg (fun i hi => by have := hl i hi; omega) hll hB
  refine gx_callo (a := 144) rfl rfl g0 rfl rfl rfl r101 rfl ?_
  have k2 : ai_hv t101 284 5 = some (.inl nn) := (e101 284 5 (by first | decide | omega)).trans kn
  show en_ex _ _ _ _ (19, [(0, gx_r 144), (1, gx_r 284), (2, .inl nn)], [], t101, n, 0) _
  refine ex_ret (r := (none, t101, n, 0)) rfl (fun _ => rfl) ?_
  exact ⟨_, rfl, t101, rfl, g101, (fun c i h => e101 c i (by first | decide | omega)), hB101⟩
theorem pc_gr284_l {dd n nn m j : Nat} {tb : en_H} {O : Nat → Nat} {l od : List Nat} {b : Option (List Nat)} {Q : en_O → Prop} (hI : CGp284 (en_u (dd + 2)) n nn O od (m + 1) j) (hn1 : 1 ≤ nn) (hn : nn ≤ 6) (hO : ∀ i, i < nn → O i ≤ 99) (hod : ∀ i, i < nn → ltf od i < nn) (hm : 1 ≤ m) (hmn : m < nn) (hll : l.length = m) (hl : ∀ i, i < m → ltf l i ≤ 2 * m) (hR : LR tb) (kn : ai_hv tb 284 5 = some (.inl nn)) (kO : ∀ i, i < nn → ai_hv tb 286 i = some (.inl (O i))) (ko : ∀ i, i < nn → ai_hv tb 179 i = some (.inl (ltf od i))) (kg : ∀ i, i < m → ai_hv tb (181 + m) i = some (.inl (ltf l i))) (hQ : ∀ t1, ai_HG ah_G t1 → (∀ c i, ¬ ((181 + m < c ∧ c ≤ 187) ∨ c = 188 ∨ (c = 144 ∧ i = 1)) → ai_hv t1 c i = ai_hv tb c i) → CBs t1 O od nn ((clk j l m).foldl (upb O od nn) b) → Q (.inl (none, t1, n, 0))) : ∀ i k cl t0, k + i = m → ai_HG ah_G t0 → (∀ c i, ¬ ((181 + m < c ∧ c ≤ 187) ∨ c = 188 ∨ (c = 144 ∧ i = 1)) → ai_hv t0 c i = ai_hv tb c i) → CBs t0 O od nn ((clk j l k).foldl (upb O od nn) b) → en_ld cl 0 = some (gx_r 144) → en_ld cl 1 = some (gx_r 284) → en_ld cl 2 = some (.inl m) → en_ld cl 3 = some (.inl k) → en_ex none (en_u (dd + 2)) (en_code 218) (fun _ => false) (22, cl, [], t0, n, 0) Q := by
  intro i
  induction i with
  | zero =>
    intro k cl t0 hj g0 e0 hB h0 h1 h2 h3
    have hk : k = m := by omega
    rw [hk] at hB
    refine gx_ld (i := 3) (d := 0) (v := .inl k) rfl (fun _ => rfl) h3 rfl rfl ?_
    refine gx_ld (i := 2) (d := 0) (v := .inl m) rfl (fun _ => rfl) h2 rfl rfl ?_
    refine gx_2t (c := .ge) rfl (by first | decide | omega) (by first | decide | omega) (show m ≤ k from by omega) rfl ?_
    refine ex_ret (r := (none, t0, n, 0)) rfl (fun _ => rfl) ?_
    exact hQ t0 g0 e0 hB
  | succ i ih =>
    intro k cl t0 hj g0 e0 hB h0 h1 h2 h3
    refine gx_ld (i := 3) (d := 0) (v := .inl k) rfl (fun _ => rfl) h3 rfl rfl ?_
    refine gx_ld (i := 2) (d := 0) (v := .inl m) rfl (fun _ => rfl) h2 rfl rfl ?_
    refine gx_2f (c := .ge) rfl (by first | decide | omega) (by first | decide | omega) (show ¬ (m ≤ k) from by omega) rfl ?_
    refine gx_ld (i := 0) (d := 2) (v := gx_r 144) rfl (fun _ => rfl) h0 rfl rfl ?_
    refine gx_ld (i := 2) (d := 0) (v := .inl m) rfl (fun _ => rfl) h2 rfl rfl ?_
    refine gx_ld (i := 3) (d := 0) (v := .inl k) rfl (fun _ => rfl) h3 rfl rfl ?_
    obtain ⟨_, r101, t101, rfl, g101, e101, hc101⟩ := pc_parl dd n (m := m) (p9 := k) (l := l) g0 (fun q hq => (e0 180 q (by first | decide | omega)).trans (hR q hq)) (by first | decide | omega) (by first | decide | omega) hll (fun q hq => (e0 (181 + m) q (by first | decide | omega)).trans (kg q hq)) (fun q hq => by have := hl q hq; omega)
    refine gx_callo (a := 144) rfl rfl g0 rfl rfl rfl r101 rfl ?_
    show en_ex _ _ _ _ (33, cl, [], t101, n, 0) _
    refine gx_ld (i := 0) (d := 2) (v := gx_r 144) rfl (fun _ => rfl) h0 rfl rfl ?_
    refine gx_ld (i := 1) (d := 2) (v := gx_r 284) rfl (fun _ => rfl) h1 rfl rfl ?_
    refine gx_ld (i := 2) (d := 0) (v := .inl m) rfl (fun _ => rfl) h2 rfl rfl ?_
    refine ex_go (S := (37, cl, [.inl 1, .inl m, gx_r 284, gx_r 144], t101, n, 0)) rfl (fun _ => rfl) rfl ?_
    refine ex_iadd rfl (by first | decide | omega) rfl ?_
    have hl9 := ckid_len (l := l) (k := k) (by first | decide | omega)
    have hk9 := ckid_le (l := l) (k := k) (by rw [hll]; exact hl) (by first | decide | omega)
    rw [hll] at hl9 hk9
    obtain ⟨_, r102, t102, rfl, g102, e102, hB102⟩ := hI (ckid l k) ((clk j l k).foldl (upb O od nn) b) t101 hl9 hk9 g101 (fun q hq => ((e101 180 q (by first | decide | omega)).trans (e0 180 q (by first | decide | omega))).trans (hR q hq)) (((e101 284 5 (by first | decide | omega)).trans (e0 284 5 (by first | decide | omega))).trans (kn)) (fun q hq => ((e101 286 q (by first | decide | omega)).trans (e0 286 q (by first | decide | omega))).trans (kO q hq)) (fun q hq => ((e101 179 q (by first | decide | omega)).trans (e0 179 q (by first | decide | omega))).trans (ko q hq)) hc101 (CBs_keep hB (e101 144 1 (by first | decide | omega)) (fun q => e101 188 q (by first | decide | omega)))
    refine gx_callo (a := 144) rfl rfl g101 rfl rfl rfl r102 rfl ?_
    show en_ex _ _ _ _ (41, cl, [], t102, n, 0) _
    refine gx_incS (i := 3) (a := k) (x := 1) rfl (fun _ => rfl) h3 (by first | decide | omega) rfl (fun l3 hl3 ml3 => ?_)
    have l3_0 : en_ld l3 0 = some (gx_r 144) := ml3 0 _ h0 rfl
    have l3_1 : en_ld l3 1 = some (gx_r 284) := ml3 1 _ h1 rfl
    have l3_2 : en_ld l3 2 = some (.inl m) := ml3 2 _ h2 rfl
    refine ex_go (S := (22, l3, [], t102, n, 0)) rfl (fun _ => rfl) rfl ?_
    exact ih (k + 1) _ t102 (by first | decide | omega) g102 (fun c q h => ((e102 c q (by first | decide | omega)).trans (e101 c q (by first | decide | omega))).trans (e0 c q (by first | decide | omega))) (by rw [clk_s, List.foldl_append]; exact hB102) l3_0 l3_1 l3_2 hl3
theorem pc_gr284_s {dd n nn m j : Nat} {O : Nat → Nat} {od : List Nat} (hI : CGp284 (en_u (dd + 2)) n nn O od (m + 1) j) (hn1 : 1 ≤ nn) (hn : nn ≤ 6) (hO : ∀ i, i < nn → O i ≤ 99) (hod : ∀ i, i < nn → ltf od i < nn) (hm : 1 ≤ m) (hmn : m < nn) : CGp284 (en_u (dd + 3)) n nn O od m (j + 1) := fun l b t0 hll hl g0 hR kn kO ko kg hB => by
  refine en_u_ex (d := dd + 2) rfl ?_
  show en_ex _ _ _ _ (0, [(0, gx_r 144), (1, gx_r 284), (2, .inl m)], [], t0, n, 0) _
  refine ex_go (S := (1, [(0, gx_r 144), (1, gx_r 284), (2, .inl m)], [.inl m], t0, n, 0)) rfl (fun _ => rfl) rfl ?_
  refine ex_go (S := (2, [(0, gx_r 144), (1, gx_r 284), (2, .inl m)], [gx_r 284, .inl m], t0, n, 0)) rfl (fun _ => rfl) rfl ?_
  refine gxo_get (a := 284) rfl g0 rfl rfl kn rfl ?_
  refine gx_2t (c := .lt) rfl (by first | decide | omega) (by first | decide | omega) (show m < nn from by omega) rfl ?_
  refine ex_go (S := (21, [(0, gx_r 144), (1, gx_r 284), (2, .inl m)], [.inl 0], t0, n, 0)) rfl (fun _ => rfl) rfl ?_
  refine ex_go (S := (22, [(3, .inl 0), (0, gx_r 144), (1, gx_r 284), (2, .inl m)], [], t0, n, 0)) rfl (fun _ => rfl) rfl ?_
  exact pc_gr284_l (tb := t0) (l := l) (od := od) (b := b) hI hn1 hn hO hod hm hmn hll hl hR kn kO ko kg (fun t1 g1 e1 hB1 => ⟨_, rfl, t1, rfl, g1, e1, by
    show CBs t1 O od nn ((clk j l l.length).foldl (upb O od nn) b)
    rw [hll]
    exact hB1⟩) m 0 _ t0 (by first | decide | omega) g0 (fun _ _ _ => rfl) hB rfl rfl rfl rfl
theorem pc_gr284 (d n : Nat) {nn : Nat} {O : Nat → Nat} {od : List Nat} (h1 : 1 ≤ nn) (hn : nn ≤ 6) (hO : ∀ i, i < nn → O i ≤ 99) (hod : ∀ i, i < nn → ltf od i < nn) : ∀ j m, m + j = nn → 1 ≤ m → CGp284 (en_u (d + j + 3)) n nn O od m j
  | 0, m, hj, _ => by
    have e : m = nn := by omega
    subst e
    exact pc_gr284_0 d n h1 hn hO hod
  | j + 1, m, hj, hm => pc_gr284_s (dd := d + j + 1) (pc_gr284 d n h1 hn hO hod j (m + 1) (by first | decide | omega) (by first | decide | omega)) h1 hn hO hod hm (by first | decide | omega)
theorem pc_lamp284 (d n : Nat) {t0 : en_H} {nn : Nat} {O : Nat → Nat} (g0 : ai_HG ah_G t0) (h1 : 1 ≤ nn) (hR : LR t0) (kn : ai_hv t0 284 5 = some (.inl nn)) (hn : nn ≤ 6) (kO : ∀ i, i < nn → ai_hv t0 286 i = some (.inl (O i))) (hO : ∀ i, i < nn → O i ≤ 99) : ∃ r, en_u (d + 10) 154 [gx_r 144, gx_r 284] t0 n = some r ∧ ∃ t', r = (none, t', n, 0) ∧ ai_HG ah_G t' ∧ (∀ c i, ¬ (c = 179 ∨ (182 ≤ c ∧ c ≤ 188) ∨ (c = 144 ∧ i = 1)) → ai_hv t' c i = ai_hv t0 c i) ∧ (∀ i, i < nn → ai_hv t' 179 i = some (.inl (ltf (ordl O nn) i))) ∧ CBs t' O (ordl O nn) nn (cdb O nn) := by
  refine en_u_ex (d := d + 9) rfl ?_
  show en_ex _ _ _ _ (0, [(0, gx_r 144), (1, gx_r 284)], [], t0, n, 0) _
  refine ex_go (S := (1, [(0, gx_r 144), (1, gx_r 284)], [gx_r 144], t0, n, 0)) rfl (fun _ => rfl) rfl ?_
  refine ex_go (S := (2, [(0, gx_r 144), (1, gx_r 284)], [gx_r 284, gx_r 144], t0, n, 0)) rfl (fun _ => rfl) rfl ?_
  obtain ⟨_, r101, t101, rfl, g101, e101, ho101⟩ := pc_orderSigns284 (d + 8) n (nn := nn) (O := O) g0 kn hn kO hO
  refine gx_callo (a := 144) rfl rfl g0 rfl rfl rfl r101 rfl ?_
  have k2 : ai_hv t101 284 5 = some (.inl nn) := (e101 284 5 (by first | decide | omega)).trans kn
  show en_ex _ _ _ _ (5, [(0, gx_r 144), (1, gx_r 284)], [], t101, n, 0) _
  refine ex_go (S := (6, [(0, gx_r 144), (1, gx_r 284)], [gx_r 144], t101, n, 0)) rfl (fun _ => rfl) rfl ?_
  refine ex_go (S := (8, [(0, gx_r 144), (1, gx_r 284)], [.inl 1000000000, gx_r 144], t101, n, 0)) rfl (fun _ => rfl) rfl ?_
  refine gxo_put (a := 144) rfl g101 rfl rfl rfl (gx_full (by first | decide | omega)) rfl (fun t103 g103 k103 e103 => ?_)
  have k4 : ai_hv t103 284 5 = some (.inl nn) := (e103 284 5 (by first | decide | omega)).trans k2
  refine ex_go (S := (12, [(0, gx_r 144), (1, gx_r 284)], [gx_r 144], t103, n, 0)) rfl (fun _ => rfl) rfl ?_
  refine gxo_ref (a := 144) (c := 180) rfl g103 rfl rfl rfl rfl rfl ?_
  refine ex_go (S := (16, [(0, gx_r 144), (1, gx_r 284)], [.inl 1, gx_r 180], t103, n, 0)) rfl (fun _ => rfl) rfl ?_
  refine gx_ag (v := gx_r (181 + 1)) (cb := fun c => Nat.ble 4 c && Nat.ble c 7) rfl (fun _ => rfl) g103 rfl rfl (((e103 180 1 (by first | decide | omega)).trans (e101 180 1 (by first | decide | omega))).trans (hR 1 (by first | decide | omega))) (by first | decide | omega) rfl ?_
  refine ex_go (S := (18, [(0, gx_r 144), (1, gx_r 284)], [.inl 0, gx_r (181 + 1)], t103, n, 0)) rfl (fun _ => rfl) rfl ?_
  refine ex_go (S := (19, [(0, gx_r 144), (1, gx_r 284)], [gx_r 284, .inl 0, gx_r (181 + 1)], t103, n, 0)) rfl (fun _ => rfl) rfl ?_
  refine gxo_get (a := 284) rfl g103 rfl rfl k4 rfl ?_
  refine ex_go (S := (23, [(0, gx_r 144), (1, gx_r 284)], [.inl 1, .inl nn, .inl 0, gx_r (181 + 1)], t103, n, 0)) rfl (fun _ => rfl) rfl ?_
  by_cases hc5 : nn ≠ 1
  · refine gx_2t (c := .ne) rfl (by first | decide | omega) (by first | decide | omega) hc5 rfl ?_
    refine ex_go (S := (31, [(0, gx_r 144), (1, gx_r 284)], [.inl 0, .inl 0, gx_r (181 + 1)], t103, n, 0)) rfl (fun _ => rfl) rfl ?_
    refine gx_ap (c := 181 + 1) rfl (fun _ => rfl) g103 (lst_G (by first | decide | omega)) rfl rfl (show 0 < 6 from by omega) (gx_run1 (show 0 < 6 from by omega)) (gx_full (by first | decide | omega)) rfl (fun t106 g106 k106 e106 => ?_)
    have k7 : ai_hv t106 284 5 = some (.inl nn) := (e106 284 5 (by first | decide | omega)).trans k4
    have k8 : ai_hv t106 144 1 = some (.inl 1000000000) := (e106 144 1 (by first | decide | omega)).trans k103
    refine ex_go (S := (33, [(0, gx_r 144), (1, gx_r 284)], [gx_r 144], t106, n, 0)) rfl (fun _ => rfl) rfl ?_
    refine ex_go (S := (34, [(0, gx_r 144), (1, gx_r 284)], [gx_r 284, gx_r 144], t106, n, 0)) rfl (fun _ => rfl) rfl ?_
    refine ex_go (S := (35, [(0, gx_r 144), (1, gx_r 284)], [.inl 1, gx_r 284, gx_r 144], t106, n, 0)) rfl (fun _ => rfl) rfl ?_
    have hl0 : cdl0 nn = [0] := if_neg (by first | decide | omega)
    have hG9 := pc_gr284 (d + 7 - nn) n (nn := nn) (O := O) (od := ordl O nn) h1 hn hO (fun i hi => ordl_lt nn i hi) (nn - 1) 1 (by first | decide | omega) (by decide)
    rw [show d + 7 - nn + (nn - 1) + 3 = d + 9 by omega] at hG9
    obtain ⟨_, r109, t109, rfl, g109, e109, hB109⟩ := hG9 (cdl0 nn) none t106 (by rw [hl0]; rfl) (fun i hi => by
      have e9 : i = 0 := by omega
      rw [hl0, e9]; decide) g106 (fun q hq => (((e106 180 q (by first | decide | omega)).trans (e103 180 q (by first | decide | omega))).trans (e101 180 q (by first | decide | omega))).trans (hR q hq)) ((((e106 284 5 (by first | decide | omega)).trans (e103 284 5 (by first | decide | omega))).trans (e101 284 5 (by first | decide | omega))).trans (kn)) (fun i hi => (((e106 286 i (by first | decide | omega)).trans (e103 286 i (by first | decide | omega))).trans (e101 286 i (by first | decide | omega))).trans (kO i hi)) (fun i hi => ((e106 179 i (by first | decide | omega)).trans (e103 179 i (by first | decide | omega))).trans (ho101 i hi)) (fun i hi => by
      have e9 : i = 0 := by omega
      rw [hl0, e9]; exact k106) (show ai_hv t106 144 1 = some (.inl 1000000000) from k8)
    refine gx_callo (a := 144) rfl rfl g106 rfl rfl rfl r109 rfl ?_
    show en_ex _ _ _ _ (38, [(0, gx_r 144), (1, gx_r 284)], [], t109, n, 0) _
    refine ex_ret (r := (none, t109, n, 0)) rfl (fun _ => rfl) ?_
    exact ⟨_, rfl, t109, rfl, g109, (fun c i h => (((e109 c i (by first | decide | omega)).trans (e106 c i (by first | decide | omega))).trans (e103 c i (by first | decide | omega))).trans (e101 c i (by first | decide | omega))), (fun i hi => (e109 179 i (by first | decide | omega)).trans (((e106 179 i (by first | decide | omega)).trans (e103 179 i (by first | decide | omega))).trans (ho101 i hi))), (by unfold cdb; rw [cd_same h1 hn]; exact hB109)⟩
  · refine gx_2f (c := .ne) rfl (by first | decide | omega) (by first | decide | omega) hc5 rfl ?_
    refine ex_go (S := (27, [(0, gx_r 144), (1, gx_r 284)], [.inl 1, .inl 0, gx_r (181 + 1)], t103, n, 0)) rfl (fun _ => rfl) rfl ?_
    refine ex_go (S := (31, [(0, gx_r 144), (1, gx_r 284)], [.inl 1, .inl 0, gx_r (181 + 1)], t103, n, 0)) rfl (fun _ => rfl) rfl ?_
    refine gx_ap (c := 181 + 1) rfl (fun _ => rfl) g103 (lst_G (by first | decide | omega)) rfl rfl (show 0 < 6 from by omega) (gx_run1 (show 0 < 6 from by omega)) (gx_full (by first | decide | omega)) rfl (fun t110 g110 k110 e110 => ?_)
    have k11 : ai_hv t110 284 5 = some (.inl nn) := (e110 284 5 (by first | decide | omega)).trans k4
    have k12 : ai_hv t110 144 1 = some (.inl 1000000000) := (e110 144 1 (by first | decide | omega)).trans k103
    refine ex_go (S := (33, [(0, gx_r 144), (1, gx_r 284)], [gx_r 144], t110, n, 0)) rfl (fun _ => rfl) rfl ?_
    refine ex_go (S := (34, [(0, gx_r 144), (1, gx_r 284)], [gx_r 284, gx_r 144], t110, n, 0)) rfl (fun _ => rfl) rfl ?_
    refine ex_go (S := (35, [(0, gx_r 144), (1, gx_r 284)], [.inl 1, gx_r 284, gx_r 144], t110, n, 0)) rfl (fun _ => rfl) rfl ?_
    have hl0 : cdl0 nn = [1] := if_pos (by first | decide | omega)
    have hG9 := pc_gr284 (d + 7 - nn) n (nn := nn) (O := O) (od := ordl O nn) h1 hn hO (fun i hi => ordl_lt nn i hi) (nn - 1) 1 (by first | decide | omega) (by decide)
    rw [show d + 7 - nn + (nn - 1) + 3 = d + 9 by omega] at hG9
    obtain ⟨_, r113, t113, rfl, g113, e113, hB113⟩ := hG9 (cdl0 nn) none t110 (by rw [hl0]; rfl) (fun i hi => by
      have e9 : i = 0 := by omega
      rw [hl0, e9]; decide) g110 (fun q hq => (((e110 180 q (by first | decide | omega)).trans (e103 180 q (by first | decide | omega))).trans (e101 180 q (by first | decide | omega))).trans (hR q hq)) ((((e110 284 5 (by first | decide | omega)).trans (e103 284 5 (by first | decide | omega))).trans (e101 284 5 (by first | decide | omega))).trans (kn)) (fun i hi => (((e110 286 i (by first | decide | omega)).trans (e103 286 i (by first | decide | omega))).trans (e101 286 i (by first | decide | omega))).trans (kO i hi)) (fun i hi => ((e110 179 i (by first | decide | omega)).trans (e103 179 i (by first | decide | omega))).trans (ho101 i hi)) (fun i hi => by
      have e9 : i = 0 := by omega
      rw [hl0, e9]; exact k110) (show ai_hv t110 144 1 = some (.inl 1000000000) from k12)
    refine gx_callo (a := 144) rfl rfl g110 rfl rfl rfl r113 rfl ?_
    show en_ex _ _ _ _ (38, [(0, gx_r 144), (1, gx_r 284)], [], t113, n, 0) _
    refine ex_ret (r := (none, t113, n, 0)) rfl (fun _ => rfl) ?_
    exact ⟨_, rfl, t113, rfl, g113, (fun c i h => (((e113 c i (by first | decide | omega)).trans (e110 c i (by first | decide | omega))).trans (e103 c i (by first | decide | omega))).trans (e101 c i (by first | decide | omega))), (fun i hi => (e113 179 i (by first | decide | omega)).trans (((e110 179 i (by first | decide | omega)).trans (e103 179 i (by first | decide | omega))).trans (ho101 i hi))), (by unfold cdb; rw [cd_same h1 hn]; exact hB113)⟩
theorem pc_code257 (d n : Nat) {t0 : en_H} {nn x : Nat} {O : Nat → Nat} (g0 : ai_HG ah_G t0) (k10 : ai_hv t0 0 10 = some (gx_r 257)) (hR : LR t0) (kn : ai_hv t0 284 5 = some (.inl nn)) (hn : nn ≤ 6) (kO : ∀ i, i < nn → ai_hv t0 286 i = some (.inl (O i))) (hO : ∀ i, i < nn → O i ≤ 99) (hx : x < 4294967296) : ∃ r, en_u (d + 11) 77 [gx_r 0, .inl x] t0 n = some r ∧ ∃ v t', r = (some (.inl v), t', n, 0) ∧ ai_HG ah_G t' ∧ (∀ c i, ¬ (c = 179 ∨ (182 ≤ c ∧ c ≤ 188) ∨ (c = 144 ∧ i = 1)) → ai_hv t' c i = ai_hv t0 c i) ∧ cdA O nn x v := by
  by_cases hx9 : x = 4294967295
  · subst hx9
    refine en_u_ex (d := d + 10) rfl ?_
    show en_ex _ _ _ _ (0, [(0, gx_r 0), (1, .inl 4294967295)], [], t0, n, 0) _
    refine ex_go (S := (1, [(0, gx_r 0), (1, .inl 4294967295)], [gx_r 0], t0, n, 0)) rfl (fun _ => rfl) rfl ?_
    refine gxo_get (a := 0) rfl g0 rfl rfl k10 rfl ?_
    refine gxo_ref (a := 257) (c := 284) rfl g0 rfl rfl rfl rfl rfl ?_
    refine gxo_get (a := 284) rfl g0 rfl rfl kn rfl ?_
    by_cases hc1 : nn = 0
    · refine gx_1t (c := .eq) rfl (by first | decide | omega) hc1 rfl ?_
      refine ex_go (S := (34, [(0, gx_r 0), (1, .inl 4294967295)], [.inl 4294967294], t0, n, 0)) rfl (fun _ => rfl) rfl ?_
      refine ex_ret (r := (some (.inl 4294967294), t0, n, 0)) rfl (fun _ => rfl) ?_
      exact ⟨_, rfl, _, t0, rfl, g0, (fun c i h => rfl), fun _ => rfl, fun z1 z2 => absurd z1 (by first | decide | omega), fun z => absurd z (by first | decide | omega)⟩
    · refine gx_1f (c := .eq) rfl (by first | decide | omega) hc1 rfl ?_
      refine ex_go (S := (14, [(0, gx_r 0), (1, .inl 4294967295)], [.inl 4294967295], t0, n, 0)) rfl (fun _ => rfl) rfl ?_
      refine ex_go (S := (15, [(0, gx_r 0), (1, .inl 4294967295)], [.inl 4294967295, .inl 4294967295], t0, n, 0)) rfl (fun _ => rfl) rfl ?_
      refine ex_go (S := (35, [(0, gx_r 0), (1, .inl 4294967295)], [], t0, n, 0)) rfl (fun _ => rfl) rfl ?_
      refine ex_go (S := (36, [(0, gx_r 0), (1, .inl 4294967295)], [gx_r 0], t0, n, 0)) rfl (fun _ => rfl) rfl ?_
      refine gxo_ref (a := 0) (c := 144) rfl g0 rfl rfl rfl rfl rfl ?_
      refine ex_go (S := (40, [(0, gx_r 0), (1, .inl 4294967295)], [gx_r 0, gx_r 144], t0, n, 0)) rfl (fun _ => rfl) rfl ?_
      refine gxo_get (a := 0) rfl g0 rfl rfl k10 rfl ?_
      refine gxo_ref (a := 257) (c := 284) rfl g0 rfl rfl rfl rfl rfl ?_
      obtain ⟨_, r102, t102, rfl, g102, e102, ho102, hB102⟩ := pc_lamp284 d n (nn := nn) (O := O) g0 (by first | decide | omega) hR kn hn kO hO
      obtain ⟨q, hq9⟩ : ∃ q, cdb O nn = some q := by
        unfold cdb
        obtain ⟨q, a, -⟩ := upb_foldn (O := O) (od := ordl O nn) (n := nn) (L := rlv (nn - 1) (cdl0 nn)) (cd_ne (by first | decide | omega) hn)
        exact ⟨q, a⟩
      rw [hq9] at hB102
      obtain ⟨q0, q1, q2, q3⟩ := hB102
      have hwq := wsm_le (O := O) (od := ordl O nn) (r := q) nn q1 (fun i hi => hO _ (ordl_lt nn i hi))
      refine gx_callo (a := 144) rfl rfl g0 rfl rfl rfl r102 rfl ?_
      have k3 : ai_hv t102 0 10 = some (gx_r 257) := (e102 0 10 (by first | decide | omega)).trans k10
      have k4 : ai_hv t102 284 5 = some (.inl nn) := (e102 284 5 (by first | decide | omega)).trans kn
      show en_ex _ _ _ _ (49, [(0, gx_r 0), (1, .inl 4294967295)], [], t102, n, 0) _
      refine ex_go (S := (50, [(0, gx_r 0), (1, .inl 4294967295)], [.inl 4294967295], t102, n, 0)) rfl (fun _ => rfl) rfl ?_
      refine ex_go (S := (51, [(0, gx_r 0), (1, .inl 4294967295)], [.inl 4294967295, .inl 4294967295], t102, n, 0)) rfl (fun _ => rfl) rfl ?_
      refine ex_go (S := (54, [(0, gx_r 0), (1, .inl 4294967295)], [], t102, n, 0)) rfl (fun _ => rfl) rfl ?_
      refine ex_go (S := (55, [(0, gx_r 0), (1, .inl 4294967295)], [gx_r 0], t102, n, 0)) rfl (fun _ => rfl) rfl ?_
      refine gxo_ref (a := 0) (c := 144) rfl g102 rfl rfl rfl rfl rfl ?_
      refine gxo_get (a := 144) rfl g102 rfl rfl q2 rfl ?_
      refine ex_go (S := (82, [(0, gx_r 0), (1, .inl 4294967295)], [.inl (wsm O (ordl O nn) q nn)], t102, n, 0)) rfl (fun _ => rfl) rfl ?_
      refine ex_ret (r := (some (.inl (wsm O (ordl O nn) q nn)), t102, n, 0)) rfl (fun _ => rfl) ?_
      exact ⟨_, rfl, _, t102, rfl, g102, (fun c i h => e102 c i (by first | decide | omega)), fun z => absurd ⟨by omega, Or.inl rfl⟩ z, fun _ _ => ⟨q, hq9, rfl⟩, fun z => absurd z (by first | decide | omega)⟩
  · refine en_u_ex (d := d + 10) rfl ?_
    show en_ex _ _ _ _ (0, [(0, gx_r 0), (1, .inl x)], [], t0, n, 0) _
    refine ex_go (S := (1, [(0, gx_r 0), (1, .inl x)], [gx_r 0], t0, n, 0)) rfl (fun _ => rfl) rfl ?_
    refine gxo_get (a := 0) rfl g0 rfl rfl k10 rfl ?_
    refine gxo_ref (a := 257) (c := 284) rfl g0 rfl rfl rfl rfl rfl ?_
    refine gxo_get (a := 284) rfl g0 rfl rfl kn rfl ?_
    by_cases hc1 : nn = 0
    · refine gx_1t (c := .eq) rfl (by first | decide | omega) hc1 rfl ?_
      refine ex_go (S := (34, [(0, gx_r 0), (1, .inl x)], [.inl 4294967294], t0, n, 0)) rfl (fun _ => rfl) rfl ?_
      refine ex_ret (r := (some (.inl 4294967294), t0, n, 0)) rfl (fun _ => rfl) ?_
      exact ⟨_, rfl, _, t0, rfl, g0, (fun c i h => rfl), fun _ => rfl, fun z1 z2 => absurd z1 (by first | decide | omega), fun z => absurd z (by first | decide | omega)⟩
    · refine gx_1f (c := .eq) rfl (by first | decide | omega) hc1 rfl ?_
      refine ex_go (S := (14, [(0, gx_r 0), (1, .inl x)], [.inl x], t0, n, 0)) rfl (fun _ => rfl) rfl ?_
      refine ex_go (S := (15, [(0, gx_r 0), (1, .inl x)], [.inl 4294967295, .inl x], t0, n, 0)) rfl (fun _ => rfl) rfl ?_
      by_cases hneg : 2147483648 ≤ x
      · refine gx_2mmf (c := .eq) rfl (by first | decide | omega) (by first | decide | omega) rfl rfl ?_
        refine ex_go (S := (19, [(0, gx_r 0), (1, .inl x)], [gx_r 0], t0, n, 0)) rfl (fun _ => rfl) rfl ?_
        refine gxo_get (a := 0) rfl g0 rfl rfl k10 rfl ?_
        refine gxo_ref (a := 257) (c := 284) rfl g0 rfl rfl rfl rfl rfl ?_
        refine ex_go (S := (26, [(0, gx_r 0), (1, .inl x)], [.inl x, gx_r 284], t0, n, 0)) rfl (fun _ => rfl) rfl ?_
        obtain ⟨_, r102, b102, rfl, hb102, hi102⟩ := pz_holds284 (d + 9) n (x := x) g0 hx kn (by first | decide | omega)
        refine gx_callo (a := 284) rfl rfl g0 rfl rfl rfl r102 rfl ?_
        show en_ex _ _ _ _ (29, [(0, gx_r 0), (1, .inl x)], [.inl b102], t0, n, 0) _
        by_cases hc3 : b102 ≠ 0
        · refine gx_1t (c := .ne) rfl (by first | decide | omega) hc3 rfl ?_
          refine ex_go (S := (36, [(0, gx_r 0), (1, .inl x)], [gx_r 0], t0, n, 0)) rfl (fun _ => rfl) rfl ?_
          refine gxo_ref (a := 0) (c := 144) rfl g0 rfl rfl rfl rfl rfl ?_
          refine ex_go (S := (40, [(0, gx_r 0), (1, .inl x)], [gx_r 0, gx_r 144], t0, n, 0)) rfl (fun _ => rfl) rfl ?_
          refine gxo_get (a := 0) rfl g0 rfl rfl k10 rfl ?_
          refine gxo_ref (a := 257) (c := 284) rfl g0 rfl rfl rfl rfl rfl ?_
          obtain ⟨_, r104, t104, rfl, g104, e104, ho104, hB104⟩ := pc_lamp284 d n (nn := nn) (O := O) g0 (by first | decide | omega) hR kn hn kO hO
          obtain ⟨q, hq9⟩ : ∃ q, cdb O nn = some q := by
            unfold cdb
            obtain ⟨q, a, -⟩ := upb_foldn (O := O) (od := ordl O nn) (n := nn) (L := rlv (nn - 1) (cdl0 nn)) (cd_ne (by first | decide | omega) hn)
            exact ⟨q, a⟩
          rw [hq9] at hB104
          obtain ⟨q0, q1, q2, q3⟩ := hB104
          have hwq := wsm_le (O := O) (od := ordl O nn) (r := q) nn q1 (fun i hi => hO _ (ordl_lt nn i hi))
          refine gx_callo (a := 144) rfl rfl g0 rfl rfl rfl r104 rfl ?_
          have k5 : ai_hv t104 0 10 = some (gx_r 257) := (e104 0 10 (by first | decide | omega)).trans k10
          have k6 : ai_hv t104 284 5 = some (.inl nn) := (e104 284 5 (by first | decide | omega)).trans kn
          show en_ex _ _ _ _ (49, [(0, gx_r 0), (1, .inl x)], [], t104, n, 0) _
          refine ex_go (S := (50, [(0, gx_r 0), (1, .inl x)], [.inl x], t104, n, 0)) rfl (fun _ => rfl) rfl ?_
          refine ex_go (S := (51, [(0, gx_r 0), (1, .inl x)], [.inl 4294967295, .inl x], t104, n, 0)) rfl (fun _ => rfl) rfl ?_
          refine gx_2mt (c := .ne) rfl (by first | decide | omega) rfl rfl ?_
          refine ex_go (S := (65, [(0, gx_r 0), (1, .inl x)], [gx_r 0], t104, n, 0)) rfl (fun _ => rfl) rfl ?_
          refine gxo_ref (a := 0) (c := 144) rfl g104 rfl rfl rfl rfl rfl ?_
          refine ex_go (S := (69, [(0, gx_r 0), (1, .inl x)], [.inl x, gx_r 144], t104, n, 0)) rfl (fun _ => rfl) rfl ?_
          refine ex_go (S := (70, [(0, gx_r 0), (1, .inl x)], [gx_r 0, .inl x, gx_r 144], t104, n, 0)) rfl (fun _ => rfl) rfl ?_
          refine gxo_get (a := 0) rfl g104 rfl rfl k5 rfl ?_
          refine gxo_ref (a := 257) (c := 284) rfl g104 rfl rfl rfl rfl rfl ?_
          refine gxo_get (a := 284) rfl g104 rfl rfl k6 rfl ?_
          have hxn : x < nn := by omega
          obtain ⟨_, r107, v9, rfl, hv8, hv9⟩ := pc_lampRow (d + 9) n (q := q) (O := O) g104 hn hxn ho104 q3 q1
          refine gx_callo (a := 144) rfl rfl g104 rfl rfl rfl r107 rfl ?_
          show en_ex _ _ _ _ (82, [(0, gx_r 0), (1, .inl x)], [.inl v9], t104, n, 0) _
          refine ex_ret (r := (some (.inl v9), t104, n, 0)) rfl (fun _ => rfl) ?_
          exact ⟨_, rfl, _, t104, rfl, g104, (fun c i h => e104 c i (by first | decide | omega)), fun z => absurd ⟨by omega, Or.inr hxn⟩ z, fun _ z => absurd z (by first | decide | omega), fun _ => ⟨q, hq9, hv9⟩⟩
        · refine gx_1f (c := .ne) rfl (by first | decide | omega) hc3 rfl ?_
          refine ex_go (S := (34, [(0, gx_r 0), (1, .inl x)], [.inl 4294967294], t0, n, 0)) rfl (fun _ => rfl) rfl ?_
          refine ex_ret (r := (some (.inl 4294967294), t0, n, 0)) rfl (fun _ => rfl) ?_
          exact ⟨_, rfl, _, t0, rfl, g0, (fun c i h => rfl), fun _ => rfl, fun z1 z2 => absurd z1 (by first | decide | omega), fun z => absurd z (by first | decide | omega)⟩
      · refine gx_2mf (c := .eq) rfl (by first | decide | omega) rfl rfl ?_
        refine ex_go (S := (19, [(0, gx_r 0), (1, .inl x)], [gx_r 0], t0, n, 0)) rfl (fun _ => rfl) rfl ?_
        refine gxo_get (a := 0) rfl g0 rfl rfl k10 rfl ?_
        refine gxo_ref (a := 257) (c := 284) rfl g0 rfl rfl rfl rfl rfl ?_
        refine ex_go (S := (26, [(0, gx_r 0), (1, .inl x)], [.inl x, gx_r 284], t0, n, 0)) rfl (fun _ => rfl) rfl ?_
        obtain ⟨_, r108, b108, rfl, hb108, hi108⟩ := pz_holds284 (d + 9) n (x := x) g0 hx kn (by first | decide | omega)
        refine gx_callo (a := 284) rfl rfl g0 rfl rfl rfl r108 rfl ?_
        show en_ex _ _ _ _ (29, [(0, gx_r 0), (1, .inl x)], [.inl b108], t0, n, 0) _
        by_cases hc9 : b108 ≠ 0
        · refine gx_1t (c := .ne) rfl (by first | decide | omega) hc9 rfl ?_
          refine ex_go (S := (36, [(0, gx_r 0), (1, .inl x)], [gx_r 0], t0, n, 0)) rfl (fun _ => rfl) rfl ?_
          refine gxo_ref (a := 0) (c := 144) rfl g0 rfl rfl rfl rfl rfl ?_
          refine ex_go (S := (40, [(0, gx_r 0), (1, .inl x)], [gx_r 0, gx_r 144], t0, n, 0)) rfl (fun _ => rfl) rfl ?_
          refine gxo_get (a := 0) rfl g0 rfl rfl k10 rfl ?_
          refine gxo_ref (a := 257) (c := 284) rfl g0 rfl rfl rfl rfl rfl ?_
          obtain ⟨_, r110, t110, rfl, g110, e110, ho110, hB110⟩ := pc_lamp284 d n (nn := nn) (O := O) g0 (by first | decide | omega) hR kn hn kO hO
          obtain ⟨q, hq9⟩ : ∃ q, cdb O nn = some q := by
            unfold cdb
            obtain ⟨q, a, -⟩ := upb_foldn (O := O) (od := ordl O nn) (n := nn) (L := rlv (nn - 1) (cdl0 nn)) (cd_ne (by first | decide | omega) hn)
            exact ⟨q, a⟩
          rw [hq9] at hB110
          obtain ⟨q0, q1, q2, q3⟩ := hB110
          have hwq := wsm_le (O := O) (od := ordl O nn) (r := q) nn q1 (fun i hi => hO _ (ordl_lt nn i hi))
          refine gx_callo (a := 144) rfl rfl g0 rfl rfl rfl r110 rfl ?_
          have k11 : ai_hv t110 0 10 = some (gx_r 257) := (e110 0 10 (by first | decide | omega)).trans k10
          have k12 : ai_hv t110 284 5 = some (.inl nn) := (e110 284 5 (by first | decide | omega)).trans kn
          show en_ex _ _ _ _ (49, [(0, gx_r 0), (1, .inl x)], [], t110, n, 0) _
          refine ex_go (S := (50, [(0, gx_r 0), (1, .inl x)], [.inl x], t110, n, 0)) rfl (fun _ => rfl) rfl ?_
          refine ex_go (S := (51, [(0, gx_r 0), (1, .inl x)], [.inl 4294967295, .inl x], t110, n, 0)) rfl (fun _ => rfl) rfl ?_
          refine gx_2mt (c := .ne) rfl (by first | decide | omega) rfl rfl ?_
          refine ex_go (S := (65, [(0, gx_r 0), (1, .inl x)], [gx_r 0], t110, n, 0)) rfl (fun _ => rfl) rfl ?_
          refine gxo_ref (a := 0) (c := 144) rfl g110 rfl rfl rfl rfl rfl ?_
          refine ex_go (S := (69, [(0, gx_r 0), (1, .inl x)], [.inl x, gx_r 144], t110, n, 0)) rfl (fun _ => rfl) rfl ?_
          refine ex_go (S := (70, [(0, gx_r 0), (1, .inl x)], [gx_r 0, .inl x, gx_r 144], t110, n, 0)) rfl (fun _ => rfl) rfl ?_
          refine gxo_get (a := 0) rfl g110 rfl rfl k11 rfl ?_
          refine gxo_ref (a := 257) (c := 284) rfl g110 rfl rfl rfl rfl rfl ?_
          refine gxo_get (a := 284) rfl g110 rfl rfl k12 rfl ?_
          have hxn : x < nn := by omega
          obtain ⟨_, r113, v9, rfl, hv8, hv9⟩ := pc_lampRow (d + 9) n (q := q) (O := O) g110 hn hxn ho110 q3 q1
          refine gx_callo (a := 144) rfl rfl g110 rfl rfl rfl r113 rfl ?_
          show en_ex _ _ _ _ (82, [(0, gx_r 0), (1, .inl x)], [.inl v9], t110, n, 0) _
          refine ex_ret (r := (some (.inl v9), t110, n, 0)) rfl (fun _ => rfl) ?_
          exact ⟨_, rfl, _, t110, rfl, g110, (fun c i h => e110 c i (by first | decide | omega)), fun z => absurd ⟨by omega, Or.inr hxn⟩ z, fun _ z => absurd z (by first | decide | omega), fun _ => ⟨q, hq9, hv9⟩⟩
        · refine gx_1f (c := .ne) rfl (by first | decide | omega) hc9 rfl ?_
          refine ex_go (S := (34, [(0, gx_r 0), (1, .inl x)], [.inl 4294967294], t0, n, 0)) rfl (fun _ => rfl) rfl ?_
          refine ex_ret (r := (some (.inl 4294967294), t0, n, 0)) rfl (fun _ => rfl) ?_
          exact ⟨_, rfl, _, t0, rfl, g0, (fun c i h => rfl), fun _ => rfl, fun z1 z2 => absurd z1 (by first | decide | omega), fun z => absurd z (by first | decide | omega)⟩
end SLQ
