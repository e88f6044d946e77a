section ENB
theorem en_bif {α : Type} {b : Bool} {x : Option α} {o : α} (h : (bif b then x else none) = some o) : b = true ∧ x = some o := by
  cases b with
  | true => exact ⟨rfl, h⟩
  | false => cases h
variable {nx : Nat} {ls : en_L} {st : List en_V} {t : en_H} {n sl : Nat} {k : en_K} {o : en_O}
theorem en_load_inv {d i : Nat} (h : en_load d i nx ls st t n sl k = some o) : ∃ a, en_ld ls i = some a ∧ en_kd a = d ∧ k nx ls (a :: st) t n sl = some o := by
  unfold en_load at h
  split at h
  · rename_i a ha
    obtain ⟨h1, h2⟩ := en_bif h
    exact ⟨a, ha, Nat.eq_of_beq_eq_true h1, h2⟩
  · cases h
theorem en_store_inv {d i : Nat} (h : en_store d i nx ls st t n sl k = some o) : ∃ a r, st = a :: r ∧ en_kd a = d ∧ k nx ((i, a) :: en_flt (bif Nat.beq d 1 then en_keep2 i else en_keep1 i) ls) r t n sl = some o := by
  unfold en_store at h
  split at h
  · rename_i a r
    obtain ⟨h1, h2⟩ := en_bif h
    exact ⟨a, r, rfl, Nat.eq_of_beq_eq_true h1, h2⟩
  · cases h
theorem en_iinc_inv {i x : Nat} (h : en_iinc i x nx ls st t n sl k = some o) : ∃ a, en_ld ls i = some (.inl a) ∧ k nx ((i, .inl (en_wrap (a + x))) :: en_flt (en_keep1 i) ls) st t n sl = some o := by
  unfold en_iinc at h
  split at h
  · rename_i a ha
    exact ⟨a, ha, h⟩
  · cases h
theorem en_bin_inv {g : en_V → en_V → Option en_V} (h : en_bin g nx ls st t n sl k = some o) : ∃ a b r v, st = b :: a :: r ∧ g a b = some v ∧ k nx ls (v :: r) t n sl = some o := by
  unfold en_bin at h
  split at h
  · rename_i b a r
    split at h
    · rename_i v hv
      exact ⟨a, b, r, v, rfl, hv, h⟩
    · cases h
  · cases h
theorem en_mm_inv {g : en_V → en_V → Option en_V} (h : en_mm g nx ls st t n sl k = some o) : ∃ a b r v, st = b :: a :: r ∧ en_sum r ≤ 8 ∧ g a b = some v ∧ k nx ls (v :: r) t n sl = some o := by
  unfold en_mm at h
  split at h
  · rename_i b a r
    obtain ⟨h1, h⟩ := en_bif h
    split at h
    · rename_i v hv
      exact ⟨a, b, r, v, rfl, Nat.le_of_ble_eq_true h1, hv, h⟩
    · cases h
  · cases h
theorem en_jump_inv {r : Option Bool} {tg : Nat} (h : en_jump r tg nx ls st t n sl k = some o) : (r = some true ∧ k tg ls st t n sl = some o) ∨ (r = some false ∧ k nx ls st t n sl = some o) := by
  unfold en_jump at h
  split at h
  · rename_i b
    cases b with
    | true => exact Or.inl ⟨rfl, h⟩
    | false => exact Or.inr ⟨rfl, h⟩
  · cases h
theorem en_cmp1_inv {q : ClassFile.Cond} {tg : Nat} (h : en_cmp1 q tg nx ls st t n sl k = some o) : ∃ a r, st = a :: r ∧ en_jump (en_rel q a (.inl 0)) tg nx ls r t n sl k = some o := by
  unfold en_cmp1 at h
  split at h
  · exact ⟨_, _, rfl, h⟩
  · cases h
theorem en_cmp2_inv {q : ClassFile.Cond} {tg : Nat} (h : en_cmp2 q tg nx ls st t n sl k = some o) : ∃ a b r, st = b :: a :: r ∧ en_jump (en_rel q a b) tg nx ls r t n sl k = some o := by
  unfold en_cmp2 at h
  split at h
  · exact ⟨_, _, _, rfl, h⟩
  · cases h
theorem en_acne_inv {tg : Nat} (h : en_acne tg nx ls st t n sl k = some o) : ∃ a b r, st = b :: a :: r ∧ en_jump (en_not (en_ac a b)) tg nx ls r t n sl k = some o := by
  unfold en_acne at h
  split at h
  · exact ⟨_, _, _, rfl, h⟩
  · cases h
theorem en_getf_inv {x1 x2 : Nat} (h : en_getf x1 x2 nx ls st t n sl k = some o) : (∃ a r q v, st = .inr (.inr (.inl (some a))) :: r ∧ en_get t a = some (.inr q) ∧ q.1 = x2 ∧ q.2[x1]? = some v ∧ k nx ls (v :: r) t n sl = some o) ∨ ∃ w r v, st = .inr (.inr (.inr (.inl (w + 3)))) :: r ∧ x2 = 11 ∧ en_wf w x1 = some v ∧ k nx ls (v :: r) t n sl = some o := by
  unfold en_getf at h
  split at h
  · rename_i a r
    split at h
    · rename_i q hq
      obtain ⟨h1, h⟩ := en_bif h
      split at h
      · rename_i v hv
        rw [en_nth_eq] at hv
        exact Or.inl ⟨a, r, q, v, rfl, hq, Nat.eq_of_beq_eq_true h1, hv, h⟩
      · cases h
    · cases h
  · rename_i w r
    obtain ⟨h1, h⟩ := en_bif h
    split at h
    · rename_i v hv
      exact Or.inr ⟨w, r, v, rfl, Nat.eq_of_beq_eq_true h1, hv, h⟩
    · cases h
  · cases h
theorem en_wf_ok {w x1 : Nat} {v : en_V} (h : en_wf w x1 = some v) : w < 42 ∧ ((x1 = 0 ∧ v = .inr (.inl (en_wk w).1)) ∨ (x1 = 1 ∧ v = .inl (en_wk w).2.1) ∨ (x1 = 2 ∧ v = .inl (en_wk w).2.2)) := by
  unfold en_wf at h
  split at h
  · rename_i q hq
    rw [en_nth_eq] at hq
    have e : en_wk w = q := by unfold en_wk; rw [List.getD_eq_getElem?_getD, hq]; rfl
    refine ⟨(List.getElem?_eq_some_iff.mp hq).1, ?_⟩
    rw [e]
    split at h
    · cases h; exact Or.inl ⟨rfl, rfl⟩
    · cases h; exact Or.inr (Or.inl ⟨rfl, rfl⟩)
    · cases h; exact Or.inr (Or.inr ⟨rfl, rfl⟩)
    · cases h
  · cases h
theorem en_putf_inv {x1 ci kd : Nat} (h : en_putf x1 ci kd nx ls st t n sl k = some o) : ∃ v a r q, st = v :: .inr (.inr (.inl (some a))) :: r ∧ en_get t a = some (.inr q) ∧ q.1 = ci ∧ en_fit kd v = true ∧ x1 < q.2.length ∧ k nx ls r (en_set t a (.inr (q.1, en_upd q.2 x1 v))) n sl = some o := by
  unfold en_putf at h
  split at h
  · rename_i v a r
    split at h
    · rename_i q hq
      obtain ⟨h1, h⟩ := en_bif h
      simp only [Bool.and_eq_true] at h1
      refine ⟨v, a, r, q, rfl, hq, Nat.eq_of_beq_eq_true h1.1.1, h1.1.2, ?_, h⟩
      rw [← en_len_eq]
      exact Nat.le_of_ble_eq_true h1.2
    · cases h
  · cases h
theorem en_aget_inv {oc : Option (List en_V)} {c : Nat → Bool} (h : en_aget oc c nx ls st t n sl k = some o) : (∃ i a r q v, st = .inl i :: .inr (.inr (.inl (some a))) :: r ∧ en_get t a = some (.inl q) ∧ c q.1 = true ∧ i < 2147483648 ∧ q.2[i]? = some v ∧ k nx ls (v :: r) t n sl = some o) ∨
    ∃ i j r v, st = .inl i :: .inr (.inr (.inr (.inl (j + 1)))) :: r ∧ en_xget oc c j i = some v ∧ i < 2147483648 ∧ k nx ls (v :: r) t n sl = some o := by
  unfold en_aget at h
  split at h
  · rename_i i a r
    split at h
    · rename_i q hq
      obtain ⟨h1, h⟩ := en_bif h
      simp only [Bool.and_eq_true] at h1
      split at h
      · rename_i v hv
        rw [en_nth_eq] at hv
        exact Or.inl ⟨i, a, r, q, v, rfl, hq, h1.1, Nat.le_of_ble_eq_true h1.2, hv, h⟩
      · cases h
    · cases h
  · rename_i i j r
    obtain ⟨h1, h⟩ := en_bif h
    split at h
    · rename_i v hv
      exact Or.inr ⟨i, j, r, v, rfl, hv, Nat.le_of_ble_eq_true h1, h⟩
    · cases h
  · cases h
theorem en_xget_inv {oc : Option (List en_V)} {c : Nat → Bool} {j i : Nat} {v : en_V} (h : en_xget oc c j i = some v) : (j = 1 ∧ c 0 = true ∧ ∃ L, oc = some L ∧ L[i]? = some v) ∨ (j = 44 ∧ c 4 = true ∧ i < 42 ∧ v = .inr (.inr (.inr (.inl (2 + i + 1))))) ∨ (j = 45 ∧ c 0 = true ∧ ∃ x, en_rose[i]? = some x ∧ v = .inl x) := by
  unfold en_xget at h
  cases h1 : Nat.beq j 1 with
  | true =>
    rw [h1] at h
    dsimp only [cond] at h
    split at h
    · rename_i L
      obtain ⟨h2, h⟩ := en_bif h
      rw [en_nth_eq] at h
      exact Or.inl ⟨Nat.eq_of_beq_eq_true h1, h2, L, rfl, h⟩
    · cases h
  | false =>
    rw [h1] at h
    dsimp only [cond] at h
    cases h2 : Nat.beq j 44 with
    | true =>
      rw [h2] at h
      dsimp only [cond] at h
      obtain ⟨h3, h⟩ := en_bif h
      rw [Bool.and_eq_true] at h3
      exact Or.inr (Or.inl ⟨Nat.eq_of_beq_eq_true h2, h3.1, Nat.le_of_ble_eq_true h3.2, (Option.some.inj h).symm⟩)
    | false =>
      rw [h2] at h
      dsimp only [cond] at h
      obtain ⟨h3, h⟩ := en_bif h
      obtain ⟨h4, h⟩ := en_bif h
      split at h
      · rename_i x hx
        rw [en_nth_eq] at hx
        exact Or.inr (Or.inr ⟨Nat.eq_of_beq_eq_true h3, h4, x, hx, (Option.some.inj h).symm⟩)
      · cases h
theorem en_aput_inv {d : Nat} (h : en_aput d nx ls st t n sl k = some o) : ∃ v i a r q, st = v :: .inl i :: .inr (.inr (.inl (some a))) :: r ∧ en_get t a = some (.inl q) ∧ en_afit t d q.1 v = true ∧ i < 2147483648 ∧ i < q.2.length ∧ k nx ls r (en_set t a (.inl (q.1, en_upd q.2 i v))) n sl = some o := by
  unfold en_aput at h
  split at h
  · rename_i v i a r
    split at h
    · rename_i q hq
      obtain ⟨h1, h⟩ := en_bif h
      simp only [Bool.and_eq_true] at h1
      refine ⟨v, i, a, r, q, rfl, hq, h1.1, Nat.le_of_ble_eq_true h1.2.1, ?_, h⟩
      rw [← en_len_eq]
      exact Nat.le_of_ble_eq_true h1.2.2
    · cases h
  · cases h
theorem en_alen_inv {oc : Option (List en_V)} (h : en_alen oc nx ls st t n sl k = some o) : (∃ a r q, st = .inr (.inr (.inl (some a))) :: r ∧ en_get t a = some (.inl q) ∧ q.1 < 8 ∧ k nx ls (.inl q.2.length :: r) t n sl = some o) ∨
    (∃ r L, st = .inr (.inr (.inr (.inl (1 + 1)))) :: r ∧ oc = some L ∧ k nx ls (.inl L.length :: r) t n sl = some o) ∨ ∃ r, st = .inr (.inr (.inr (.inl (44 + 1)))) :: r ∧ k nx ls (.inl 42 :: r) t n sl = some o := by
  unfold en_alen at h
  split at h
  · rename_i a r
    split at h
    · rename_i q hq
      obtain ⟨h1, h⟩ := en_bif h
      rw [en_len_eq] at h
      exact Or.inl ⟨a, r, q, rfl, hq, Nat.le_of_ble_eq_true h1, h⟩
    · cases h
  · rename_i j r
    split at h
    · rename_i m hm
      unfold en_xlen at hm
      cases h1 : Nat.beq j 1 with
      | true =>
        rw [h1] at hm
        dsimp only [cond] at hm
        have e := Nat.eq_of_beq_eq_true h1
        subst e
        split at hm
        · rename_i L
          cases hm
          rw [en_len_eq] at h
          exact Or.inr (Or.inl ⟨r, L, rfl, rfl, h⟩)
        · cases hm
      | false =>
        rw [h1] at hm
        dsimp only [cond] at hm
        obtain ⟨h2, hm⟩ := en_bif hm
        have e := Nat.eq_of_beq_eq_true h2
        subst e
        cases hm
        exact Or.inr (Or.inr ⟨r, rfl, h⟩)
    · cases h
  · cases h
theorem en_free_inv {t : en_H} {n : Nat} (h : en_free t n = true) : ∃ c, en_get t n = some c := by
  unfold en_free at h
  split at h
  · rename_i q hq
    exact ⟨_, hq⟩
  · cases h
theorem en_new_inv {ci : Nat} {fs : List en_V} (h : en_new ci fs nx ls st t n sl k = some o) : (∃ c, en_get t n = some c) ∧ k nx ls (.inr (.inr (.inl (some n))) :: st) (en_set t n (.inr (ci, fs))) (n + 1) (sl + fs.length) = some o := by
  unfold en_new at h
  obtain ⟨h1, h⟩ := en_bif h
  rw [en_len_eq] at h
  exact ⟨en_free_inv h1, h⟩
theorem en_newa_inv {c : Nat} {z : en_V} (h : en_newa c z nx ls st t n sl k = some o) : ∃ m r, st = .inl m :: r ∧ (∃ c, en_get t n = some c) ∧ m ≤ 60000 ∧ k nx ls (.inr (.inr (.inl (some n))) :: r) (en_set t n (.inl (c, en_rep m z))) (n + 1) (sl + m) = some o := by
  unfold en_newa at h
  split at h
  · rename_i m r
    obtain ⟨h1, h⟩ := en_bif h
    simp only [Bool.and_eq_true] at h1
    exact ⟨m, r, rfl, en_free_inv h1.1, Nat.le_of_ble_eq_true h1.2, h⟩
  · cases h
theorem en_multi_inv (h : en_multi nx ls st t n sl k = some o) : ∃ m w r u, st = .inl m :: .inl w :: r ∧ (∃ c, en_get t n = some c) ∧ m ≤ 60000 ∧ w ≤ 60000 ∧ en_fill m (en_set t n (.inl (7, en_refs (n + 1) w))) (n + 1) w = some u ∧ k nx ls (.inr (.inr (.inl (some n))) :: r) u (n + 1 + w) (sl + w + w * m) = some o := by
  unfold en_multi at h
  split at h
  · rename_i m w r
    obtain ⟨h1, h⟩ := en_bif h
    simp only [Bool.and_eq_true] at h1
    split at h
    · rename_i u hu
      exact ⟨m, w, r, u, rfl, en_free_inv h1.1, Nat.le_of_ble_eq_true h1.2.1, Nat.le_of_ble_eq_true h1.2.2, hu, h⟩
    · cases h
  · cases h
theorem en_inv_inv {ok : List en_V → Bool} {f : en_F} {mi na : Nat} (h : en_inv ok f mi na nx ls st t n sl k = some o) : ∃ as rest r, en_take na st [] = some (as, rest) ∧ ok as = true ∧ en_sum rest ≤ 8 ∧ f mi as t n = some r ∧ n ≤ r.2.2.1 ∧ k nx ls (r.1.toList ++ rest) r.2.1 r.2.2.1 (sl + r.2.2.2) = some o := by
  unfold en_inv at h
  split at h
  · rename_i q hq
    obtain ⟨h1, h⟩ := en_bif h
    simp only [Bool.and_eq_true] at h1
    split at h
    · rename_i r hr
      obtain ⟨h2, h⟩ := en_bif h
      exact ⟨q.1, q.2, r, hq, h1.1, Nat.le_of_ble_eq_true h1.2, hr, Nat.le_of_ble_eq_true h2, h⟩
    · cases h
  · cases h
theorem en_recv_inv {rc : Nat} {as : List en_V} (h : en_recv t rc as = true) : ∃ a as' q, as = .inr (.inr (.inl (some a))) :: as' ∧ en_get t a = some (.inr q) ∧ q.1 = rc := by
  unfold en_recv at h
  split at h
  · rename_i a as'
    split at h
    · rename_i q hq
      exact ⟨a, as', q, rfl, hq, Nat.eq_of_beq_eq_true h⟩
    · cases h
  · cases h
theorem en_isref_inv {as : List en_V} (h : en_isref as = true) : ∃ a as', as = .inr (.inr (.inl (some a))) :: as' := by
  unfold en_isref at h
  split at h
  · exact ⟨_, _, rfl⟩
  · cases h
theorem en_oinit_inv (h : en_oinit nx ls st t n sl k = some o) : ∃ a r, st = .inr (.inr (.inl (some a))) :: r ∧ en_sum r ≤ 8 ∧ k nx ls r t n sl = some o := by
  unfold en_oinit at h
  split at h
  · rename_i a r
    obtain ⟨h1, h⟩ := en_bif h
    exact ⟨a, r, rfl, Nat.le_of_ble_eq_true h1, h⟩
  · cases h
theorem en_ret1_inv {d b : Nat} (h : en_ret1 d b st t n sl = some o) : ∃ a, st = [a] ∧ en_kd a = d ∧ (b = 1 → en_fit 3 a = true) ∧ o = .inl (some a, t, n, sl) := by
  unfold en_ret1 at h
  split at h
  · rename_i a
    obtain ⟨h1, h⟩ := en_bif h
    simp only [Bool.and_eq_true] at h1
    refine ⟨a, rfl, Nat.eq_of_beq_eq_true h1.1, fun hb => ?_, (Option.some.inj h).symm⟩
    have h2 := h1.2
    rw [hb] at h2
    exact h2
  · cases h
theorem en_dup_inv (h : en_dup nx ls st t n sl k = some o) : ∃ a r, st = a :: r ∧ en_cat a = 1 ∧ k nx ls (a :: a :: r) t n sl = some o := by
  unfold en_dup at h
  split at h
  · rename_i a r
    obtain ⟨h1, h⟩ := en_bif h
    exact ⟨a, r, rfl, Nat.eq_of_beq_eq_true h1, h⟩
  · cases h
theorem en_dup2_inv (h : en_dup2 nx ls st t n sl k = some o) : ∃ a b r, st = a :: b :: r ∧ en_cat a = 1 ∧ en_cat b = 1 ∧ k nx ls (a :: b :: a :: b :: r) t n sl = some o := by
  unfold en_dup2 at h
  split at h
  · rename_i a b r
    obtain ⟨h1, h⟩ := en_bif h
    simp only [Bool.and_eq_true] at h1
    exact ⟨a, b, r, rfl, Nat.eq_of_beq_eq_true h1.1, Nat.eq_of_beq_eq_true h1.2, h⟩
  · cases h
theorem en_pop_inv (h : en_pop nx ls st t n sl k = some o) : ∃ a r, st = a :: r ∧ en_cat a = 1 ∧ k nx ls r t n sl = some o := by
  unfold en_pop at h
  split at h
  · rename_i a r
    obtain ⟨h1, h⟩ := en_bif h
    exact ⟨a, r, rfl, Nat.eq_of_beq_eq_true h1, h⟩
  · cases h
theorem en_pop2_inv (h : en_pop2 nx ls st t n sl k = some o) : ∃ a r, st = a :: r ∧ en_cat a = 2 ∧ k nx ls r t n sl = some o := by
  unfold en_pop2 at h
  split at h
  · rename_i a r
    obtain ⟨h1, h⟩ := en_bif h
    exact ⟨a, r, rfl, Nat.eq_of_beq_eq_true h1, h⟩
  · cases h
theorem en_ifnull_inv {tg : Nat} (h : en_ifnull tg nx ls st t n sl k = some o) : ∃ a r, st = a :: r ∧ en_jump (en_nul a) tg nx ls r t n sl k = some o := by
  unfold en_ifnull at h
  split at h
  · exact ⟨_, _, rfl, h⟩
  · cases h
theorem en_aceq_inv {tg : Nat} (h : en_aceq tg nx ls st t n sl k = some o) : ∃ a b r, st = b :: a :: r ∧ en_jump (en_ac a b) tg nx ls r t n sl k = some o := by
  unfold en_aceq at h
  split at h
  · exact ⟨_, _, _, rfl, h⟩
  · cases h
theorem en_i2l_inv (h : en_i2l nx ls st t n sl k = some o) : ∃ a v r, st = a :: r ∧ (∀ {ba : Nat} {ex : Nat → Nat} {w : Value}, en_rv ba ex a w → ∃ x : Int32, w = .int x ∧ en_rv ba ex v (.long x.toInt64)) ∧ k nx ls (v :: r) t n sl = some o := by
  unfold en_i2l at h
  split at h
  · rename_i a r
    exact ⟨_, _, r, rfl, fun hw => ⟨nI a, hw, by show Value.long _ = Value.long _; rw [en_lN_tn]⟩, h⟩
  · rename_i a r
    refine ⟨_, _, r, rfl, fun hw => ?_, h⟩
    obtain ⟨x, hx, -⟩ := hw
    exact ⟨x, hx, _, rfl⟩
  · cases h
theorem en_i2b_inv (h : en_i2b nx ls st t n sl k = some o) : ∃ a r, st = .inl a :: r ∧ k nx ls (.inl ((nI a).toInt8.toInt32).toBitVec.toNat :: r) t n sl = some o := by
  unfold en_i2b at h
  split at h
  · exact ⟨_, _, rfl, h⟩
  · cases h
theorem en_full {ba : Nat} {ex : Nat → Nat} (x : Int32) : en_rv ba ex (.inr (.inr (.inr (.inr (0, 4294967295))))) (.int x) := by
  refine ⟨x, rfl, ?_, ?_⟩
  · have := Int32.le_toInt x
    show ((0 : Nat) : Int) ≤ _
    simp at this ⊢
    omega
  · have := Int32.toInt_lt x
    show _ ≤ ((4294967295 : Nat) : Int)
    simp at this ⊢
    omega
theorem en_afit0 {t : en_H} {c : Nat} : ∀ {v : en_V}, en_afit t 0 c v = true → ∃ x, v = .inl x ∧ c = 0
  | .inl x, h => ⟨x, rfl, Nat.eq_of_beq_eq_true h⟩
  | .inr (.inl _), h => by cases h
  | .inr (.inr (.inl none)), h => by cases h
  | .inr (.inr (.inl (some _))), h => by cases h
  | .inr (.inr (.inr (.inl _))), h => by cases h
  | .inr (.inr (.inr (.inr _))), h => by cases h
theorem en_afit1 {t : en_H} {c : Nat} : ∀ {v : en_V}, en_afit t 1 c v = true → ∃ x, v = .inr (.inl x) ∧ c = 3
  | .inr (.inl x), h => ⟨x, rfl, Nat.eq_of_beq_eq_true h⟩
  | .inl _, h => by cases h
  | .inr (.inr (.inl none)), h => by cases h
  | .inr (.inr (.inl (some _))), h => by cases h
  | .inr (.inr (.inr (.inl _))), h => by cases h
  | .inr (.inr (.inr (.inr _))), h => by cases h
theorem en_byte_lo : ∀ k : Fin 128, (nI k.val).toInt8.toInt32 = nI k.val := by decide +kernel
theorem en_byte_hi : ∀ k : Fin 128, (nI (k.val + 4294967168)).toInt8.toInt32 = nI (k.val + 4294967168) := by decide +kernel
theorem en_afit2 {t : en_H} {c : Nat} : ∀ {v : en_V}, en_afit t 2 c v = true → (∃ x, v = .inl x ∧ c = 2 ∧ x ≤ 1) ∨ (∃ x, v = .inl x ∧ c = 1 ∧ (nI x).toInt8.toInt32 = nI x)
  | .inl x, h => by
    have h : ((Nat.beq c 2 && Nat.ble x 1) || (Nat.beq c 1 && (Nat.blt x 128 || (Nat.ble 4294967168 x && Nat.blt x 4294967296)))) = true := h
    simp only [Bool.or_eq_true, Bool.and_eq_true] at h
    rcases h with h | ⟨h1, h⟩
    · exact Or.inl ⟨x, rfl, Nat.eq_of_beq_eq_true h.1, Nat.le_of_ble_eq_true h.2⟩
    · refine Or.inr ⟨x, rfl, Nat.eq_of_beq_eq_true h1, ?_⟩
      rcases h with h | ⟨h2, h3⟩
      · exact en_byte_lo ⟨x, Nat.le_of_ble_eq_true h⟩
      · have h2 := Nat.le_of_ble_eq_true h2
        have h3 : x < 4294967296 := Nat.le_of_ble_eq_true h3
        have := en_byte_hi ⟨x - 4294967168, by omega⟩
        dsimp only at this
        rw [Nat.sub_add_cancel h2] at this
        exact this
  | .inr (.inl _), h => by cases h
  | .inr (.inr (.inl none)), h => by cases h
  | .inr (.inr (.inl (some _))), h => by cases h
  | .inr (.inr (.inr (.inl _))), h => by cases h
  | .inr (.inr (.inr (.inr _))), h => by cases h
theorem en_afit3 {t : en_H} {c : Nat} : ∀ {v : en_V}, en_afit t 3 c v = true → (v = .inr (.inr (.inl none)) ∧ c = 4) ∨ (∃ j, v = .inr (.inr (.inr (.inl (2 + j + 1)))) ∧ j < 42 ∧ c = 4) ∨ ∃ y q, v = .inr (.inr (.inl (some y))) ∧ en_get t y = some (.inr q) ∧ ((c = 5 ∧ q.1 = 7) ∨ (c = 6 ∧ q.1 = 6))
  | .inl _, h => by cases h
  | .inr (.inl _), h => by cases h
  | .inr (.inr (.inl none)), h => Or.inl ⟨rfl, Nat.eq_of_beq_eq_true h⟩
  | .inr (.inr (.inl (some y))), h => by
    have h : (match en_get t y with
      | some (.inr q) => (Nat.beq c 5 && Nat.beq q.1 7) || (Nat.beq c 6 && Nat.beq q.1 6)
      | _ => false) = true := h
    split at h
    · rename_i q hq
      rw [Bool.or_eq_true, Bool.and_eq_true, Bool.and_eq_true] at h
      refine Or.inr (Or.inr ⟨y, q, rfl, hq, ?_⟩)
      rcases h with h | h
      · exact Or.inl ⟨Nat.eq_of_beq_eq_true h.1, Nat.eq_of_beq_eq_true h.2⟩
      · exact Or.inr ⟨Nat.eq_of_beq_eq_true h.1, Nat.eq_of_beq_eq_true h.2⟩
    · cases h
  | .inr (.inr (.inr (.inl 0))), h => by cases h
  | .inr (.inr (.inr (.inl (j + 1)))), h => by
    have h : (Nat.beq c 4 && (Nat.ble 2 j && Nat.ble j 43)) = true := h
    simp only [Bool.and_eq_true] at h
    have h2 := Nat.le_of_ble_eq_true h.2.1
    have h3 := Nat.le_of_ble_eq_true h.2.2
    refine Or.inr (Or.inl ⟨j - 2, ?_, by omega, Nat.eq_of_beq_eq_true h.1⟩)
    rw [show 2 + (j - 2) = j by omega]
  | .inr (.inr (.inr (.inr _))), h => by cases h
theorem en_l2i_inv (h : en_l2i nx ls st t n sl k = some o) : ∃ a v r, st = a :: r ∧ (∀ {ba : Nat} {ex : Nat → Nat} {w : Value}, en_rv ba ex a w → ∃ x : Int64, w = .long x ∧ en_rv ba ex v (.int x.toInt32)) ∧ k nx ls (v :: r) t n sl = some o := by
  unfold en_l2i at h
  split at h
  · rename_i a r
    exact ⟨_, _, r, rfl, fun hw => ⟨lN a, hw, by show Value.int _ = Value.int _; rw [en_nI_tn]⟩, h⟩
  · cases h
theorem en_switch_inv {pc : Nat} {df lo hi : Int} {os : Array Int} (h : en_switch pc df lo hi os ls st t n sl k = some o) : ∃ a r q, st = a :: r ∧ en_bnd a = some q ∧ (((q.2 : Int) - 2147483648 < lo ∨ hi < (q.1 : Int) - 2147483648) ∧ (∃ tg : Nat, (pc : Int) + df = (tg : Int) ∧ k tg ls r t n sl = some o) ∨
    ¬ ((q.2 : Int) - 2147483648 < lo ∨ hi < (q.1 : Int) - 2147483648) ∧ q.1 = q.2 ∧ ∃ (of : Int) (tg : Nat), os[((q.1 : Int) - 2147483648 - lo).toNat]? = some of ∧ (pc : Int) + of = (tg : Int) ∧ k tg ls r t n sl = some o) := by
  unfold en_switch at h
  split at h
  · rename_i a r
    split at h
    · rename_i q hq
      refine ⟨a, r, q, rfl, hq, ?_⟩
      split at h
      · rename_i hc
        split at h
        · rename_i h0
          exact Or.inl ⟨hc, _, (Int.toNat_of_nonneg h0).symm, h⟩
        · cases h
      · rename_i hc
        split at h
        · rename_i he
          split at h
          · rename_i of hof
            rw [en_nth_eq, Array.getElem?_toList] at hof
            split at h
            · rename_i h0
              exact Or.inr ⟨hc, he, of, _, hof, (Int.toNat_of_nonneg h0).symm, h⟩
            · cases h
          · cases h
        · cases h
    · cases h
  · cases h
end ENB
