section ENP
variable {oc : Option (List en_V)} {f : en_F} {code : Nat → Option en_I} {stop : Nat → Bool} {P : en_O → Prop}
variable {pc nx : Nat} {ls : en_L} {st : List en_V} {t : en_H} {n sl : Nat}
/-! ### the heap -/
theorem ex_getf {i x1 x2 a : Nat} {q : Nat × List en_V} {v : en_V} (hc : code pc = some (.getfield i, nx, x1, x2)) (hg : en_get t a = some (.inr q)) (hx : Nat.beq q.1 (x2 % 16) = true) (hv : en_nth q.2 x1 = some v) (hp : stop nx = false) (h : en_ex oc f code stop (nx, ls, v :: st, t, n, sl) P) : en_ex oc f code stop (pc, ls, .inr (.inr (.inl (some a))) :: st, t, n, sl) P := by
  refine ex_go (S := (nx, ls, v :: st, t, n, sl)) hc (fun k => ?_) hp h
  show (match en_get t a with
    | some (.inr q) => bif Nat.beq q.1 (x2 % 16) then (match en_nth q.2 x1 with | some v => k nx ls (v :: st) t n sl | none => none) else none
    | _ => none) = _
  rw [hg]
  dsimp only
  rw [hx, hv]
  rfl
theorem ex_putf {i x1 x2 a : Nat} {q : Nat × List en_V} {v : en_V} (hc : code pc = some (.putfield i, nx, x1, x2)) (hg : en_get t a = some (.inr q)) (hx : (Nat.beq q.1 (x2 % 16) && en_fit (x2 / 16 % 4) v && Nat.blt x1 (en_len q.2)) = true) (hp : stop nx = false) (h : ∀ t' : en_H, (∀ k, en_get t' k = if k = a then some (.inr (q.1, en_upd q.2 x1 v)) else en_get t k) → en_ex oc f code stop (nx, ls, st, t', n, sl) P) : en_ex oc f code stop (pc, ls, v :: .inr (.inr (.inl (some a))) :: st, t, n, sl) P := by
  refine ex_go (S := (nx, ls, st, en_set t a (.inr (q.1, en_upd q.2 x1 v)), n, sl)) hc (fun k => ?_) hp (h _ (en_get_set hg))
  show (match en_get t a with
    | some (.inr q) => bif Nat.beq q.1 (x2 % 16) && en_fit (x2 / 16 % 4) v && Nat.blt x1 (en_len q.2) then k nx ls st (en_set t a (.inr (q.1, en_upd q.2 x1 v))) n sl else none
    | _ => none) = _
  rw [hg]
  dsimp only
  rw [hx]
  rfl
theorem ex_aget {ins : Instr} {x1 x2 a i : Nat} {q : Nat × List en_V} {v : en_V} {cb : Nat → Bool} (hc : code pc = some (ins, nx, x1, x2)) (hi : ∀ k : en_K, en_step en_df oc f pc (ins, nx, x1, x2) ls (.inl i :: .inr (.inr (.inl (some a))) :: st) t n sl k = en_aget oc cb nx ls (.inl i :: .inr (.inr (.inl (some a))) :: st) t n sl k) (hg : en_get t a = some (.inl q)) (hx : (cb q.1 && Nat.blt i 2147483648) = true) (hv : en_nth q.2 i = some v) (hp : stop nx = false) (h : en_ex oc f code stop (nx, ls, v :: st, t, n, sl) P) : en_ex oc f code stop (pc, ls, .inl i :: .inr (.inr (.inl (some a))) :: st, t, n, sl) P := by
  refine ex_go (S := (nx, ls, v :: st, t, n, sl)) hc (fun k => ?_) hp h
  rw [hi]
  show (match en_get t a with
    | some (.inl q) => bif cb q.1 && Nat.blt i 2147483648 then (match en_nth q.2 i with | some v => k nx ls (v :: st) t n sl | none => none) else none
    | _ => none) = _
  rw [hg]
  dsimp only
  rw [hx, hv]
  rfl
theorem ex_aput {ins : Instr} {x1 x2 a i d : Nat} {q : Nat × List en_V} {v : en_V} (hc : code pc = some (ins, nx, x1, x2)) (hi : ∀ k : en_K, en_step en_df oc f pc (ins, nx, x1, x2) ls (v :: .inl i :: .inr (.inr (.inl (some a))) :: st) t n sl k = en_aput d nx ls (v :: .inl i :: .inr (.inr (.inl (some a))) :: st) t n sl k) (hg : en_get t a = some (.inl q)) (hx : (en_afit t d q.1 v && (Nat.blt i 2147483648 && Nat.blt i (en_len q.2))) = true) (hp : stop nx = false) (h : ∀ t' : en_H, (∀ k, en_get t' k = if k = a then some (.inl (q.1, en_upd q.2 i v)) else en_get t k) → en_ex oc f code stop (nx, ls, st, t', n, sl) P) : en_ex oc f code stop (pc, ls, v :: .inl i :: .inr (.inr (.inl (some a))) :: st, t, n, sl) P := by
  refine ex_go (S := (nx, ls, st, en_set t a (.inl (q.1, en_upd q.2 i v)), n, sl)) hc (fun k => ?_) hp (h _ (en_get_set hg))
  rw [hi]
  show (match en_get t a with
    | some (.inl q) => bif en_afit t d q.1 v && (Nat.blt i 2147483648 && Nat.blt i (en_len q.2)) then k nx ls st (en_set t a (.inl (q.1, en_upd q.2 i v))) n sl else none
    | _ => none) = _
  rw [hg]
  dsimp only
  rw [hx]
  rfl
theorem ex_inv {ins : Instr} {x1 x2 na : Nat} {ok : List en_V → Bool} {as rest : List en_V} {r : en_R} (hc : code pc = some (ins, nx, x1, x2)) (hi : ∀ k : en_K, en_step en_df oc f pc (ins, nx, x1, x2) ls st t n sl k = en_inv ok f x1 na nx ls st t n sl k) (htk : en_take na st [] = some (as, rest)) (hok : (ok as && Nat.ble (en_sum rest) 8) = true) (hr : f x1 as t n = some r) (hn : n ≤ r.2.2.1) (hp : stop nx = false) (h : en_ex oc f code stop (nx, ls, r.1.toList ++ rest, r.2.1, r.2.2.1, sl + r.2.2.2) P) : en_ex oc f code stop (pc, ls, st, t, n, sl) P := by
  refine ex_go (S := (nx, ls, r.1.toList ++ rest, r.2.1, r.2.2.1, sl + r.2.2.2)) hc (fun k => ?_) hp h
  rw [hi]
  unfold en_inv
  rw [htk]
  dsimp only
  rw [hok, hr]
  dsimp only [cond]
  rw [Nat.ble_eq_true_of_le hn]
/-- a virtual call of a method of the receiver's own class -/
theorem ex_virt {i x1 x2 a : Nat} {as rest : List en_V} {q : Nat × List en_V} {r : en_R} (hc : code pc = some (.invokevirtual i, nx, x1, x2)) (htk : en_take (x2 % 16) st [] = some (.inr (.inr (.inl (some a))) :: as, rest)) (hg : en_get t a = some (.inr q)) (hq : Nat.beq q.1 (x2 / 16) = true) (hsum : Nat.ble (en_sum rest) 8 = true) (hr : f x1 (.inr (.inr (.inl (some a))) :: as) t n = some r) (hn : n ≤ r.2.2.1) (hp : stop nx = false) (h : en_ex oc f code stop (nx, ls, r.1.toList ++ rest, r.2.1, r.2.2.1, sl + r.2.2.2) P) : en_ex oc f code stop (pc, ls, st, t, n, sl) P := by
  refine ex_inv (ok := en_recv t (x2 / 16)) hc (fun _ => rfl) htk ?_ hr hn hp h
  rw [hsum, Bool.and_true]
  show (match en_get t a with
    | some (.inr q) => Nat.beq q.1 (x2 / 16)
    | _ => false) = true
  rw [hg]
  exact hq
theorem ex_stat {i x1 x2 : Nat} {as rest : List en_V} {r : en_R} (hc : code pc = some (.invokestatic i, nx, x1, x2)) (h1 : Nat.beq x1 9991 = false) (h2 : Nat.beq x1 9992 = false) (htk : en_take x2 st [] = some (as, rest)) (hsum : Nat.ble (en_sum rest) 8 = true) (hr : f x1 as t n = some r) (hn : n ≤ r.2.2.1) (hp : stop nx = false) (h : en_ex oc f code stop (nx, ls, r.1.toList ++ rest, r.2.1, r.2.2.1, sl + r.2.2.2) P) : en_ex oc f code stop (pc, ls, st, t, n, sl) P := by
  refine ex_inv (ok := fun _ => true) hc (fun k => ?_) htk (by rw [hsum]; rfl) hr hn hp h
  show (bif Nat.beq x1 9991 then _ else bif Nat.beq x1 9992 then _ else _) = _
  rw [h1, h2]
  rfl
theorem ex_cmp2 {c : ClassFile.Cond} {j : Int} {x1 x2 : Nat} {a b : en_V} {r : Bool} (hc : code pc = some (.if_icmp c j, nx, x1, x2)) (hr : en_rel c a b = some r) (hp : stop (bif r then x1 else nx) = false) (h : en_ex oc f code stop (bif r then x1 else nx, ls, st, t, n, sl) P) : en_ex oc f code stop (pc, ls, b :: a :: st, t, n, sl) P := by
  refine ex_go (S := (bif r then x1 else nx, ls, st, t, n, sl)) hc (fun k => ?_) hp h
  show en_jump (en_rel c a b) x1 nx ls st t n sl k = _
  rw [hr]
  cases r <;> rfl
theorem ex_cmp1 {c : ClassFile.Cond} {j : Int} {x1 x2 : Nat} {a : en_V} {r : Bool} (hc : code pc = some (.ifCond c j, nx, x1, x2)) (hr : en_rel c a (.inl 0) = some r) (hp : stop (bif r then x1 else nx) = false) (h : en_ex oc f code stop (bif r then x1 else nx, ls, st, t, n, sl) P) : en_ex oc f code stop (pc, ls, a :: st, t, n, sl) P := by
  refine ex_go (S := (bif r then x1 else nx, ls, st, t, n, sl)) hc (fun k => ?_) hp h
  show en_jump (en_rel c a (.inl 0)) x1 nx ls st t n sl k = _
  rw [hr]
  cases r <;> rfl
theorem ex_iadd {x1 x2 a b : Nat} (hc : code pc = some (.iadd, nx, x1, x2)) (hab : a + b < 4294967296) (hp : stop nx = false) (h : en_ex oc f code stop (nx, ls, .inl (a + b) :: st, t, n, sl) P) : en_ex oc f code stop (pc, ls, .inl b :: .inl a :: st, t, n, sl) P := by
  refine ex_go (S := (nx, ls, .inl (a + b) :: st, t, n, sl)) hc (fun k => ?_) hp h
  show k nx ls (.inl (en_wrap (a + b)) :: st) t n sl = _
  unfold en_wrap
  rw [Nat.mod_eq_of_lt hab]
/-! ### numbers that are not below 0 -/
theorem en_bnd_nn {x : Nat} (hx : x < 2147483648) : en_bnd (.inl x) = some (x + 2147483648, x + 2147483648) := by
  show some (_, _) = _
  rw [Nat.mod_eq_of_lt (by first | decide | omega)]
theorem en_lt_nn {x y : Nat} (hx : x < 2147483648) (hy : y < 2147483648) : en_lt (.inl x) (.inl y) = some (decide (x < y)) := by
  unfold en_lt
  rw [en_bnd_nn hx, en_bnd_nn hy]
  dsimp only
  by_cases h : x < y
  · rw [decide_eq_true h, show Nat.blt (x + 2147483648) (y + 2147483648) = true from Nat.ble_eq_true_of_le (by first | decide | omega)]
    rfl
  · rw [decide_eq_false h, show Nat.blt (x + 2147483648) (y + 2147483648) = false from Bool.eq_false_iff.mpr (fun q => h (by have := Nat.le_of_ble_eq_true q; omega)), show Nat.ble (y + 2147483648) (x + 2147483648) = true from Nat.ble_eq_true_of_le (by first | decide | omega)]
    rfl
theorem en_eq_nn {x y : Nat} (hx : x < 2147483648) (hy : y < 2147483648) : en_eq (.inl x) (.inl y) = some (decide (x = y)) := by
  unfold en_eq
  rw [en_bnd_nn hx, en_bnd_nn hy]
  dsimp only
  rw [en_beq, en_beq, en_beq]
  by_cases h : x = y
  · subst h
    simp
  · have h1 : (decide (x + 2147483648 = x + 2147483648) && (decide (x + 2147483648 = y + 2147483648) && decide (y + 2147483648 = y + 2147483648))) = false := by
      rw [decide_eq_false (p := x + 2147483648 = y + 2147483648) (by first | decide | omega)]
      simp
    rw [h1, decide_eq_false h]
    have h2 : (Nat.blt (x + 2147483648) (y + 2147483648) || Nat.blt (y + 2147483648) (x + 2147483648)) = true := by
      rcases Nat.lt_or_ge x y with g | g
      · rw [show Nat.blt (x + 2147483648) (y + 2147483648) = true from Nat.ble_eq_true_of_le (by first | decide | omega)]
        rfl
      · rw [show Nat.blt (y + 2147483648) (x + 2147483648) = true from Nat.ble_eq_true_of_le (by first | decide | omega)]
        simp
    rw [h2]
    rfl
/-- en_rel on numbers that are not below 0 -/
noncomputable def en_relp (c : ClassFile.Cond) (x y : Nat) : Bool := match c with
  | .eq => decide (x = y)
  | .ne => !decide (x = y)
  | .lt => decide (x < y)
  | .ge => !decide (x < y)
  | .gt => decide (y < x)
  | .le => !decide (y < x)
theorem en_rel_e1 (a b : en_V) : en_rel .eq a b = en_eq a b := rfl
theorem en_rel_e2 (a b : en_V) : en_rel .ne a b = en_not (en_eq a b) := rfl
theorem en_rel_e3 (a b : en_V) : en_rel .lt a b = en_lt a b := rfl
theorem en_rel_e4 (a b : en_V) : en_rel .ge a b = en_not (en_lt a b) := rfl
theorem en_rel_e5 (a b : en_V) : en_rel .gt a b = en_lt b a := rfl
theorem en_rel_e6 (a b : en_V) : en_rel .le a b = en_not (en_lt b a) := rfl
theorem en_not_s (b : Bool) : en_not (some b) = some (!b) := rfl
theorem en_rel_nn (c : ClassFile.Cond) {x y : Nat} (hx : x < 2147483648) (hy : y < 2147483648) : en_rel c (.inl x) (.inl y) = some (en_relp c x y) := by
  have h1 := en_eq_nn hx hy
  have h2 := en_lt_nn hx hy
  have h3 := en_lt_nn hy hx
  generalize (Sum.inl x : en_V) = a at h1 h2 h3 ⊢
  generalize (Sum.inl y : en_V) = b at h1 h2 h3 ⊢
  cases c
  · rw [en_rel_e1, h1]; rfl
  · rw [en_rel_e2, h1, en_not_s]; rfl
  · rw [en_rel_e3, h2]; rfl
  · rw [en_rel_e4, h2, en_not_s]; rfl
  · rw [en_rel_e5, h3]; rfl
  · rw [en_rel_e6, h3, en_not_s]; rfl
theorem en_rel_t {c : ClassFile.Cond} {x y : Nat} (hx : x < 2147483648) (hy : y < 2147483648) (h : en_relp c x y = true) : en_rel c (.inl x) (.inl y) = some true := by rw [en_rel_nn c hx hy, h]
theorem en_rel_f {c : ClassFile.Cond} {x y : Nat} (hx : x < 2147483648) (hy : y < 2147483648) (h : en_relp c x y = false) : en_rel c (.inl x) (.inl y) = some false := by rw [en_rel_nn c hx hy, h]
end ENP
