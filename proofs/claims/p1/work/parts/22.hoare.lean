section ENO
/-- from the state S the engine comes to an end of which P holds -/
def en_ex (oc : Option (List en_V)) (f : en_F) (code : Nat → Option en_I) (stop : Nat → Bool) (S : en_S) (P : en_O → Prop) : Prop := ∃ (fuel : Nat) (o : en_O), en_run en_df oc f code stop fuel S.1 S.2.1 S.2.2.1 S.2.2.2.1 S.2.2.2.2.1 S.2.2.2.2.2 = some o ∧ P o
variable {oc : Option (List en_V)} {f : en_F} {code : Nat → Option en_I} {stop : Nat → Bool} {P : en_O → Prop}
variable {pc nx : Nat} {ls : en_L} {st : List en_V} {t : en_H} {n sl : Nat}
theorem ex_imp {S : en_S} {P' : en_O → Prop} (hP : ∀ o, P o → P' o) (h : en_ex oc f code stop S P) : en_ex oc f code stop S P' := by
  obtain ⟨fuel, o, h2, h3⟩ := h
  exact ⟨fuel, o, h2, hP o h3⟩
theorem ex_go {e : en_I} {S : en_S} (hc : code pc = some e) (hs : ∀ k : en_K, en_step en_df oc f pc e ls st t n sl k = k S.1 S.2.1 S.2.2.1 S.2.2.2.1 S.2.2.2.2.1 S.2.2.2.2.2) (hp : stop S.1 = false) (h : en_ex oc f code stop S P) : en_ex oc f code stop (pc, ls, st, t, n, sl) P := by
  obtain ⟨fuel, o, h2, h3⟩ := h
  refine ⟨fuel + 1, o, ?_, h3⟩
  show (match code pc with
    | some e => en_step en_df oc f pc e ls st t n sl (fun pc' ls' st' t' n' sl' => bif stop pc' then some (.inr (pc', ls', st', t', n', sl')) else en_run en_df oc f code stop fuel pc' ls' st' t' n' sl')
    | none => none) = some o
  rw [hc]
  show en_step en_df oc f pc e ls st t n sl _ = some o
  rw [hs]
  show (bif stop S.1 then _ else _) = some o
  rw [hp]
  exact h2
theorem ex_stop {e : en_I} {S : en_S} (hc : code pc = some e) (hs : ∀ k : en_K, en_step en_df oc f pc e ls st t n sl k = k S.1 S.2.1 S.2.2.1 S.2.2.2.1 S.2.2.2.2.1 S.2.2.2.2.2) (hp : stop S.1 = true) (h : P (.inr S)) : en_ex oc f code stop (pc, ls, st, t, n, sl) P := by
  refine ⟨1, .inr S, ?_, h⟩
  show (match code pc with
    | some e => en_step en_df oc f pc e ls st t n sl (fun pc' ls' st' t' n' sl' => bif stop pc' then some (.inr (pc', ls', st', t', n', sl')) else en_run en_df oc f code stop 0 pc' ls' st' t' n' sl')
    | none => none) = _
  rw [hc]
  show en_step en_df oc f pc e ls st t n sl _ = _
  rw [hs]
  show (bif stop S.1 then _ else _) = _
  rw [hp]
  rfl
theorem ex_ret {e : en_I} {r : en_R} (hc : code pc = some e) (hs : ∀ k : en_K, en_step en_df oc f pc e ls st t n sl k = some (.inl r)) (h : P (.inl r)) : en_ex oc f code stop (pc, ls, st, t, n, sl) P := by
  refine ⟨1, .inl r, ?_, h⟩
  show (match code pc with
    | some e => en_step en_df oc f pc e ls st t n sl (fun pc' ls' st' t' n' sl' => bif stop pc' then some (.inr (pc', ls', st', t', n', sl')) else en_run en_df oc f code stop 0 pc' ls' st' t' n' sl')
    | none => none) = _
  rw [hc]
  exact hs _
/-! ### the heap -/
theorem ex_getf {i x1 x2 a : Nat} {q : Nat × List en_V} {v : en_V} (hc : code pc = some (.getfield i, nx, x1, x2)) (hg : en_get t a = some (.inr q)) (hx : Nat.beq q.1 (x2 % 16) = true) (hv : en_nth q.2 x1 = some v) (hp : stop nx = false) (h : en_ex oc f code stop (nx, ls, v :: st, t, n, sl) P) : en_ex oc f code stop (pc, ls, .inr (.inr (.inl (some a))) :: st, t, n, sl) P := by
  refine ex_go (S := (nx, ls, v :: st, t, n, sl)) hc (fun k => ?_) hp h
  show (match en_get t a with
    | some (.inr q) => bif Nat.beq q.1 (x2 % 16) then (match en_nth q.2 x1 with | some v => k nx ls (v :: st) t n sl | none => none) else none
    | _ => none) = _
  rw [hg]
  dsimp only
  rw [hx, hv]
  rfl
theorem ex_putf {i x1 x2 a : Nat} {q : Nat × List en_V} {v : en_V} (hc : code pc = some (.putfield i, nx, x1, x2)) (hg : en_get t a = some (.inr q)) (hx : (Nat.beq q.1 (x2 % 16) && en_fit (x2 / 16 % 4) v && Nat.blt x1 (en_len q.2)) = true) (hp : stop nx = false) (h : ∀ t' : en_H, (∀ k, en_get t' k = if k = a then some (.inr (q.1, en_upd q.2 x1 v)) else en_get t k) → en_ex oc f code stop (nx, ls, st, t', n, sl) P) : en_ex oc f code stop (pc, ls, v :: .inr (.inr (.inl (some a))) :: st, t, n, sl) P := by
  refine ex_go (S := (nx, ls, st, en_set t a (.inr (q.1, en_upd q.2 x1 v)), n, sl)) hc (fun k => ?_) hp (h _ (en_get_set hg))
  show (match en_get t a with
    | some (.inr q) => bif Nat.beq q.1 (x2 % 16) && en_fit (x2 / 16 % 4) v && Nat.blt x1 (en_len q.2) then k nx ls st (en_set t a (.inr (q.1, en_upd q.2 x1 v))) n sl else none
    | _ => none) = _
  rw [hg]
  dsimp only
  rw [hx]
  rfl
theorem ex_aget {ins : Instr} {x1 x2 a i : Nat} {q : Nat × List en_V} {v : en_V} {cb : Nat → Bool} (hc : code pc = some (ins, nx, x1, x2)) (hi : ∀ k : en_K, en_step en_df oc f pc (ins, nx, x1, x2) ls (.inl i :: .inr (.inr (.inl (some a))) :: st) t n sl k = en_aget oc cb nx ls (.inl i :: .inr (.inr (.inl (some a))) :: st) t n sl k) (hg : en_get t a = some (.inl q)) (hx : (cb q.1 && Nat.blt i 2147483648) = true) (hv : en_nth q.2 i = some v) (hp : stop nx = false) (h : en_ex oc f code stop (nx, ls, v :: st, t, n, sl) P) : en_ex oc f code stop (pc, ls, .inl i :: .inr (.inr (.inl (some a))) :: st, t, n, sl) P := by
  refine ex_go (S := (nx, ls, v :: st, t, n, sl)) hc (fun k => ?_) hp h
  rw [hi]
  show (match en_get t a with
    | some (.inl q) => bif cb q.1 && Nat.blt i 2147483648 then (match en_nth q.2 i with | some v => k nx ls (v :: st) t n sl | none => none) else none
    | _ => none) = _
  rw [hg]
  dsimp only
  rw [hx, hv]
  rfl
theorem ex_aput {ins : Instr} {x1 x2 a i d : Nat} {q : Nat × List en_V} {v : en_V} (hc : code pc = some (ins, nx, x1, x2)) (hi : ∀ k : en_K, en_step en_df oc f pc (ins, nx, x1, x2) ls (v :: .inl i :: .inr (.inr (.inl (some a))) :: st) t n sl k = en_aput d nx ls (v :: .inl i :: .inr (.inr (.inl (some a))) :: st) t n sl k) (hg : en_get t a = some (.inl q)) (hx : (en_afit t d q.1 v && (Nat.blt i 2147483648 && Nat.blt i (en_len q.2))) = true) (hp : stop nx = false) (h : ∀ t' : en_H, (∀ k, en_get t' k = if k = a then some (.inl (q.1, en_upd q.2 i v)) else en_get t k) → en_ex oc f code stop (nx, ls, st, t', n, sl) P) : en_ex oc f code stop (pc, ls, v :: .inl i :: .inr (.inr (.inl (some a))) :: st, t, n, sl) P := by
  refine ex_go (S := (nx, ls, st, en_set t a (.inl (q.1, en_upd q.2 i v)), n, sl)) hc (fun k => ?_) hp (h _ (en_get_set hg))
  rw [hi]
  show (match en_get t a with
    | some (.inl q) => bif en_afit t d q.1 v && (Nat.blt i 2147483648 && Nat.blt i (en_len q.2)) then k nx ls st (en_set t a (.inl (q.1, en_upd q.2 i v))) n sl else none
    | _ => none) = _
  rw [hg]
  dsimp only
  rw [hx]
  rfl
theorem ex_inv {ins : Instr} {x1 x2 na : Nat} {ok : List en_V → Bool} {as rest : List en_V} {r : en_R} (hc : code pc = some (ins, nx, x1, x2)) (hi : ∀ k : en_K, en_step en_df oc f pc (ins, nx, x1, x2) ls st t n sl k = en_inv ok f x1 na nx ls st t n sl k) (htk : en_take na st [] = some (as, rest)) (hok : (ok as && Nat.ble (en_sum rest) 8) = true) (hr : f x1 as t n = some r) (hn : n ≤ r.2.2.1) (hp : stop nx = false) (h : en_ex oc f code stop (nx, ls, r.1.toList ++ rest, r.2.1, r.2.2.1, sl + r.2.2.2) P) : en_ex oc f code stop (pc, ls, st, t, n, sl) P := by
  refine ex_go (S := (nx, ls, r.1.toList ++ rest, r.2.1, r.2.2.1, sl + r.2.2.2)) hc (fun k => ?_) hp h
  rw [hi]
  unfold en_inv
  rw [htk]
  dsimp only
  rw [hok, hr]
  dsimp only [cond]
  rw [Nat.ble_eq_true_of_le hn]
/-- a virtual call of a method of the receiver's own class -/
theorem ex_virt {i x1 x2 a : Nat} {as rest : List en_V} {q : Nat × List en_V} {r : en_R} (hc : code pc = some (.invokevirtual i, nx, x1, x2)) (htk : en_take (x2 % 16) st [] = some (.inr (.inr (.inl (some a))) :: as, rest)) (hg : en_get t a = some (.inr q)) (hq : Nat.beq q.1 (x2 / 16) = true) (hsum : Nat.ble (en_sum rest) 8 = true) (hr : f x1 (.inr (.inr (.inl (some a))) :: as) t n = some r) (hn : n ≤ r.2.2.1) (hp : stop nx = false) (h : en_ex oc f code stop (nx, ls, r.1.toList ++ rest, r.2.1, r.2.2.1, sl + r.2.2.2) P) : en_ex oc f code stop (pc, ls, st, t, n, sl) P := by
  refine ex_inv (ok := en_recv t (x2 / 16)) hc (fun _ => rfl) htk ?_ hr hn hp h
  rw [hsum, Bool.and_true]
  show (match en_get t a with
    | some (.inr q) => Nat.beq q.1 (x2 / 16)
    | _ => false) = true
  rw [hg]
  exact hq
theorem ex_stat {i x1 x2 : Nat} {as rest : List en_V} {r : en_R} (hc : code pc = some (.invokestatic i, nx, x1, x2)) (h1 : Nat.beq x1 9991 = false) (h2 : Nat.beq x1 9992 = false) (htk : en_take x2 st [] = some (as, rest)) (hsum : Nat.ble (en_sum rest) 8 = true) (hr : f x1 as t n = some r) (hn : n ≤ r.2.2.1) (hp : stop nx = false) (h : en_ex oc f code stop (nx, ls, r.1.toList ++ rest, r.2.1, r.2.2.1, sl + r.2.2.2) P) : en_ex oc f code stop (pc, ls, st, t, n, sl) P := by
  refine ex_inv (ok := fun _ => true) hc (fun k => ?_) htk (by rw [hsum]; rfl) hr hn hp h
  show (bif Nat.beq x1 9991 then _ else bif Nat.beq x1 9992 then _ else _) = _
  rw [h1, h2]
  rfl
theorem ex_cmp2 {c : ClassFile.Cond} {j : Int} {x1 x2 : Nat} {a b : en_V} {r : Bool} (hc : code pc = some (.if_icmp c j, nx, x1, x2)) (hr : en_rel c a b = some r) (hp : stop (bif r then x1 else nx) = false) (h : en_ex oc f code stop (bif r then x1 else nx, ls, st, t, n, sl) P) : en_ex oc f code stop (pc, ls, b :: a :: st, t, n, sl) P := by
  refine ex_go (S := (bif r then x1 else nx, ls, st, t, n, sl)) hc (fun k => ?_) hp h
  show en_jump (en_rel c a b) x1 nx ls st t n sl k = _
  rw [hr]
  cases r <;> rfl
theorem ex_cmp1 {c : ClassFile.Cond} {j : Int} {x1 x2 : Nat} {a : en_V} {r : Bool} (hc : code pc = some (.ifCond c j, nx, x1, x2)) (hr : en_rel c a (.inl 0) = some r) (hp : stop (bif r then x1 else nx) = false) (h : en_ex oc f code stop (bif r then x1 else nx, ls, st, t, n, sl) P) : en_ex oc f code stop (pc, ls, a :: st, t, n, sl) P := by
  refine ex_go (S := (bif r then x1 else nx, ls, st, t, n, sl)) hc (fun k => ?_) hp h
  show en_jump (en_rel c a (.inl 0)) x1 nx ls st t n sl k = _
  rw [hr]
  cases r <;> rfl
theorem ex_iadd {x1 x2 a b : Nat} (hc : code pc = some (.iadd, nx, x1, x2)) (hab : a + b < 4294967296) (hp : stop nx = false) (h : en_ex oc f code stop (nx, ls, .inl (a + b) :: st, t, n, sl) P) : en_ex oc f code stop (pc, ls, .inl b :: .inl a :: st, t, n, sl) P := by
  refine ex_go (S := (nx, ls, .inl (a + b) :: st, t, n, sl)) hc (fun k => ?_) hp h
  show k nx ls (.inl (en_wrap (a + b)) :: st) t n sl = _
  unfold en_wrap
  rw [Nat.mod_eq_of_lt hab]
/-! ### numbers that are not below 0 -/
theorem en_bnd_nn {x : Nat} (hx : x < 2147483648) : en_bnd (.inl x) = some (x + 2147483648, x + 2147483648) := by
  show some (_, _) = _
  rw [Nat.mod_eq_of_lt (by omega)]
theorem en_lt_nn {x y : Nat} (hx : x < 2147483648) (hy : y < 2147483648) : en_lt (.inl x) (.inl y) = some (decide (x < y)) := by
  unfold en_lt
  rw [en_bnd_nn hx, en_bnd_nn hy]
  dsimp only
  by_cases h : x < y
  · rw [decide_eq_true h, show Nat.blt (x + 2147483648) (y + 2147483648) = true from Nat.ble_eq_true_of_le (by omega)]
    rfl
  · rw [decide_eq_false h, show Nat.blt (x + 2147483648) (y + 2147483648) = false from Bool.eq_false_iff.mpr (fun q => h (by have := Nat.le_of_ble_eq_true q; omega)), show Nat.ble (y + 2147483648) (x + 2147483648) = true from Nat.ble_eq_true_of_le (by omega)]
    rfl
theorem en_eq_nn {x y : Nat} (hx : x < 2147483648) (hy : y < 2147483648) : en_eq (.inl x) (.inl y) = some (decide (x = y)) := by
  unfold en_eq
  rw [en_bnd_nn hx, en_bnd_nn hy]
  dsimp only
  rw [en_beq, en_beq, en_beq]
  by_cases h : x = y
  · subst h
    simp
  · have h1 : (decide (x + 2147483648 = x + 2147483648) && (decide (x + 2147483648 = y + 2147483648) && decide (y + 2147483648 = y + 2147483648))) = false := by
      rw [decide_eq_false (p := x + 2147483648 = y + 2147483648) (by omega)]
      simp
    rw [h1, decide_eq_false h]
    have h2 : (Nat.blt (x + 2147483648) (y + 2147483648) || Nat.blt (y + 2147483648) (x + 2147483648)) = true := by
      rcases Nat.lt_or_ge x y with g | g
      · rw [show Nat.blt (x + 2147483648) (y + 2147483648) = true from Nat.ble_eq_true_of_le (by omega)]
        rfl
      · rw [show Nat.blt (y + 2147483648) (x + 2147483648) = true from Nat.ble_eq_true_of_le (by omega)]
        simp
    rw [h2]
    rfl
/-- en_rel on numbers that are not below 0 -/
def en_relp (c : ClassFile.Cond) (x y : Nat) : Bool := match c with
  | .eq => decide (x = y)
  | .ne => !decide (x = y)
  | .lt => decide (x < y)
  | .ge => !decide (x < y)
  | .gt => decide (y < x)
  | .le => !decide (y < x)
theorem en_rel_e1 (a b : en_V) : en_rel .eq a b = en_eq a b := rfl
theorem en_rel_e2 (a b : en_V) : en_rel .ne a b = en_not (en_eq a b) := rfl
theorem en_rel_e3 (a b : en_V) : en_rel .lt a b = en_lt a b := rfl
theorem en_rel_e4 (a b : en_V) : en_rel .ge a b = en_not (en_lt a b) := rfl
theorem en_rel_e5 (a b : en_V) : en_rel .gt a b = en_lt b a := rfl
theorem en_rel_e6 (a b : en_V) : en_rel .le a b = en_not (en_lt b a) := rfl
theorem en_not_s (b : Bool) : en_not (some b) = some (!b) := rfl
theorem en_rel_nn (c : ClassFile.Cond) {x y : Nat} (hx : x < 2147483648) (hy : y < 2147483648) : en_rel c (.inl x) (.inl y) = some (en_relp c x y) := by
  have h1 := en_eq_nn hx hy
  have h2 := en_lt_nn hx hy
  have h3 := en_lt_nn hy hx
  generalize (Sum.inl x : en_V) = a at h1 h2 h3 ⊢
  generalize (Sum.inl y : en_V) = b at h1 h2 h3 ⊢
  cases c
  · rw [en_rel_e1, h1]; rfl
  · rw [en_rel_e2, h1, en_not_s]; rfl
  · rw [en_rel_e3, h2]; rfl
  · rw [en_rel_e4, h2, en_not_s]; rfl
  · rw [en_rel_e5, h3]; rfl
  · rw [en_rel_e6, h3, en_not_s]; rfl
theorem en_rel_t {c : ClassFile.Cond} {x y : Nat} (hx : x < 2147483648) (hy : y < 2147483648) (h : en_relp c x y = true) : en_rel c (.inl x) (.inl y) = some true := by rw [en_rel_nn c hx hy, h]
theorem en_rel_f {c : ClassFile.Cond} {x y : Nat} (hx : x < 2147483648) (hy : y < 2147483648) (h : en_relp c x y = false) : en_rel c (.inl x) (.inl y) = some false := by rw [en_rel_nn c hx hy, h]
/-! ### calls of methods that were walked by hand -/
def en_hf (l : Launch) (ba : Nat) (ex : Nat → Nat) (cA : Nat → ClassId) (D : va_G) (d : Nat) (f : en_F) : Prop := ∀ (mi : Nat) (as : List en_V) (t : en_H) (n : Nat) (r : en_R) (q9 : en_M), f mi as t n = some r → en_nth en_inf mi = some q9 → en_Met l ba ex cA D d q9 as t n r
abbrev en_post : Type := List en_V → en_H → Nat → en_R → Prop
def en_did (fr : en_F) (mi : Nat) (Po : en_post) (as : List en_V) (t : en_H) (n : Nat) (r : en_R) : Prop := (Nat.ble (en_sum as) (en_ml mi) = true ∧ ∃ fuel, en_run en_df none fr (en_code mi) (fun _ => false) fuel 0 (en_args as 0) [] t n 0 = some (.inl r)) ∧ Po as t n r
noncomputable def en_fs (fb fr : en_F) (mi0 : Nat) (Po : en_post) : en_F := fun mi as t n => bif Nat.beq mi mi0 then (@dite (Option en_R) (∃ r, en_did fr mi0 Po as t n r) (Classical.propDecidable _) (fun h => some h.choose) (fun _ => none)) else fb mi as t n
theorem en_fs_hf {l : Launch} {ba : Nat} {ex : Nat → Nat} {cA : Nat → ClassId} {D : va_G} {d : Nat} {fb fr : en_F} {mi0 : Nat} {Po : en_post} (hb : en_hf l ba ex cA D (d + 1) fb) (hr : en_hf l ba ex cA D d fr) : en_hf l ba ex cA D (d + 1) (en_fs fb fr mi0 Po) := by
  intro mi as t n r q9 h hq
  unfold en_fs at h
  cases hm : Nat.beq mi mi0 with
  | false =>
    rw [hm] at h
    exact hb mi as t n r q9 h hq
  | true =>
    rw [hm] at h
    have e := Nat.eq_of_beq_eq_true hm
    subst e
    dsimp only [cond] at h
    by_cases hx : ∃ r, en_did fr mi Po as t n r
    · rw [dif_pos hx] at h
      have hd := hx.choose_spec
      rw [Option.some.inj h] at hd
      obtain ⟨⟨h1, fuel, h2⟩, -⟩ := hd
      exact en_met (en_mi hq) (en_code_ok mi q9 hq) hr fuel (by rw [← en_ml_ok mi q9 hq]; exact Nat.le_of_ble_eq_true h1) h2
    · rw [dif_neg hx] at h
      cases h
theorem en_fs_at {fb fr : en_F} {mi0 : Nat} {Po : en_post} {as : List en_V} {t : en_H} {n : Nat} (h1 : Nat.ble (en_sum as) (en_ml mi0) = true) (h : en_ex none fr (en_code mi0) (fun _ => false) (0, en_args as 0, [], t, n, 0) (fun o => ∃ r, o = .inl r ∧ Po as t n r)) : ∃ r, en_fs fb fr mi0 Po mi0 as t n = some r ∧ Po as t n r := by
  obtain ⟨fuel, o, h2, r, rfl, h3⟩ := h
  have hx : ∃ r, en_did fr mi0 Po as t n r := ⟨r, ⟨h1, fuel, h2⟩, h3⟩
  refine ⟨hx.choose, ?_, hx.choose_spec.2⟩
  unfold en_fs
  rw [show Nat.beq mi0 mi0 = true from Nat.beq_refl mi0]
  dsimp only [cond]
  rw [dif_pos hx]
theorem en_fs_ne {fb fr : en_F} {mi0 mi : Nat} {Po : en_post} {as : List en_V} {t : en_H} {n : Nat} (h : Nat.beq mi mi0 = false) : en_fs fb fr mi0 Po mi as t n = fb mi as t n := by
  unfold en_fs
  rw [h]
  rfl
theorem en_call_hf (l : Launch) (ba : Nat) (ex : Nat → Nat) (cA : Nat → ClassId) (D : va_G) (d : Nat) : en_hf l ba ex cA D d (en_call en_df en_code en_ml d) := en_call_sound en_ml_ok en_code_ok l ba ex cA D d
end ENO
section ENO2
variable {p : Program} {l : Launch} {e : Env} {s : State} {m : MethodId} {below : List Frame} {meth : Method} {c : Code} {b L : Nat} {xs : Nat → Int32} {ex : Nat → Nat} {cA : Nat → ClassId} {D : va_G}
/-- a symbolic run of the law that comes to its end is a walk of the law -/
theorem en_law_ex (C0 : en_LC p s m meth c b ex cA D L xs) {f : en_F} (hf : en_hf l s.heap.size ex cA D 20 f) {Lv : List en_V} (hlen : Lv.length = L) (hv : ∀ i v, Lv[i]? = some v → en_rv s.heap.size ex v (.int (xs i))) {S : en_S} (h : en_ex (some Lv) f en_lawc (fun pc => Nat.beq pc 1357) S (fun o => en_end (some o) = true)) : en_LT p l e s m below meth c b ex cA D S := by
  obtain ⟨fuel, o, h1, h2⟩ := h
  cases o with
  | inl r => cases h2
  | inr S' =>
    exact en_sound C0.1 (fun L' hL => by
      cases hL
      exact ⟨xs, by rw [hlen, C0.2.1]; exact C0.2.2.1, by rw [C0.2.1]; exact C0.2.2.2, by rw [C0.2.1]; exact Nat.not_le.mpr C0.2.2.2, hv⟩) hf en_lawc_ok fuel _ _ _ _ _ _ (.inr S') (Nat.zero_le _) h1 (fun r hr => by cases hr) (fun S9 hS => by cases hS; exact en_law_fin C0 h2)
end ENO2
