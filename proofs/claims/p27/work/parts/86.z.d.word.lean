section SPE
/-! ### the words of the class -/
noncomputable def wd_key (w : Nat) : Nat := (en_wk w).1
noncomputable abbrev gx_w (w : Nat) : en_V := .inr (.inr (.inr (.inl (w + 3))))
variable {oc : Option (List en_V)} {f : en_F} {code : Nat → Option en_I} {stop : Nat → Bool} {P : en_O → Prop}
variable {pc nx : Nat} {ls : en_L} {st : List en_V} {t : en_H} {n sl : Nat}
theorem gx_allen {x1 x2 : Nat} (hc : code pc = some (.arraylength, nx, x1, x2)) (hp : stop nx = false) (h : en_ex oc f code stop (nx, ls, .inl 42 :: st, t, n, sl) P) : en_ex oc f code stop (pc, ls, .inr (.inr (.inr (.inl 45))) :: st, t, n, sl) P :=
  ex_go (S := (nx, ls, .inl 42 :: st, t, n, sl)) hc (fun _ => rfl) hp h
theorem gx_allat {x1 x2 i : Nat} (hc : code pc = some (.aaload, nx, x1, x2)) (hi : i < 42) (hp : stop nx = false) (h : en_ex oc f code stop (nx, ls, gx_w i :: st, t, n, sl) P) : en_ex oc f code stop (pc, ls, .inl i :: .inr (.inr (.inr (.inl 45))) :: st, t, n, sl) P := by
  refine ex_go (S := (nx, ls, gx_w i :: st, t, n, sl)) hc (fun k => ?_) hp h
  show (bif Nat.blt i 2147483648 then (match (bif true && Nat.blt i 42 then some (Sum.inr (Sum.inr (Sum.inr (Sum.inl (2 + i + 1)))) : en_V) else none) with | some v => k nx ls (v :: st) t n sl | none => none) else none) = _
  rw [gx_blt (show i < 2147483648 by omega), gx_blt hi, show 2 + i + 1 = i + 3 by omega]
  rfl
theorem gx_wkey {x2 i j : Nat} (hc : code pc = some (.getfield j, nx, 0, x2)) (hx : Nat.beq (x2 % 16) 11 = true) (hi : i < 42) (hp : stop nx = false) (h : en_ex oc f code stop (nx, ls, .inr (.inl (wd_key i)) :: st, t, n, sl) P) : en_ex oc f code stop (pc, ls, gx_w i :: st, t, n, sl) P := by
  refine ex_go (S := (nx, ls, .inr (.inl (wd_key i)) :: st, t, n, sl)) hc (fun k => ?_) hp h
  show (bif Nat.beq (x2 % 16) 11 then (match en_wf i 0 with | some v => k nx ls (v :: st) t n sl | none => none) else none) = _
  have hw : en_wf i 0 = some (.inr (.inl (wd_key i))) := by
    unfold en_wf
    rw [en_nth_eq, show en_wks[i]? = some (en_wk i) by unfold en_wk; rw [List.getD_eq_getElem?_getD, List.getElem?_eq_getElem (show i < en_wks.length from hi)]; rfl]
    rfl
  rw [hx, hw]
  rfl
/-- the word of a key, or none -/
noncomputable def ok_P (key : Nat) (v : en_V) : Prop := (v = .inr (.inr (.inl none)) ∧ ∀ w, w < 42 → (lN (wd_key w)).toInt ≠ (lN key).toInt) ∨ ∃ w, w < 42 ∧ v = gx_w w ∧ (lN (wd_key w)).toInt = (lN key).toInt
theorem ok_l {fn : en_F} {n key : Nat} {t : en_H} : ∀ j i, i + j = 42 → (∀ w, w < i → (lN (wd_key w)).toInt ≠ (lN key).toInt) → en_ex none fn (en_code 264) (fun _ => false) (2, [(2, .inl i), (0, .inr (.inl key))], [], t, n, 0) (fun o => ∃ r, o = .inl r ∧ ∃ v, r = (some v, t, n, 0) ∧ ok_P key v) := by
  intro j
  induction j with
  | zero =>
    intro i hi hw
    have hi : i = 42 := by omega
    subst hi
    refine ex_go (S := (3, [(2, .inl 42), (0, .inr (.inl key))], [.inl 42], t, n, 0)) rfl (fun _ => rfl) rfl ?_
    refine ex_go (S := (6, [(2, .inl 42), (0, .inr (.inl key))], [.inr (.inr (.inr (.inl 45))), .inl 42], t, n, 0)) rfl (fun _ => rfl) rfl ?_
    refine gx_allen rfl rfl ?_
    refine ex_go (S := (35, [(2, .inl 42), (0, .inr (.inl key))], [], t, n, 0)) rfl (fun _ => rfl) rfl ?_
    refine ex_go (S := (36, [(2, .inl 42), (0, .inr (.inl key))], [.inr (.inr (.inl none))], t, n, 0)) rfl (fun _ => rfl) rfl ?_
    exact ex_ret (r := (some (.inr (.inr (.inl none))), t, n, 0)) rfl (fun _ => rfl) ⟨_, rfl, _, rfl, Or.inl ⟨rfl, hw⟩⟩
  | succ j ih =>
    intro i hi hw
    refine ex_go (S := (3, [(2, .inl i), (0, .inr (.inl key))], [.inl i], t, n, 0)) rfl (fun _ => rfl) rfl ?_
    refine ex_go (S := (6, [(2, .inl i), (0, .inr (.inl key))], [.inr (.inr (.inr (.inl 45))), .inl i], t, n, 0)) rfl (fun _ => rfl) rfl ?_
    refine gx_allen rfl rfl ?_
    refine gx_2f (c := .ge) rfl (by first | decide | omega) (by first | decide | omega) (show ¬ (42 ≤ i) by omega) rfl ?_
    refine ex_go (S := (13, [(2, .inl i), (0, .inr (.inl key))], [.inr (.inr (.inr (.inl 45)))], t, n, 0)) rfl (fun _ => rfl) rfl ?_
    refine ex_go (S := (14, [(2, .inl i), (0, .inr (.inl key))], [.inl i, .inr (.inr (.inr (.inl 45)))], t, n, 0)) rfl (fun _ => rfl) rfl ?_
    refine gx_allat rfl (by first | decide | omega) rfl ?_
    refine gx_wkey rfl rfl (by first | decide | omega) rfl ?_
    refine ex_go (S := (19, [(2, .inl i), (0, .inr (.inl key))], [.inr (.inl key), .inr (.inl (wd_key i))], t, n, 0)) rfl (fun _ => rfl) rfl ?_
    have on : ∀ z : Nat, (z = 1 ∨ z = 4294967295) → (lN (wd_key i)).toInt ≠ (lN key).toInt → en_ex none fn (en_code 264) (fun _ => false) (20, [(2, .inl i), (0, .inr (.inl key))], [.inl z], t, n, 0) (fun o => ∃ r, o = .inl r ∧ ∃ v, r = (some v, t, n, 0) ∧ ok_P key v) := fun z hz hne => by
      have g : en_ex none fn (en_code 264) (fun _ => false) (29, [(2, .inl i), (0, .inr (.inl key))], [], t, n, 0) (fun o => ∃ r, o = .inl r ∧ ∃ v, r = (some v, t, n, 0) ∧ ok_P key v) := by
        refine gx_iinc (i := 2) (k := 1) rfl (fun _ => rfl) (by first | decide | omega) rfl ?_
        refine ex_go (S := (2, [(2, .inl (i + 1)), (0, .inr (.inl key))], [], t, n, 0)) rfl (fun _ => rfl) rfl ?_
        exact ih (i + 1) (by first | decide | omega) (fun w hw9 => by
          by_cases e : w = i
          · rw [e]; exact hne
          · exact hw w (by first | decide | omega))
      rcases hz with rfl | rfl
      · exact ex_go (S := (29, [(2, .inl i), (0, .inr (.inl key))], [], t, n, 0)) rfl (fun _ => rfl) rfl g
      · exact ex_go (S := (29, [(2, .inl i), (0, .inr (.inl key))], [], t, n, 0)) rfl (fun _ => rfl) rfl g
    refine gx_lcmp rfl rfl (fun hl => ?_) (fun hl => on 1 (Or.inl rfl) (by first | decide | omega)) (fun hl => on 4294967295 (Or.inr rfl) (by first | decide | omega))
    refine ex_go (S := (23, [(2, .inl i), (0, .inr (.inl key))], [], t, n, 0)) rfl (fun _ => rfl) rfl ?_
    refine ex_go (S := (26, [(2, .inl i), (0, .inr (.inl key))], [.inr (.inr (.inr (.inl 45)))], t, n, 0)) rfl (fun _ => rfl) rfl ?_
    refine ex_go (S := (27, [(2, .inl i), (0, .inr (.inl key))], [.inl i, .inr (.inr (.inr (.inl 45)))], t, n, 0)) rfl (fun _ => rfl) rfl ?_
    refine gx_allat rfl (by first | decide | omega) rfl ?_
    exact ex_ret (r := (some (gx_w i), t, n, 0)) rfl (fun _ => rfl) ⟨_, rfl, _, rfl, Or.inr ⟨i, by omega, rfl, hl⟩⟩
theorem pk_ofKey (d n : Nat) {t0 : en_H} {key : Nat} : ∃ r, en_u (d + 1) 264 [.inr (.inl key)] t0 n = some r ∧ ∃ v, r = (some v, t0, n, 0) ∧ ok_P key v := by
  refine en_u_ex rfl ?_
  show en_ex _ _ _ _ (0, [(0, .inr (.inl key))], [], t0, n, 0) _
  refine ex_go (S := (1, [(0, .inr (.inl key))], [.inl 0], t0, n, 0)) rfl (fun _ => rfl) rfl ?_
  refine ex_go (S := (2, [(2, .inl 0), (0, .inr (.inl key))], [], t0, n, 0)) rfl (fun _ => rfl) rfl ?_
  exact ok_l 42 0 (by first | decide | omega) (fun w hw => by omega)
end SPE
