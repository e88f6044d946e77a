section ENN
variable {p : Program} {l : Launch} {e : Env} {s : State} {m : MethodId} {below : List Frame} {meth : Method} {c : Code} {b L : Nat} {xs : Nat → Int32} {ex : Nat → Nat} {cA : Nat → ClassId} {D : va_G}
def en_LT (p : Program) (l : Launch) (e : Env) (s : State) (m : MethodId) (below : List Frame) (meth : Method) (c : Code) (b : Nat) (ex : Nat → Nat) (cA : Nat → ClassId) (D : va_G) (S : en_S) : Prop := en_T p l e room_1 s m #[Value.ref b] below meth c (lw_Z below #[Value.ref b] s) s.heap.size ex cA D 7 0 600002 7302232 S
/-- all that the law's walk needs -/
def en_LC (p : Program) (s : State) (m : MethodId) (meth : Method) (c : Code) (b : Nat) (ex : Nat → Nat) (cA : Nat → ClassId) (D : va_G) (L : Nat) (xs : Nat → Int32) : Prop := en_Cx p room_1 s m #[Value.ref b] meth c s.heap.size ex cA D 7 0 600002 7302232 en_qlaw 20 ∧ ex 1 = b ∧ va_X b L xs s s.heap ∧ b < s.heap.size
set_option maxRecDepth 100000 in
theorem en_d1357 : decode code 1357 = .ok (.ireturn, 1) := by decide +kernel
theorem en_law_fin (C0 : en_LC p s m meth c b ex cA D L xs) {S : en_S} (h : en_end (some (.inr S)) = true) : en_LT p l e s m below meth c b ex cA D S := by
  unfold en_end at h
  simp only [Bool.and_eq_true] at h
  obtain ⟨h1, h2, h3, h4⟩ := h
  obtain ⟨pc, ls, st, t, n, sl⟩ := S
  replace h1 : pc = 1357 := Nat.eq_of_beq_eq_true h1
  replace h2 : st = [.inl 1] := en_leq_ok (fun _ _ => en_veq_ok) h2
  replace h3 : n ≤ 600002 := Nat.le_of_ble_eq_true h3
  replace h4 : sl ≤ 7302232 := Nat.le_of_ble_eq_true h4
  subst h1
  subst h2
  obtain ⟨⟨hx, hb, -, -, -, -, -, hlk, hret, -⟩, -⟩ := C0
  refine ⟨h3, h4, fun H locs la vs hl hv hP hS => ?_⟩
  obtain ⟨w, ws, rfl, g1, g2⟩ := en_rvs_cons hv
  have g2 := en_rvs_nil g2
  subst g2
  have g1 : w = .int (nI 1) := g1
  subst g1
  refine va_forget hS.2.2 (W.widen (k := 600002) (n := 7302232) (by show n - 0 ≤ _; omega) h4 ?_)
  exact lw_ret hx hb hret hlk en_d1357
/-- a run of the law in the engine that comes to its end is a walk of the law -/
theorem en_law_go (C0 : en_LC p s m meth c b ex cA D L xs) {Lv : List en_V} (hlen : Lv.length = L) (hv : ∀ i v, Lv[i]? = some v → en_rv s.heap.size ex v (.int (xs i))) {fuel pc : Nat} {ls : en_L} {st : List en_V} {t : en_H} {n sl : Nat} (h : en_end (en_run en_df (some Lv) en_f0 en_lawc (fun pc => Nat.beq pc 1357) fuel pc ls st t n sl) = true) : en_LT p l e s m below meth c b ex cA D (pc, ls, st, t, n, sl) := by
  cases ho : en_run en_df (some Lv) en_f0 en_lawc (fun pc => Nat.beq pc 1357) fuel pc ls st t n sl with
  | none => rw [ho] at h; cases h
  | some o =>
    rw [ho] at h
    cases o with
    | inl r => cases h
    | inr S =>
      exact en_sound C0.1 (fun L' hL => by
        cases hL
        exact ⟨xs, by rw [hlen, C0.2.1]; exact C0.2.2.1, by rw [C0.2.1]; exact C0.2.2.2, by rw [C0.2.1]; exact Nat.not_le.mpr C0.2.2.2, hv⟩) (en_call_sound en_ml_ok en_code_ok l _ ex cA D 20) en_lawc_ok fuel pc ls st t n sl (.inr S) (Nat.zero_le _) ho (fun r hr => by cases hr) (fun S' hS => by cases hS; exact en_law_fin C0 h)
def en_inl (xs : Nat → Int32) : Nat → List (Nat × Nat) → Prop
  | _, [] => True
  | i, (lo, hi) :: r => ((lo : Int) ≤ (xs i).toInt + 2147483648 ∧ (xs i).toInt + 2147483648 ≤ (hi : Int)) ∧ en_inl xs (i + 1) r
theorem en_i32b (x : Int32) : 0 ≤ x.toInt + 2147483648 ∧ x.toInt + 2147483648 ≤ 4294967295 := by
  have h1 := Int32.le_toInt x
  have h2 := Int32.toInt_lt x
  simp at h1 h2
  omega
theorem en_bx_ok {ba : Nat} {ex : Nat → Nat} {lo hi : Nat} {x : Int32} (h1 : (lo : Int) ≤ x.toInt + 2147483648) (h2 : x.toInt + 2147483648 ≤ (hi : Int)) : en_rv ba ex (en_bx (lo, hi)) (.int x) := by
  unfold en_bx
  dsimp only
  cases hq : Nat.beq lo hi with
  | true =>
    have e1 : lo = hi := Nat.eq_of_beq_eq_true hq
    subst e1
    show Value.int x = Value.int (nI _)
    have e : x = nI ((lo + 2147483648) % 4294967296) := by
      rw [← Int32.toInt_inj]
      have e2 := en_nI_toInt ((lo + 2147483648) % 4294967296)
      have e3 := en_i32b x
      omega
    rw [← e]
  | false => exact ⟨x, rfl, h1, h2⟩
theorem en_inl_at {ba : Nat} {ex : Nat → Nat} {xs : Nat → Int32} : ∀ {B : List (Nat × Nat)} {i : Nat}, en_inl xs i B → ∀ j v, (B.map en_bx)[j]? = some v → en_rv ba ex v (.int (xs (i + j)))
  | [], _, _, j, v, h => by simp at h
  | (lo, hi) :: r, i, hin, j, v, h => by
    cases j with
    | zero =>
      simp at h
      subst h
      exact en_bx_ok hin.1.1 hin.1.2
    | succ j =>
      rw [List.map_cons, List.getElem?_cons_succ] at h
      have := en_inl_at (ba := ba) (ex := ex) hin.2 j v h
      rw [show i + 1 + j = i + (j + 1) by omega] at this
      exact this
theorem en_six {xs : Nat → Int32} {a1 b1 a2 b2 a3 b3 a4 b4 a5 b5 a6 b6 : Nat} (h1 : (a1 : Int) ≤ (xs 1).toInt + 2147483648 ∧ (xs 1).toInt + 2147483648 ≤ (b1 : Int)) (h2 : (a2 : Int) ≤ (xs 2).toInt + 2147483648 ∧ (xs 2).toInt + 2147483648 ≤ (b2 : Int)) (h3 : (a3 : Int) ≤ (xs 3).toInt + 2147483648 ∧ (xs 3).toInt + 2147483648 ≤ (b3 : Int)) (h4 : (a4 : Int) ≤ (xs 4).toInt + 2147483648 ∧ (xs 4).toInt + 2147483648 ≤ (b4 : Int)) (h5 : (a5 : Int) ≤ (xs 5).toInt + 2147483648 ∧ (xs 5).toInt + 2147483648 ≤ (b5 : Int)) (h6 : (a6 : Int) ≤ (xs 6).toInt + 2147483648 ∧ (xs 6).toInt + 2147483648 ≤ (b6 : Int)) : en_inl xs 1 [(a1, b1), (a2, b2), (a3, b3), (a4, b4), (a5, b5), (a6, b6)] := ⟨h1, h2, h3, h4, h5, h6, trivial⟩
theorem en_law_box (C0 : en_LC p s m meth c b ex cA D 7 xs) {k : Nat} {B : List (Nat × Nat)} (hB : B.length = 6) (hin : en_inl xs 1 B) (h : en_go k B = true) : en_LT p l e s m below meth c b ex cA D (40, en_ls0, [.inl k], en_t0, 413, 31071) := by
  refine en_law_go C0 (by rw [List.length_cons, List.length_map, hB]) (fun i v hv => ?_) h
  cases i with
  | zero =>
    simp at hv
    subst hv
    exact en_full _
  | succ i =>
    rw [List.getElem?_cons_succ] at hv
    have := en_inl_at (ba := s.heap.size) (ex := ex) hin i v hv
    rw [show 1 + i = i + 1 by omega] at this
    exact this

theorem en_law_1 (C0 : en_LC p s m meth c b ex cA D 7 xs) : en_LT p l e s m below meth c b ex cA D (40, en_ls0, [.inl 1], en_t0, 413, 31071) := by
  have b1 := en_i32b (xs 1)
  have b2 := en_i32b (xs 2)
  have b3 := en_i32b (xs 3)
  have b4 := en_i32b (xs 4)
  have b5 := en_i32b (xs 5)
  have b6 := en_i32b (xs 6)
  exact en_law_box (B := [(0, 4294967295), (0, 4294967295), (0, 4294967295), (0, 4294967295), (0, 4294967295), (0, 4294967295)]) C0 rfl (en_six ⟨by omega, by omega⟩ ⟨by omega, by omega⟩ ⟨by omega, by omega⟩ ⟨by omega, by omega⟩ ⟨by omega, by omega⟩ ⟨by omega, by omega⟩) (List.all_eq_true.mp en_go_1_0 _ (List.mem_of_getElem? (i := 0) rfl))
theorem en_law_2 (C0 : en_LC p s m meth c b ex cA D 7 xs) : en_LT p l e s m below meth c b ex cA D (40, en_ls0, [.inl 2], en_t0, 413, 31071) := by
  have b1 := en_i32b (xs 1)
  have b2 := en_i32b (xs 2)
  have b3 := en_i32b (xs 3)
  have b4 := en_i32b (xs 4)
  have b5 := en_i32b (xs 5)
  have b6 := en_i32b (xs 6)
  exact en_law_box (B := [(0, 4294967295), (0, 4294967295), (0, 4294967295), (0, 4294967295), (0, 4294967295), (0, 4294967295)]) C0 rfl (en_six ⟨by omega, by omega⟩ ⟨by omega, by omega⟩ ⟨by omega, by omega⟩ ⟨by omega, by omega⟩ ⟨by omega, by omega⟩ ⟨by omega, by omega⟩) (List.all_eq_true.mp en_go_2_0 _ (List.mem_of_getElem? (i := 0) rfl))
theorem en_law_3 (C0 : en_LC p s m meth c b ex cA D 7 xs) : en_LT p l e s m below meth c b ex cA D (40, en_ls0, [.inl 3], en_t0, 413, 31071) := by
  have b1 := en_i32b (xs 1)
  have b2 := en_i32b (xs 2)
  have b3 := en_i32b (xs 3)
  have b4 := en_i32b (xs 4)
  have b5 := en_i32b (xs 5)
  have b6 := en_i32b (xs 6)
  by_cases h1 : (xs 1).toInt + 2147483648 ≤ 2147483647
  · exact en_law_box (B := [(0, 2147483647), (0, 4294967295), (0, 4294967295), (0, 4294967295), (0, 4294967295), (0, 4294967295)]) C0 rfl (en_six ⟨by omega, by omega⟩ ⟨by omega, by omega⟩ ⟨by omega, by omega⟩ ⟨by omega, by omega⟩ ⟨by omega, by omega⟩ ⟨by omega, by omega⟩) (List.all_eq_true.mp en_go_3_0 _ (List.mem_of_getElem? (i := 0) rfl))
  by_cases h2 : (xs 1).toInt + 2147483648 ≤ 2147483648
  · by_cases h3 : (xs 2).toInt + 2147483648 ≤ 2147483647
    · exact en_law_box (B := [(2147483648, 2147483648), (0, 2147483647), (0, 4294967295), (0, 4294967295), (0, 4294967295), (0, 4294967295)]) C0 rfl (en_six ⟨by omega, by omega⟩ ⟨by omega, by omega⟩ ⟨by omega, by omega⟩ ⟨by omega, by omega⟩ ⟨by omega, by omega⟩ ⟨by omega, by omega⟩) (List.all_eq_true.mp en_go_3_0 _ (List.mem_of_getElem? (i := 2) rfl))
    by_cases h4 : (xs 2).toInt + 2147483648 ≤ 2147483648
    · exact en_law_box (B := [(2147483648, 2147483648), (2147483648, 2147483648), (0, 4294967295), (0, 4294967295), (0, 4294967295), (0, 4294967295)]) C0 rfl (en_six ⟨by omega, by omega⟩ ⟨by omega, by omega⟩ ⟨by omega, by omega⟩ ⟨by omega, by omega⟩ ⟨by omega, by omega⟩ ⟨by omega, by omega⟩) (List.all_eq_true.mp en_go_3_0 _ (List.mem_of_getElem? (i := 4) rfl))
    by_cases h5 : (xs 2).toInt + 2147483648 ≤ 2147483649
    · exact en_law_box (B := [(2147483648, 2147483648), (2147483649, 2147483649), (0, 4294967295), (0, 4294967295), (0, 4294967295), (0, 4294967295)]) C0 rfl (en_six ⟨by omega, by omega⟩ ⟨by omega, by omega⟩ ⟨by omega, by omega⟩ ⟨by omega, by omega⟩ ⟨by omega, by omega⟩ ⟨by omega, by omega⟩) (List.all_eq_true.mp en_go_3_0 _ (List.mem_of_getElem? (i := 5) rfl))
    exact en_law_box (B := [(2147483648, 2147483648), (2147483650, 4294967295), (0, 4294967295), (0, 4294967295), (0, 4294967295), (0, 4294967295)]) C0 rfl (en_six ⟨by omega, by omega⟩ ⟨by omega, by omega⟩ ⟨by omega, by omega⟩ ⟨by omega, by omega⟩ ⟨by omega, by omega⟩ ⟨by omega, by omega⟩) (List.all_eq_true.mp en_go_3_0 _ (List.mem_of_getElem? (i := 3) rfl))
  by_cases h7 : (xs 1).toInt + 2147483648 ≤ 2147483649
  · by_cases h8 : (xs 2).toInt + 2147483648 ≤ 2147483647
    · exact en_law_box (B := [(2147483649, 2147483649), (0, 2147483647), (0, 4294967295), (0, 4294967295), (0, 4294967295), (0, 4294967295)]) C0 rfl (en_six ⟨by omega, by omega⟩ ⟨by omega, by omega⟩ ⟨by omega, by omega⟩ ⟨by omega, by omega⟩ ⟨by omega, by omega⟩ ⟨by omega, by omega⟩) (List.all_eq_true.mp en_go_3_1 _ (List.mem_of_getElem? (i := 0) rfl))
    by_cases h9 : (xs 2).toInt + 2147483648 ≤ 2147483648
    · exact en_law_box (B := [(2147483649, 2147483649), (2147483648, 2147483648), (0, 4294967295), (0, 4294967295), (0, 4294967295), (0, 4294967295)]) C0 rfl (en_six ⟨by omega, by omega⟩ ⟨by omega, by omega⟩ ⟨by omega, by omega⟩ ⟨by omega, by omega⟩ ⟨by omega, by omega⟩ ⟨by omega, by omega⟩) (List.all_eq_true.mp en_go_3_1 _ (List.mem_of_getElem? (i := 2) rfl))
    by_cases h10 : (xs 2).toInt + 2147483648 ≤ 2147483649
    · exact en_law_box (B := [(2147483649, 2147483649), (2147483649, 2147483649), (0, 4294967295), (0, 4294967295), (0, 4294967295), (0, 4294967295)]) C0 rfl (en_six ⟨by omega, by omega⟩ ⟨by omega, by omega⟩ ⟨by omega, by omega⟩ ⟨by omega, by omega⟩ ⟨by omega, by omega⟩ ⟨by omega, by omega⟩) (List.all_eq_true.mp en_go_3_1 _ (List.mem_of_getElem? (i := 3) rfl))
    exact en_law_box (B := [(2147483649, 2147483649), (2147483650, 4294967295), (0, 4294967295), (0, 4294967295), (0, 4294967295), (0, 4294967295)]) C0 rfl (en_six ⟨by omega, by omega⟩ ⟨by omega, by omega⟩ ⟨by omega, by omega⟩ ⟨by omega, by omega⟩ ⟨by omega, by omega⟩ ⟨by omega, by omega⟩) (List.all_eq_true.mp en_go_3_1 _ (List.mem_of_getElem? (i := 1) rfl))
  exact en_law_box (B := [(2147483650, 4294967295), (0, 4294967295), (0, 4294967295), (0, 4294967295), (0, 4294967295), (0, 4294967295)]) C0 rfl (en_six ⟨by omega, by omega⟩ ⟨by omega, by omega⟩ ⟨by omega, by omega⟩ ⟨by omega, by omega⟩ ⟨by omega, by omega⟩ ⟨by omega, by omega⟩) (List.all_eq_true.mp en_go_3_0 _ (List.mem_of_getElem? (i := 1) rfl))
theorem en_law_4 (C0 : en_LC p s m meth c b ex cA D 7 xs) : en_LT p l e s m below meth c b ex cA D (40, en_ls0, [.inl 4], en_t0, 413, 31071) := by
  have b1 := en_i32b (xs 1)
  have b2 := en_i32b (xs 2)
  have b3 := en_i32b (xs 3)
  have b4 := en_i32b (xs 4)
  have b5 := en_i32b (xs 5)
  have b6 := en_i32b (xs 6)
  by_cases h1 : (xs 1).toInt + 2147483648 ≤ 2147483647
  · exact en_law_box (B := [(0, 2147483647), (0, 4294967295), (0, 4294967295), (0, 4294967295), (0, 4294967295), (0, 4294967295)]) C0 rfl (en_six ⟨by omega, by omega⟩ ⟨by omega, by omega⟩ ⟨by omega, by omega⟩ ⟨by omega, by omega⟩ ⟨by omega, by omega⟩ ⟨by omega, by omega⟩) (List.all_eq_true.mp en_go_4_0 _ (List.mem_of_getElem? (i := 0) rfl))
  by_cases h2 : (xs 1).toInt + 2147483648 ≤ 2147483648
  · by_cases h3 : (xs 2).toInt + 2147483648 ≤ 2147483647
    · exact en_law_box (B := [(2147483648, 2147483648), (0, 2147483647), (0, 4294967295), (0, 4294967295), (0, 4294967295), (0, 4294967295)]) C0 rfl (en_six ⟨by omega, by omega⟩ ⟨by omega, by omega⟩ ⟨by omega, by omega⟩ ⟨by omega, by omega⟩ ⟨by omega, by omega⟩ ⟨by omega, by omega⟩) (List.all_eq_true.mp en_go_4_0 _ (List.mem_of_getElem? (i := 2) rfl))
    by_cases h4 : (xs 2).toInt + 2147483648 ≤ 2147483648
    · by_cases h5 : (xs 3).toInt + 2147483648 ≤ 2147483647
      · exact en_law_box (B := [(2147483648, 2147483648), (2147483648, 2147483648), (0, 2147483647), (0, 4294967295), (0, 4294967295), (0, 4294967295)]) C0 rfl (en_six ⟨by omega, by omega⟩ ⟨by omega, by omega⟩ ⟨by omega, by omega⟩ ⟨by omega, by omega⟩ ⟨by omega, by omega⟩ ⟨by omega, by omega⟩) (List.all_eq_true.mp en_go_4_1 _ (List.mem_of_getElem? (i := 0) rfl))
      by_cases h6 : (xs 3).toInt + 2147483648 ≤ 2147483848
      · exact en_law_box (B := [(2147483648, 2147483648), (2147483648, 2147483648), (2147483648, 2147483848), (0, 4294967295), (0, 4294967295), (0, 4294967295)]) C0 rfl (en_six ⟨by omega, by omega⟩ ⟨by omega, by omega⟩ ⟨by omega, by omega⟩ ⟨by omega, by omega⟩ ⟨by omega, by omega⟩ ⟨by omega, by omega⟩) (List.all_eq_true.mp en_go_4_1 _ (List.mem_of_getElem? (i := 2) rfl))
      exact en_law_box (B := [(2147483648, 2147483648), (2147483648, 2147483648), (2147483849, 4294967295), (0, 4294967295), (0, 4294967295), (0, 4294967295)]) C0 rfl (en_six ⟨by omega, by omega⟩ ⟨by omega, by omega⟩ ⟨by omega, by omega⟩ ⟨by omega, by omega⟩ ⟨by omega, by omega⟩ ⟨by omega, by omega⟩) (List.all_eq_true.mp en_go_4_1 _ (List.mem_of_getElem? (i := 1) rfl))
    by_cases h8 : (xs 2).toInt + 2147483648 ≤ 2147483649
    · by_cases h9 : (xs 3).toInt + 2147483648 ≤ 2147483647
      · exact en_law_box (B := [(2147483648, 2147483648), (2147483649, 2147483649), (0, 2147483647), (0, 4294967295), (0, 4294967295), (0, 4294967295)]) C0 rfl (en_six ⟨by omega, by omega⟩ ⟨by omega, by omega⟩ ⟨by omega, by omega⟩ ⟨by omega, by omega⟩ ⟨by omega, by omega⟩ ⟨by omega, by omega⟩) (List.all_eq_true.mp en_go_4_1 _ (List.mem_of_getElem? (i := 3) rfl))
      by_cases h10 : (xs 3).toInt + 2147483648 ≤ 2147483848
      · exact en_law_box (B := [(2147483648, 2147483648), (2147483649, 2147483649), (2147483648, 2147483848), (0, 4294967295), (0, 4294967295), (0, 4294967295)]) C0 rfl (en_six ⟨by omega, by omega⟩ ⟨by omega, by omega⟩ ⟨by omega, by omega⟩ ⟨by omega, by omega⟩ ⟨by omega, by omega⟩ ⟨by omega, by omega⟩) (List.all_eq_true.mp en_go_4_1 _ (List.mem_of_getElem? (i := 5) rfl))
      exact en_law_box (B := [(2147483648, 2147483648), (2147483649, 2147483649), (2147483849, 4294967295), (0, 4294967295), (0, 4294967295), (0, 4294967295)]) C0 rfl (en_six ⟨by omega, by omega⟩ ⟨by omega, by omega⟩ ⟨by omega, by omega⟩ ⟨by omega, by omega⟩ ⟨by omega, by omega⟩ ⟨by omega, by omega⟩) (List.all_eq_true.mp en_go_4_1 _ (List.mem_of_getElem? (i := 4) rfl))
    exact en_law_box (B := [(2147483648, 2147483648), (2147483650, 4294967295), (0, 4294967295), (0, 4294967295), (0, 4294967295), (0, 4294967295)]) C0 rfl (en_six ⟨by omega, by omega⟩ ⟨by omega, by omega⟩ ⟨by omega, by omega⟩ ⟨by omega, by omega⟩ ⟨by omega, by omega⟩ ⟨by omega, by omega⟩) (List.all_eq_true.mp en_go_4_0 _ (List.mem_of_getElem? (i := 3) rfl))
  by_cases h13 : (xs 1).toInt + 2147483648 ≤ 2147483649
  · by_cases h14 : (xs 2).toInt + 2147483648 ≤ 2147483647
    · exact en_law_box (B := [(2147483649, 2147483649), (0, 2147483647), (0, 4294967295), (0, 4294967295), (0, 4294967295), (0, 4294967295)]) C0 rfl (en_six ⟨by omega, by omega⟩ ⟨by omega, by omega⟩ ⟨by omega, by omega⟩ ⟨by omega, by omega⟩ ⟨by omega, by omega⟩ ⟨by omega, by omega⟩) (List.all_eq_true.mp en_go_4_0 _ (List.mem_of_getElem? (i := 4) rfl))
    by_cases h15 : (xs 2).toInt + 2147483648 ≤ 2147483648
    · by_cases h16 : (xs 3).toInt + 2147483648 ≤ 2147483647
      · exact en_law_box (B := [(2147483649, 2147483649), (2147483648, 2147483648), (0, 2147483647), (0, 4294967295), (0, 4294967295), (0, 4294967295)]) C0 rfl (en_six ⟨by omega, by omega⟩ ⟨by omega, by omega⟩ ⟨by omega, by omega⟩ ⟨by omega, by omega⟩ ⟨by omega, by omega⟩ ⟨by omega, by omega⟩) (List.all_eq_true.mp en_go_4_2 _ (List.mem_of_getElem? (i := 0) rfl))
      by_cases h17 : (xs 3).toInt + 2147483648 ≤ 2147483848
      · exact en_law_box (B := [(2147483649, 2147483649), (2147483648, 2147483648), (2147483648, 2147483848), (0, 4294967295), (0, 4294967295), (0, 4294967295)]) C0 rfl (en_six ⟨by omega, by omega⟩ ⟨by omega, by omega⟩ ⟨by omega, by omega⟩ ⟨by omega, by omega⟩ ⟨by omega, by omega⟩ ⟨by omega, by omega⟩) (List.all_eq_true.mp en_go_4_2 _ (List.mem_of_getElem? (i := 2) rfl))
      exact en_law_box (B := [(2147483649, 2147483649), (2147483648, 2147483648), (2147483849, 4294967295), (0, 4294967295), (0, 4294967295), (0, 4294967295)]) C0 rfl (en_six ⟨by omega, by omega⟩ ⟨by omega, by omega⟩ ⟨by omega, by omega⟩ ⟨by omega, by omega⟩ ⟨by omega, by omega⟩ ⟨by omega, by omega⟩) (List.all_eq_true.mp en_go_4_2 _ (List.mem_of_getElem? (i := 1) rfl))
    by_cases h19 : (xs 2).toInt + 2147483648 ≤ 2147483649
    · by_cases h20 : (xs 3).toInt + 2147483648 ≤ 2147483647
      · exact en_law_box (B := [(2147483649, 2147483649), (2147483649, 2147483649), (0, 2147483647), (0, 4294967295), (0, 4294967295), (0, 4294967295)]) C0 rfl (en_six ⟨by omega, by omega⟩ ⟨by omega, by omega⟩ ⟨by omega, by omega⟩ ⟨by omega, by omega⟩ ⟨by omega, by omega⟩ ⟨by omega, by omega⟩) (List.all_eq_true.mp en_go_4_2 _ (List.mem_of_getElem? (i := 3) rfl))
      by_cases h21 : (xs 3).toInt + 2147483648 ≤ 2147483848
      · exact en_law_box (B := [(2147483649, 2147483649), (2147483649, 2147483649), (2147483648, 2147483848), (0, 4294967295), (0, 4294967295), (0, 4294967295)]) C0 rfl (en_six ⟨by omega, by omega⟩ ⟨by omega, by omega⟩ ⟨by omega, by omega⟩ ⟨by omega, by omega⟩ ⟨by omega, by omega⟩ ⟨by omega, by omega⟩) (List.all_eq_true.mp en_go_4_2 _ (List.mem_of_getElem? (i := 5) rfl))
      exact en_law_box (B := [(2147483649, 2147483649), (2147483649, 2147483649), (2147483849, 4294967295), (0, 4294967295), (0, 4294967295), (0, 4294967295)]) C0 rfl (en_six ⟨by omega, by omega⟩ ⟨by omega, by omega⟩ ⟨by omega, by omega⟩ ⟨by omega, by omega⟩ ⟨by omega, by omega⟩ ⟨by omega, by omega⟩) (List.all_eq_true.mp en_go_4_2 _ (List.mem_of_getElem? (i := 4) rfl))
    exact en_law_box (B := [(2147483649, 2147483649), (2147483650, 4294967295), (0, 4294967295), (0, 4294967295), (0, 4294967295), (0, 4294967295)]) C0 rfl (en_six ⟨by omega, by omega⟩ ⟨by omega, by omega⟩ ⟨by omega, by omega⟩ ⟨by omega, by omega⟩ ⟨by omega, by omega⟩ ⟨by omega, by omega⟩) (List.all_eq_true.mp en_go_4_0 _ (List.mem_of_getElem? (i := 5) rfl))
  exact en_law_box (B := [(2147483650, 4294967295), (0, 4294967295), (0, 4294967295), (0, 4294967295), (0, 4294967295), (0, 4294967295)]) C0 rfl (en_six ⟨by omega, by omega⟩ ⟨by omega, by omega⟩ ⟨by omega, by omega⟩ ⟨by omega, by omega⟩ ⟨by omega, by omega⟩ ⟨by omega, by omega⟩) (List.all_eq_true.mp en_go_4_0 _ (List.mem_of_getElem? (i := 1) rfl))
theorem en_law_7 (C0 : en_LC p s m meth c b ex cA D 7 xs) : en_LT p l e s m below meth c b ex cA D (40, en_ls0, [.inl 7], en_t0, 413, 31071) := by
  have b1 := en_i32b (xs 1)
  have b2 := en_i32b (xs 2)
  have b3 := en_i32b (xs 3)
  have b4 := en_i32b (xs 4)
  have b5 := en_i32b (xs 5)
  have b6 := en_i32b (xs 6)
  by_cases h1 : (xs 1).toInt + 2147483648 ≤ 2147483648
  · exact en_law_box (B := [(0, 2147483648), (0, 4294967295), (0, 4294967295), (0, 4294967295), (0, 4294967295), (0, 4294967295)]) C0 rfl (en_six ⟨by omega, by omega⟩ ⟨by omega, by omega⟩ ⟨by omega, by omega⟩ ⟨by omega, by omega⟩ ⟨by omega, by omega⟩ ⟨by omega, by omega⟩) (List.all_eq_true.mp en_go_7_0 _ (List.mem_of_getElem? (i := 0) rfl))
  by_cases h2 : (xs 1).toInt + 2147483648 ≤ 2147483649
  · exact en_law_box (B := [(2147483649, 2147483649), (0, 4294967295), (0, 4294967295), (0, 4294967295), (0, 4294967295), (0, 4294967295)]) C0 rfl (en_six ⟨by omega, by omega⟩ ⟨by omega, by omega⟩ ⟨by omega, by omega⟩ ⟨by omega, by omega⟩ ⟨by omega, by omega⟩ ⟨by omega, by omega⟩) (List.all_eq_true.mp en_go_7_0 _ (List.mem_of_getElem? (i := 2) rfl))
  by_cases h3 : (xs 1).toInt + 2147483648 ≤ 2147483650
  · exact en_law_box (B := [(2147483650, 2147483650), (0, 4294967295), (0, 4294967295), (0, 4294967295), (0, 4294967295), (0, 4294967295)]) C0 rfl (en_six ⟨by omega, by omega⟩ ⟨by omega, by omega⟩ ⟨by omega, by omega⟩ ⟨by omega, by omega⟩ ⟨by omega, by omega⟩ ⟨by omega, by omega⟩) (List.all_eq_true.mp en_go_7_0 _ (List.mem_of_getElem? (i := 3) rfl))
  by_cases h4 : (xs 1).toInt + 2147483648 ≤ 2147483651
  · exact en_law_box (B := [(2147483651, 2147483651), (0, 4294967295), (0, 4294967295), (0, 4294967295), (0, 4294967295), (0, 4294967295)]) C0 rfl (en_six ⟨by omega, by omega⟩ ⟨by omega, by omega⟩ ⟨by omega, by omega⟩ ⟨by omega, by omega⟩ ⟨by omega, by omega⟩ ⟨by omega, by omega⟩) (List.all_eq_true.mp en_go_7_0 _ (List.mem_of_getElem? (i := 4) rfl))
  by_cases h5 : (xs 1).toInt + 2147483648 ≤ 2147483652
  · exact en_law_box (B := [(2147483652, 2147483652), (0, 4294967295), (0, 4294967295), (0, 4294967295), (0, 4294967295), (0, 4294967295)]) C0 rfl (en_six ⟨by omega, by omega⟩ ⟨by omega, by omega⟩ ⟨by omega, by omega⟩ ⟨by omega, by omega⟩ ⟨by omega, by omega⟩ ⟨by omega, by omega⟩) (List.all_eq_true.mp en_go_7_1 _ (List.mem_of_getElem? (i := 0) rfl))
  by_cases h6 : (xs 1).toInt + 2147483648 ≤ 2147483653
  · exact en_law_box (B := [(2147483653, 2147483653), (0, 4294967295), (0, 4294967295), (0, 4294967295), (0, 4294967295), (0, 4294967295)]) C0 rfl (en_six ⟨by omega, by omega⟩ ⟨by omega, by omega⟩ ⟨by omega, by omega⟩ ⟨by omega, by omega⟩ ⟨by omega, by omega⟩ ⟨by omega, by omega⟩) (List.all_eq_true.mp en_go_7_1 _ (List.mem_of_getElem? (i := 1) rfl))
  by_cases h7 : (xs 1).toInt + 2147483648 ≤ 2147483654
  · exact en_law_box (B := [(2147483654, 2147483654), (0, 4294967295), (0, 4294967295), (0, 4294967295), (0, 4294967295), (0, 4294967295)]) C0 rfl (en_six ⟨by omega, by omega⟩ ⟨by omega, by omega⟩ ⟨by omega, by omega⟩ ⟨by omega, by omega⟩ ⟨by omega, by omega⟩ ⟨by omega, by omega⟩) (List.all_eq_true.mp en_go_7_1 _ (List.mem_of_getElem? (i := 2) rfl))
  by_cases h8 : (xs 1).toInt + 2147483648 ≤ 2147483655
  · exact en_law_box (B := [(2147483655, 2147483655), (0, 4294967295), (0, 4294967295), (0, 4294967295), (0, 4294967295), (0, 4294967295)]) C0 rfl (en_six ⟨by omega, by omega⟩ ⟨by omega, by omega⟩ ⟨by omega, by omega⟩ ⟨by omega, by omega⟩ ⟨by omega, by omega⟩ ⟨by omega, by omega⟩) (List.all_eq_true.mp en_go_7_1 _ (List.mem_of_getElem? (i := 3) rfl))
  by_cases h9 : (xs 1).toInt + 2147483648 ≤ 2147483656
  · exact en_law_box (B := [(2147483656, 2147483656), (0, 4294967295), (0, 4294967295), (0, 4294967295), (0, 4294967295), (0, 4294967295)]) C0 rfl (en_six ⟨by omega, by omega⟩ ⟨by omega, by omega⟩ ⟨by omega, by omega⟩ ⟨by omega, by omega⟩ ⟨by omega, by omega⟩ ⟨by omega, by omega⟩) (List.all_eq_true.mp en_go_7_1 _ (List.mem_of_getElem? (i := 4) rfl))
  by_cases h10 : (xs 1).toInt + 2147483648 ≤ 2147483657
  · exact en_law_box (B := [(2147483657, 2147483657), (0, 4294967295), (0, 4294967295), (0, 4294967295), (0, 4294967295), (0, 4294967295)]) C0 rfl (en_six ⟨by omega, by omega⟩ ⟨by omega, by omega⟩ ⟨by omega, by omega⟩ ⟨by omega, by omega⟩ ⟨by omega, by omega⟩ ⟨by omega, by omega⟩) (List.all_eq_true.mp en_go_7_2 _ (List.mem_of_getElem? (i := 0) rfl))
  by_cases h11 : (xs 1).toInt + 2147483648 ≤ 2147483658
  · exact en_law_box (B := [(2147483658, 2147483658), (0, 4294967295), (0, 4294967295), (0, 4294967295), (0, 4294967295), (0, 4294967295)]) C0 rfl (en_six ⟨by omega, by omega⟩ ⟨by omega, by omega⟩ ⟨by omega, by omega⟩ ⟨by omega, by omega⟩ ⟨by omega, by omega⟩ ⟨by omega, by omega⟩) (List.all_eq_true.mp en_go_7_2 _ (List.mem_of_getElem? (i := 1) rfl))
  by_cases h12 : (xs 1).toInt + 2147483648 ≤ 2147483659
  · exact en_law_box (B := [(2147483659, 2147483659), (0, 4294967295), (0, 4294967295), (0, 4294967295), (0, 4294967295), (0, 4294967295)]) C0 rfl (en_six ⟨by omega, by omega⟩ ⟨by omega, by omega⟩ ⟨by omega, by omega⟩ ⟨by omega, by omega⟩ ⟨by omega, by omega⟩ ⟨by omega, by omega⟩) (List.all_eq_true.mp en_go_7_2 _ (List.mem_of_getElem? (i := 2) rfl))
  by_cases h13 : (xs 1).toInt + 2147483648 ≤ 2147483660
  · exact en_law_box (B := [(2147483660, 2147483660), (0, 4294967295), (0, 4294967295), (0, 4294967295), (0, 4294967295), (0, 4294967295)]) C0 rfl (en_six ⟨by omega, by omega⟩ ⟨by omega, by omega⟩ ⟨by omega, by omega⟩ ⟨by omega, by omega⟩ ⟨by omega, by omega⟩ ⟨by omega, by omega⟩) (List.all_eq_true.mp en_go_7_2 _ (List.mem_of_getElem? (i := 3) rfl))
  by_cases h14 : (xs 1).toInt + 2147483648 ≤ 2147483661
  · exact en_law_box (B := [(2147483661, 2147483661), (0, 4294967295), (0, 4294967295), (0, 4294967295), (0, 4294967295), (0, 4294967295)]) C0 rfl (en_six ⟨by omega, by omega⟩ ⟨by omega, by omega⟩ ⟨by omega, by omega⟩ ⟨by omega, by omega⟩ ⟨by omega, by omega⟩ ⟨by omega, by omega⟩) (List.all_eq_true.mp en_go_7_2 _ (List.mem_of_getElem? (i := 4) rfl))
  by_cases h15 : (xs 1).toInt + 2147483648 ≤ 2147483662
  · exact en_law_box (B := [(2147483662, 2147483662), (0, 4294967295), (0, 4294967295), (0, 4294967295), (0, 4294967295), (0, 4294967295)]) C0 rfl (en_six ⟨by omega, by omega⟩ ⟨by omega, by omega⟩ ⟨by omega, by omega⟩ ⟨by omega, by omega⟩ ⟨by omega, by omega⟩ ⟨by omega, by omega⟩) (List.all_eq_true.mp en_go_7_3 _ (List.mem_of_getElem? (i := 0) rfl))
  by_cases h16 : (xs 1).toInt + 2147483648 ≤ 2147483663
  · exact en_law_box (B := [(2147483663, 2147483663), (0, 4294967295), (0, 4294967295), (0, 4294967295), (0, 4294967295), (0, 4294967295)]) C0 rfl (en_six ⟨by omega, by omega⟩ ⟨by omega, by omega⟩ ⟨by omega, by omega⟩ ⟨by omega, by omega⟩ ⟨by omega, by omega⟩ ⟨by omega, by omega⟩) (List.all_eq_true.mp en_go_7_3 _ (List.mem_of_getElem? (i := 1) rfl))
  by_cases h17 : (xs 1).toInt + 2147483648 ≤ 2147483664
  · exact en_law_box (B := [(2147483664, 2147483664), (0, 4294967295), (0, 4294967295), (0, 4294967295), (0, 4294967295), (0, 4294967295)]) C0 rfl (en_six ⟨by omega, by omega⟩ ⟨by omega, by omega⟩ ⟨by omega, by omega⟩ ⟨by omega, by omega⟩ ⟨by omega, by omega⟩ ⟨by omega, by omega⟩) (List.all_eq_true.mp en_go_7_3 _ (List.mem_of_getElem? (i := 2) rfl))
  by_cases h18 : (xs 1).toInt + 2147483648 ≤ 2147483665
  · exact en_law_box (B := [(2147483665, 2147483665), (0, 4294967295), (0, 4294967295), (0, 4294967295), (0, 4294967295), (0, 4294967295)]) C0 rfl (en_six ⟨by omega, by omega⟩ ⟨by omega, by omega⟩ ⟨by omega, by omega⟩ ⟨by omega, by omega⟩ ⟨by omega, by omega⟩ ⟨by omega, by omega⟩) (List.all_eq_true.mp en_go_7_3 _ (List.mem_of_getElem? (i := 3) rfl))
  by_cases h19 : (xs 1).toInt + 2147483648 ≤ 2147483666
  · exact en_law_box (B := [(2147483666, 2147483666), (0, 4294967295), (0, 4294967295), (0, 4294967295), (0, 4294967295), (0, 4294967295)]) C0 rfl (en_six ⟨by omega, by omega⟩ ⟨by omega, by omega⟩ ⟨by omega, by omega⟩ ⟨by omega, by omega⟩ ⟨by omega, by omega⟩ ⟨by omega, by omega⟩) (List.all_eq_true.mp en_go_7_3 _ (List.mem_of_getElem? (i := 4) rfl))
  by_cases h20 : (xs 1).toInt + 2147483648 ≤ 2147483667
  · exact en_law_box (B := [(2147483667, 2147483667), (0, 4294967295), (0, 4294967295), (0, 4294967295), (0, 4294967295), (0, 4294967295)]) C0 rfl (en_six ⟨by omega, by omega⟩ ⟨by omega, by omega⟩ ⟨by omega, by omega⟩ ⟨by omega, by omega⟩ ⟨by omega, by omega⟩ ⟨by omega, by omega⟩) (List.all_eq_true.mp en_go_7_4 _ (List.mem_of_getElem? (i := 0) rfl))
  by_cases h21 : (xs 1).toInt + 2147483648 ≤ 2147483668
  · exact en_law_box (B := [(2147483668, 2147483668), (0, 4294967295), (0, 4294967295), (0, 4294967295), (0, 4294967295), (0, 4294967295)]) C0 rfl (en_six ⟨by omega, by omega⟩ ⟨by omega, by omega⟩ ⟨by omega, by omega⟩ ⟨by omega, by omega⟩ ⟨by omega, by omega⟩ ⟨by omega, by omega⟩) (List.all_eq_true.mp en_go_7_4 _ (List.mem_of_getElem? (i := 1) rfl))
  by_cases h22 : (xs 1).toInt + 2147483648 ≤ 2147483669
  · exact en_law_box (B := [(2147483669, 2147483669), (0, 4294967295), (0, 4294967295), (0, 4294967295), (0, 4294967295), (0, 4294967295)]) C0 rfl (en_six ⟨by omega, by omega⟩ ⟨by omega, by omega⟩ ⟨by omega, by omega⟩ ⟨by omega, by omega⟩ ⟨by omega, by omega⟩ ⟨by omega, by omega⟩) (List.all_eq_true.mp en_go_7_4 _ (List.mem_of_getElem? (i := 2) rfl))
  by_cases h23 : (xs 1).toInt + 2147483648 ≤ 2147483670
  · exact en_law_box (B := [(2147483670, 2147483670), (0, 4294967295), (0, 4294967295), (0, 4294967295), (0, 4294967295), (0, 4294967295)]) C0 rfl (en_six ⟨by omega, by omega⟩ ⟨by omega, by omega⟩ ⟨by omega, by omega⟩ ⟨by omega, by omega⟩ ⟨by omega, by omega⟩ ⟨by omega, by omega⟩) (List.all_eq_true.mp en_go_7_4 _ (List.mem_of_getElem? (i := 3) rfl))
  by_cases h24 : (xs 1).toInt + 2147483648 ≤ 2147483671
  · exact en_law_box (B := [(2147483671, 2147483671), (0, 4294967295), (0, 4294967295), (0, 4294967295), (0, 4294967295), (0, 4294967295)]) C0 rfl (en_six ⟨by omega, by omega⟩ ⟨by omega, by omega⟩ ⟨by omega, by omega⟩ ⟨by omega, by omega⟩ ⟨by omega, by omega⟩ ⟨by omega, by omega⟩) (List.all_eq_true.mp en_go_7_4 _ (List.mem_of_getElem? (i := 4) rfl))
  by_cases h25 : (xs 1).toInt + 2147483648 ≤ 2147483672
  · exact en_law_box (B := [(2147483672, 2147483672), (0, 4294967295), (0, 4294967295), (0, 4294967295), (0, 4294967295), (0, 4294967295)]) C0 rfl (en_six ⟨by omega, by omega⟩ ⟨by omega, by omega⟩ ⟨by omega, by omega⟩ ⟨by omega, by omega⟩ ⟨by omega, by omega⟩ ⟨by omega, by omega⟩) (List.all_eq_true.mp en_go_7_5 _ (List.mem_of_getElem? (i := 0) rfl))
  by_cases h26 : (xs 1).toInt + 2147483648 ≤ 2147483673
  · exact en_law_box (B := [(2147483673, 2147483673), (0, 4294967295), (0, 4294967295), (0, 4294967295), (0, 4294967295), (0, 4294967295)]) C0 rfl (en_six ⟨by omega, by omega⟩ ⟨by omega, by omega⟩ ⟨by omega, by omega⟩ ⟨by omega, by omega⟩ ⟨by omega, by omega⟩ ⟨by omega, by omega⟩) (List.all_eq_true.mp en_go_7_5 _ (List.mem_of_getElem? (i := 1) rfl))
  by_cases h27 : (xs 1).toInt + 2147483648 ≤ 2147483674
  · exact en_law_box (B := [(2147483674, 2147483674), (0, 4294967295), (0, 4294967295), (0, 4294967295), (0, 4294967295), (0, 4294967295)]) C0 rfl (en_six ⟨by omega, by omega⟩ ⟨by omega, by omega⟩ ⟨by omega, by omega⟩ ⟨by omega, by omega⟩ ⟨by omega, by omega⟩ ⟨by omega, by omega⟩) (List.all_eq_true.mp en_go_7_5 _ (List.mem_of_getElem? (i := 2) rfl))
  by_cases h28 : (xs 1).toInt + 2147483648 ≤ 2147483675
  · exact en_law_box (B := [(2147483675, 2147483675), (0, 4294967295), (0, 4294967295), (0, 4294967295), (0, 4294967295), (0, 4294967295)]) C0 rfl (en_six ⟨by omega, by omega⟩ ⟨by omega, by omega⟩ ⟨by omega, by omega⟩ ⟨by omega, by omega⟩ ⟨by omega, by omega⟩ ⟨by omega, by omega⟩) (List.all_eq_true.mp en_go_7_5 _ (List.mem_of_getElem? (i := 3) rfl))
  by_cases h29 : (xs 1).toInt + 2147483648 ≤ 2147483676
  · exact en_law_box (B := [(2147483676, 2147483676), (0, 4294967295), (0, 4294967295), (0, 4294967295), (0, 4294967295), (0, 4294967295)]) C0 rfl (en_six ⟨by omega, by omega⟩ ⟨by omega, by omega⟩ ⟨by omega, by omega⟩ ⟨by omega, by omega⟩ ⟨by omega, by omega⟩ ⟨by omega, by omega⟩) (List.all_eq_true.mp en_go_7_5 _ (List.mem_of_getElem? (i := 4) rfl))
  by_cases h30 : (xs 1).toInt + 2147483648 ≤ 2147483677
  · exact en_law_box (B := [(2147483677, 2147483677), (0, 4294967295), (0, 4294967295), (0, 4294967295), (0, 4294967295), (0, 4294967295)]) C0 rfl (en_six ⟨by omega, by omega⟩ ⟨by omega, by omega⟩ ⟨by omega, by omega⟩ ⟨by omega, by omega⟩ ⟨by omega, by omega⟩ ⟨by omega, by omega⟩) (List.all_eq_true.mp en_go_7_6 _ (List.mem_of_getElem? (i := 0) rfl))
  by_cases h31 : (xs 1).toInt + 2147483648 ≤ 2147483678
  · exact en_law_box (B := [(2147483678, 2147483678), (0, 4294967295), (0, 4294967295), (0, 4294967295), (0, 4294967295), (0, 4294967295)]) C0 rfl (en_six ⟨by omega, by omega⟩ ⟨by omega, by omega⟩ ⟨by omega, by omega⟩ ⟨by omega, by omega⟩ ⟨by omega, by omega⟩ ⟨by omega, by omega⟩) (List.all_eq_true.mp en_go_7_6 _ (List.mem_of_getElem? (i := 1) rfl))
  exact en_law_box (B := [(2147483679, 4294967295), (0, 4294967295), (0, 4294967295), (0, 4294967295), (0, 4294967295), (0, 4294967295)]) C0 rfl (en_six ⟨by omega, by omega⟩ ⟨by omega, by omega⟩ ⟨by omega, by omega⟩ ⟨by omega, by omega⟩ ⟨by omega, by omega⟩ ⟨by omega, by omega⟩) (List.all_eq_true.mp en_go_7_0 _ (List.mem_of_getElem? (i := 1) rfl))
theorem en_law_8 (C0 : en_LC p s m meth c b ex cA D 7 xs) : en_LT p l e s m below meth c b ex cA D (40, en_ls0, [.inl 8], en_t0, 413, 31071) := by
  have b1 := en_i32b (xs 1)
  have b2 := en_i32b (xs 2)
  have b3 := en_i32b (xs 3)
  have b4 := en_i32b (xs 4)
  have b5 := en_i32b (xs 5)
  have b6 := en_i32b (xs 6)
  by_cases h1 : (xs 1).toInt + 2147483648 ≤ 2147483647
  · exact en_law_box (B := [(0, 2147483647), (0, 4294967295), (0, 4294967295), (0, 4294967295), (0, 4294967295), (0, 4294967295)]) C0 rfl (en_six ⟨by omega, by omega⟩ ⟨by omega, by omega⟩ ⟨by omega, by omega⟩ ⟨by omega, by omega⟩ ⟨by omega, by omega⟩ ⟨by omega, by omega⟩) (List.all_eq_true.mp en_go_8_0 _ (List.mem_of_getElem? (i := 0) rfl))
  exact en_law_box (B := [(2147483648, 4294967295), (0, 4294967295), (0, 4294967295), (0, 4294967295), (0, 4294967295), (0, 4294967295)]) C0 rfl (en_six ⟨by omega, by omega⟩ ⟨by omega, by omega⟩ ⟨by omega, by omega⟩ ⟨by omega, by omega⟩ ⟨by omega, by omega⟩ ⟨by omega, by omega⟩) (List.all_eq_true.mp en_go_8_0 _ (List.mem_of_getElem? (i := 1) rfl))
theorem en_law_9 (C0 : en_LC p s m meth c b ex cA D 7 xs) : en_LT p l e s m below meth c b ex cA D (40, en_ls0, [.inl 9], en_t0, 413, 31071) := by
  have b1 := en_i32b (xs 1)
  have b2 := en_i32b (xs 2)
  have b3 := en_i32b (xs 3)
  have b4 := en_i32b (xs 4)
  have b5 := en_i32b (xs 5)
  have b6 := en_i32b (xs 6)
  by_cases h1 : (xs 1).toInt + 2147483648 ≤ 2147483647
  · exact en_law_box (B := [(0, 2147483647), (0, 4294967295), (0, 4294967295), (0, 4294967295), (0, 4294967295), (0, 4294967295)]) C0 rfl (en_six ⟨by omega, by omega⟩ ⟨by omega, by omega⟩ ⟨by omega, by omega⟩ ⟨by omega, by omega⟩ ⟨by omega, by omega⟩ ⟨by omega, by omega⟩) (List.all_eq_true.mp en_go_9_0 _ (List.mem_of_getElem? (i := 0) rfl))
  exact en_law_box (B := [(2147483648, 4294967295), (0, 4294967295), (0, 4294967295), (0, 4294967295), (0, 4294967295), (0, 4294967295)]) C0 rfl (en_six ⟨by omega, by omega⟩ ⟨by omega, by omega⟩ ⟨by omega, by omega⟩ ⟨by omega, by omega⟩ ⟨by omega, by omega⟩ ⟨by omega, by omega⟩) (List.all_eq_true.mp en_go_9_0 _ (List.mem_of_getElem? (i := 1) rfl))
theorem en_law_10 (C0 : en_LC p s m meth c b ex cA D 7 xs) : en_LT p l e s m below meth c b ex cA D (40, en_ls0, [.inl 10], en_t0, 413, 31071) := by
  have b1 := en_i32b (xs 1)
  have b2 := en_i32b (xs 2)
  have b3 := en_i32b (xs 3)
  have b4 := en_i32b (xs 4)
  have b5 := en_i32b (xs 5)
  have b6 := en_i32b (xs 6)
  by_cases h1 : (xs 1).toInt + 2147483648 ≤ 2147483647
  · exact en_law_box (B := [(0, 2147483647), (0, 4294967295), (0, 4294967295), (0, 4294967295), (0, 4294967295), (0, 4294967295)]) C0 rfl (en_six ⟨by omega, by omega⟩ ⟨by omega, by omega⟩ ⟨by omega, by omega⟩ ⟨by omega, by omega⟩ ⟨by omega, by omega⟩ ⟨by omega, by omega⟩) (List.all_eq_true.mp en_go_10_0 _ (List.mem_of_getElem? (i := 0) rfl))
  exact en_law_box (B := [(2147483648, 4294967295), (0, 4294967295), (0, 4294967295), (0, 4294967295), (0, 4294967295), (0, 4294967295)]) C0 rfl (en_six ⟨by omega, by omega⟩ ⟨by omega, by omega⟩ ⟨by omega, by omega⟩ ⟨by omega, by omega⟩ ⟨by omega, by omega⟩ ⟨by omega, by omega⟩) (List.all_eq_true.mp en_go_10_0 _ (List.mem_of_getElem? (i := 1) rfl))
theorem en_law_11 (C0 : en_LC p s m meth c b ex cA D 7 xs) : en_LT p l e s m below meth c b ex cA D (40, en_ls0, [.inl 11], en_t0, 413, 31071) := by
  have b1 := en_i32b (xs 1)
  have b2 := en_i32b (xs 2)
  have b3 := en_i32b (xs 3)
  have b4 := en_i32b (xs 4)
  have b5 := en_i32b (xs 5)
  have b6 := en_i32b (xs 6)
  exact en_law_box (B := [(0, 4294967295), (0, 4294967295), (0, 4294967295), (0, 4294967295), (0, 4294967295), (0, 4294967295)]) C0 rfl (en_six ⟨by omega, by omega⟩ ⟨by omega, by omega⟩ ⟨by omega, by omega⟩ ⟨by omega, by omega⟩ ⟨by omega, by omega⟩ ⟨by omega, by omega⟩) (List.all_eq_true.mp en_go_11_0 _ (List.mem_of_getElem? (i := 0) rfl))
theorem en_law_12 (C0 : en_LC p s m meth c b ex cA D 7 xs) : en_LT p l e s m below meth c b ex cA D (40, en_ls0, [.inl 12], en_t0, 413, 31071) := by
  have b1 := en_i32b (xs 1)
  have b2 := en_i32b (xs 2)
  have b3 := en_i32b (xs 3)
  have b4 := en_i32b (xs 4)
  have b5 := en_i32b (xs 5)
  have b6 := en_i32b (xs 6)
  by_cases h1 : (xs 1).toInt + 2147483648 ≤ 2147483647
  · exact en_law_box (B := [(0, 2147483647), (0, 4294967295), (0, 4294967295), (0, 4294967295), (0, 4294967295), (0, 4294967295)]) C0 rfl (en_six ⟨by omega, by omega⟩ ⟨by omega, by omega⟩ ⟨by omega, by omega⟩ ⟨by omega, by omega⟩ ⟨by omega, by omega⟩ ⟨by omega, by omega⟩) (List.all_eq_true.mp en_go_12_0 _ (List.mem_of_getElem? (i := 0) rfl))
  by_cases h2 : (xs 1).toInt + 2147483648 ≤ 2147483648
  · exact en_law_box (B := [(2147483648, 2147483648), (0, 4294967295), (0, 4294967295), (0, 4294967295), (0, 4294967295), (0, 4294967295)]) C0 rfl (en_six ⟨by omega, by omega⟩ ⟨by omega, by omega⟩ ⟨by omega, by omega⟩ ⟨by omega, by omega⟩ ⟨by omega, by omega⟩ ⟨by omega, by omega⟩) (List.all_eq_true.mp en_go_12_0 _ (List.mem_of_getElem? (i := 2) rfl))
  by_cases h3 : (xs 1).toInt + 2147483648 ≤ 2147483649
  · exact en_law_box (B := [(2147483649, 2147483649), (0, 4294967295), (0, 4294967295), (0, 4294967295), (0, 4294967295), (0, 4294967295)]) C0 rfl (en_six ⟨by omega, by omega⟩ ⟨by omega, by omega⟩ ⟨by omega, by omega⟩ ⟨by omega, by omega⟩ ⟨by omega, by omega⟩ ⟨by omega, by omega⟩) (List.all_eq_true.mp en_go_12_0 _ (List.mem_of_getElem? (i := 3) rfl))
  by_cases h4 : (xs 1).toInt + 2147483648 ≤ 2147483650
  · exact en_law_box (B := [(2147483650, 2147483650), (0, 4294967295), (0, 4294967295), (0, 4294967295), (0, 4294967295), (0, 4294967295)]) C0 rfl (en_six ⟨by omega, by omega⟩ ⟨by omega, by omega⟩ ⟨by omega, by omega⟩ ⟨by omega, by omega⟩ ⟨by omega, by omega⟩ ⟨by omega, by omega⟩) (List.all_eq_true.mp en_go_12_0 _ (List.mem_of_getElem? (i := 4) rfl))
  exact en_law_box (B := [(2147483651, 4294967295), (0, 4294967295), (0, 4294967295), (0, 4294967295), (0, 4294967295), (0, 4294967295)]) C0 rfl (en_six ⟨by omega, by omega⟩ ⟨by omega, by omega⟩ ⟨by omega, by omega⟩ ⟨by omega, by omega⟩ ⟨by omega, by omega⟩ ⟨by omega, by omega⟩) (List.all_eq_true.mp en_go_12_0 _ (List.mem_of_getElem? (i := 1) rfl))
theorem en_law_13 (C0 : en_LC p s m meth c b ex cA D 7 xs) : en_LT p l e s m below meth c b ex cA D (40, en_ls0, [.inl 13], en_t0, 413, 31071) := by
  have b1 := en_i32b (xs 1)
  have b2 := en_i32b (xs 2)
  have b3 := en_i32b (xs 3)
  have b4 := en_i32b (xs 4)
  have b5 := en_i32b (xs 5)
  have b6 := en_i32b (xs 6)
  by_cases h1 : (xs 1).toInt + 2147483648 ≤ 2147483647
  · exact en_law_box (B := [(0, 2147483647), (0, 4294967295), (0, 4294967295), (0, 4294967295), (0, 4294967295), (0, 4294967295)]) C0 rfl (en_six ⟨by omega, by omega⟩ ⟨by omega, by omega⟩ ⟨by omega, by omega⟩ ⟨by omega, by omega⟩ ⟨by omega, by omega⟩ ⟨by omega, by omega⟩) (List.all_eq_true.mp en_go_13_0 _ (List.mem_of_getElem? (i := 0) rfl))
  exact en_law_box (B := [(2147483648, 4294967295), (0, 4294967295), (0, 4294967295), (0, 4294967295), (0, 4294967295), (0, 4294967295)]) C0 rfl (en_six ⟨by omega, by omega⟩ ⟨by omega, by omega⟩ ⟨by omega, by omega⟩ ⟨by omega, by omega⟩ ⟨by omega, by omega⟩ ⟨by omega, by omega⟩) (List.all_eq_true.mp en_go_13_0 _ (List.mem_of_getElem? (i := 1) rfl))
theorem en_law_14 (C0 : en_LC p s m meth c b ex cA D 7 xs) : en_LT p l e s m below meth c b ex cA D (40, en_ls0, [.inl 14], en_t0, 413, 31071) := by
  have b1 := en_i32b (xs 1)
  have b2 := en_i32b (xs 2)
  have b3 := en_i32b (xs 3)
  have b4 := en_i32b (xs 4)
  have b5 := en_i32b (xs 5)
  have b6 := en_i32b (xs 6)
  by_cases h1 : (xs 1).toInt + 2147483648 ≤ 2147483647
  · exact en_law_box (B := [(0, 2147483647), (0, 4294967295), (0, 4294967295), (0, 4294967295), (0, 4294967295), (0, 4294967295)]) C0 rfl (en_six ⟨by omega, by omega⟩ ⟨by omega, by omega⟩ ⟨by omega, by omega⟩ ⟨by omega, by omega⟩ ⟨by omega, by omega⟩ ⟨by omega, by omega⟩) (List.all_eq_true.mp en_go_14_0 _ (List.mem_of_getElem? (i := 0) rfl))
  exact en_law_box (B := [(2147483648, 4294967295), (0, 4294967295), (0, 4294967295), (0, 4294967295), (0, 4294967295), (0, 4294967295)]) C0 rfl (en_six ⟨by omega, by omega⟩ ⟨by omega, by omega⟩ ⟨by omega, by omega⟩ ⟨by omega, by omega⟩ ⟨by omega, by omega⟩ ⟨by omega, by omega⟩) (List.all_eq_true.mp en_go_14_0 _ (List.mem_of_getElem? (i := 1) rfl))
theorem en_law_15 (C0 : en_LC p s m meth c b ex cA D 7 xs) : en_LT p l e s m below meth c b ex cA D (40, en_ls0, [.inl 15], en_t0, 413, 31071) := by
  have b1 := en_i32b (xs 1)
  have b2 := en_i32b (xs 2)
  have b3 := en_i32b (xs 3)
  have b4 := en_i32b (xs 4)
  have b5 := en_i32b (xs 5)
  have b6 := en_i32b (xs 6)
  by_cases h1 : (xs 1).toInt + 2147483648 ≤ 2147483647
  · exact en_law_box (B := [(0, 2147483647), (0, 4294967295), (0, 4294967295), (0, 4294967295), (0, 4294967295), (0, 4294967295)]) C0 rfl (en_six ⟨by omega, by omega⟩ ⟨by omega, by omega⟩ ⟨by omega, by omega⟩ ⟨by omega, by omega⟩ ⟨by omega, by omega⟩ ⟨by omega, by omega⟩) (List.all_eq_true.mp en_go_15_0 _ (List.mem_of_getElem? (i := 0) rfl))
  exact en_law_box (B := [(2147483648, 4294967295), (0, 4294967295), (0, 4294967295), (0, 4294967295), (0, 4294967295), (0, 4294967295)]) C0 rfl (en_six ⟨by omega, by omega⟩ ⟨by omega, by omega⟩ ⟨by omega, by omega⟩ ⟨by omega, by omega⟩ ⟨by omega, by omega⟩ ⟨by omega, by omega⟩) (List.all_eq_true.mp en_go_15_0 _ (List.mem_of_getElem? (i := 1) rfl))
theorem en_law_16 (C0 : en_LC p s m meth c b ex cA D 7 xs) : en_LT p l e s m below meth c b ex cA D (40, en_ls0, [.inl 16], en_t0, 413, 31071) := by
  have b1 := en_i32b (xs 1)
  have b2 := en_i32b (xs 2)
  have b3 := en_i32b (xs 3)
  have b4 := en_i32b (xs 4)
  have b5 := en_i32b (xs 5)
  have b6 := en_i32b (xs 6)
  by_cases h1 : (xs 1).toInt + 2147483648 ≤ 2147483647
  · exact en_law_box (B := [(0, 2147483647), (0, 4294967295), (0, 4294967295), (0, 4294967295), (0, 4294967295), (0, 4294967295)]) C0 rfl (en_six ⟨by omega, by omega⟩ ⟨by omega, by omega⟩ ⟨by omega, by omega⟩ ⟨by omega, by omega⟩ ⟨by omega, by omega⟩ ⟨by omega, by omega⟩) (List.all_eq_true.mp en_go_16_0 _ (List.mem_of_getElem? (i := 0) rfl))
  exact en_law_box (B := [(2147483648, 4294967295), (0, 4294967295), (0, 4294967295), (0, 4294967295), (0, 4294967295), (0, 4294967295)]) C0 rfl (en_six ⟨by omega, by omega⟩ ⟨by omega, by omega⟩ ⟨by omega, by omega⟩ ⟨by omega, by omega⟩ ⟨by omega, by omega⟩ ⟨by omega, by omega⟩) (List.all_eq_true.mp en_go_16_0 _ (List.mem_of_getElem? (i := 1) rfl))
theorem en_law_17 (C0 : en_LC p s m meth c b ex cA D 7 xs) : en_LT p l e s m below meth c b ex cA D (40, en_ls0, [.inl 17], en_t0, 413, 31071) := by
  have b1 := en_i32b (xs 1)
  have b2 := en_i32b (xs 2)
  have b3 := en_i32b (xs 3)
  have b4 := en_i32b (xs 4)
  have b5 := en_i32b (xs 5)
  have b6 := en_i32b (xs 6)
  by_cases h1 : (xs 1).toInt + 2147483648 ≤ 2147483647
  · exact en_law_box (B := [(0, 2147483647), (0, 4294967295), (0, 4294967295), (0, 4294967295), (0, 4294967295), (0, 4294967295)]) C0 rfl (en_six ⟨by omega, by omega⟩ ⟨by omega, by omega⟩ ⟨by omega, by omega⟩ ⟨by omega, by omega⟩ ⟨by omega, by omega⟩ ⟨by omega, by omega⟩) (List.all_eq_true.mp en_go_17_0 _ (List.mem_of_getElem? (i := 0) rfl))
  exact en_law_box (B := [(2147483648, 4294967295), (0, 4294967295), (0, 4294967295), (0, 4294967295), (0, 4294967295), (0, 4294967295)]) C0 rfl (en_six ⟨by omega, by omega⟩ ⟨by omega, by omega⟩ ⟨by omega, by omega⟩ ⟨by omega, by omega⟩ ⟨by omega, by omega⟩ ⟨by omega, by omega⟩) (List.all_eq_true.mp en_go_17_0 _ (List.mem_of_getElem? (i := 1) rfl))
theorem en_law_18 (C0 : en_LC p s m meth c b ex cA D 7 xs) : en_LT p l e s m below meth c b ex cA D (40, en_ls0, [.inl 18], en_t0, 413, 31071) := by
  have b1 := en_i32b (xs 1)
  have b2 := en_i32b (xs 2)
  have b3 := en_i32b (xs 3)
  have b4 := en_i32b (xs 4)
  have b5 := en_i32b (xs 5)
  have b6 := en_i32b (xs 6)
  exact en_law_box (B := [(0, 4294967295), (0, 4294967295), (0, 4294967295), (0, 4294967295), (0, 4294967295), (0, 4294967295)]) C0 rfl (en_six ⟨by omega, by omega⟩ ⟨by omega, by omega⟩ ⟨by omega, by omega⟩ ⟨by omega, by omega⟩ ⟨by omega, by omega⟩ ⟨by omega, by omega⟩) (List.all_eq_true.mp en_go_18_0 _ (List.mem_of_getElem? (i := 0) rfl))
theorem en_law_19 (C0 : en_LC p s m meth c b ex cA D 7 xs) : en_LT p l e s m below meth c b ex cA D (40, en_ls0, [.inl 19], en_t0, 413, 31071) := by
  have b1 := en_i32b (xs 1)
  have b2 := en_i32b (xs 2)
  have b3 := en_i32b (xs 3)
  have b4 := en_i32b (xs 4)
  have b5 := en_i32b (xs 5)
  have b6 := en_i32b (xs 6)
  exact en_law_box (B := [(0, 4294967295), (0, 4294967295), (0, 4294967295), (0, 4294967295), (0, 4294967295), (0, 4294967295)]) C0 rfl (en_six ⟨by omega, by omega⟩ ⟨by omega, by omega⟩ ⟨by omega, by omega⟩ ⟨by omega, by omega⟩ ⟨by omega, by omega⟩ ⟨by omega, by omega⟩) (List.all_eq_true.mp en_go_19_0 _ (List.mem_of_getElem? (i := 0) rfl))
theorem en_law_20 (C0 : en_LC p s m meth c b ex cA D 7 xs) : en_LT p l e s m below meth c b ex cA D (40, en_ls0, [.inl 20], en_t0, 413, 31071) := by
  have b1 := en_i32b (xs 1)
  have b2 := en_i32b (xs 2)
  have b3 := en_i32b (xs 3)
  have b4 := en_i32b (xs 4)
  have b5 := en_i32b (xs 5)
  have b6 := en_i32b (xs 6)
  by_cases h1 : (xs 1).toInt + 2147483648 ≤ 2147483647
  · exact en_law_box (B := [(0, 2147483647), (0, 4294967295), (0, 4294967295), (0, 4294967295), (0, 4294967295), (0, 4294967295)]) C0 rfl (en_six ⟨by omega, by omega⟩ ⟨by omega, by omega⟩ ⟨by omega, by omega⟩ ⟨by omega, by omega⟩ ⟨by omega, by omega⟩ ⟨by omega, by omega⟩) (List.all_eq_true.mp en_go_20_0 _ (List.mem_of_getElem? (i := 0) rfl))
  exact en_law_box (B := [(2147483648, 4294967295), (0, 4294967295), (0, 4294967295), (0, 4294967295), (0, 4294967295), (0, 4294967295)]) C0 rfl (en_six ⟨by omega, by omega⟩ ⟨by omega, by omega⟩ ⟨by omega, by omega⟩ ⟨by omega, by omega⟩ ⟨by omega, by omega⟩ ⟨by omega, by omega⟩) (List.all_eq_true.mp en_go_20_0 _ (List.mem_of_getElem? (i := 1) rfl))
theorem en_law_22 (C0 : en_LC p s m meth c b ex cA D 7 xs) : en_LT p l e s m below meth c b ex cA D (40, en_ls0, [.inl 22], en_t0, 413, 31071) := by
  have b1 := en_i32b (xs 1)
  have b2 := en_i32b (xs 2)
  have b3 := en_i32b (xs 3)
  have b4 := en_i32b (xs 4)
  have b5 := en_i32b (xs 5)
  have b6 := en_i32b (xs 6)
  by_cases h1 : (xs 1).toInt + 2147483648 ≤ 2147483647
  · exact en_law_box (B := [(0, 2147483647), (0, 4294967295), (0, 4294967295), (0, 4294967295), (0, 4294967295), (0, 4294967295)]) C0 rfl (en_six ⟨by omega, by omega⟩ ⟨by omega, by omega⟩ ⟨by omega, by omega⟩ ⟨by omega, by omega⟩ ⟨by omega, by omega⟩ ⟨by omega, by omega⟩) (List.all_eq_true.mp en_go_22_0 _ (List.mem_of_getElem? (i := 0) rfl))
  by_cases h2 : (xs 1).toInt + 2147483648 ≤ 2147483648
  · by_cases h3 : (xs 2).toInt + 2147483648 ≤ 2147483647
    · exact en_law_box (B := [(2147483648, 2147483648), (0, 2147483647), (0, 4294967295), (0, 4294967295), (0, 4294967295), (0, 4294967295)]) C0 rfl (en_six ⟨by omega, by omega⟩ ⟨by omega, by omega⟩ ⟨by omega, by omega⟩ ⟨by omega, by omega⟩ ⟨by omega, by omega⟩ ⟨by omega, by omega⟩) (List.all_eq_true.mp en_go_22_0 _ (List.mem_of_getElem? (i := 2) rfl))
    by_cases h4 : (xs 2).toInt + 2147483648 ≤ 2147483648
    · exact en_law_box (B := [(2147483648, 2147483648), (2147483648, 2147483648), (0, 4294967295), (0, 4294967295), (0, 4294967295), (0, 4294967295)]) C0 rfl (en_six ⟨by omega, by omega⟩ ⟨by omega, by omega⟩ ⟨by omega, by omega⟩ ⟨by omega, by omega⟩ ⟨by omega, by omega⟩ ⟨by omega, by omega⟩) (List.all_eq_true.mp en_go_22_0 _ (List.mem_of_getElem? (i := 4) rfl))
    by_cases h5 : (xs 2).toInt + 2147483648 ≤ 2147483649
    · exact en_law_box (B := [(2147483648, 2147483648), (2147483649, 2147483649), (0, 4294967295), (0, 4294967295), (0, 4294967295), (0, 4294967295)]) C0 rfl (en_six ⟨by omega, by omega⟩ ⟨by omega, by omega⟩ ⟨by omega, by omega⟩ ⟨by omega, by omega⟩ ⟨by omega, by omega⟩ ⟨by omega, by omega⟩) (List.all_eq_true.mp en_go_22_0 _ (List.mem_of_getElem? (i := 5) rfl))
    by_cases h6 : (xs 2).toInt + 2147483648 ≤ 2147483650
    · exact en_law_box (B := [(2147483648, 2147483648), (2147483650, 2147483650), (0, 4294967295), (0, 4294967295), (0, 4294967295), (0, 4294967295)]) C0 rfl (en_six ⟨by omega, by omega⟩ ⟨by omega, by omega⟩ ⟨by omega, by omega⟩ ⟨by omega, by omega⟩ ⟨by omega, by omega⟩ ⟨by omega, by omega⟩) (List.all_eq_true.mp en_go_22_0 _ (List.mem_of_getElem? (i := 6) rfl))
    by_cases h7 : (xs 2).toInt + 2147483648 ≤ 2147483651
    · exact en_law_box (B := [(2147483648, 2147483648), (2147483651, 2147483651), (0, 4294967295), (0, 4294967295), (0, 4294967295), (0, 4294967295)]) C0 rfl (en_six ⟨by omega, by omega⟩ ⟨by omega, by omega⟩ ⟨by omega, by omega⟩ ⟨by omega, by omega⟩ ⟨by omega, by omega⟩ ⟨by omega, by omega⟩) (List.all_eq_true.mp en_go_22_0 _ (List.mem_of_getElem? (i := 7) rfl))
    by_cases h8 : (xs 2).toInt + 2147483648 ≤ 2147483652
    · exact en_law_box (B := [(2147483648, 2147483648), (2147483652, 2147483652), (0, 4294967295), (0, 4294967295), (0, 4294967295), (0, 4294967295)]) C0 rfl (en_six ⟨by omega, by omega⟩ ⟨by omega, by omega⟩ ⟨by omega, by omega⟩ ⟨by omega, by omega⟩ ⟨by omega, by omega⟩ ⟨by omega, by omega⟩) (List.all_eq_true.mp en_go_22_1 _ (List.mem_of_getElem? (i := 0) rfl))
    by_cases h9 : (xs 2).toInt + 2147483648 ≤ 2147483653
    · exact en_law_box (B := [(2147483648, 2147483648), (2147483653, 2147483653), (0, 4294967295), (0, 4294967295), (0, 4294967295), (0, 4294967295)]) C0 rfl (en_six ⟨by omega, by omega⟩ ⟨by omega, by omega⟩ ⟨by omega, by omega⟩ ⟨by omega, by omega⟩ ⟨by omega, by omega⟩ ⟨by omega, by omega⟩) (List.all_eq_true.mp en_go_22_1 _ (List.mem_of_getElem? (i := 1) rfl))
    by_cases h10 : (xs 2).toInt + 2147483648 ≤ 2147483654
    · exact en_law_box (B := [(2147483648, 2147483648), (2147483654, 2147483654), (0, 4294967295), (0, 4294967295), (0, 4294967295), (0, 4294967295)]) C0 rfl (en_six ⟨by omega, by omega⟩ ⟨by omega, by omega⟩ ⟨by omega, by omega⟩ ⟨by omega, by omega⟩ ⟨by omega, by omega⟩ ⟨by omega, by omega⟩) (List.all_eq_true.mp en_go_22_1 _ (List.mem_of_getElem? (i := 2) rfl))
    by_cases h11 : (xs 2).toInt + 2147483648 ≤ 2147483655
    · exact en_law_box (B := [(2147483648, 2147483648), (2147483655, 2147483655), (0, 4294967295), (0, 4294967295), (0, 4294967295), (0, 4294967295)]) C0 rfl (en_six ⟨by omega, by omega⟩ ⟨by omega, by omega⟩ ⟨by omega, by omega⟩ ⟨by omega, by omega⟩ ⟨by omega, by omega⟩ ⟨by omega, by omega⟩) (List.all_eq_true.mp en_go_22_1 _ (List.mem_of_getElem? (i := 3) rfl))
    by_cases h12 : (xs 2).toInt + 2147483648 ≤ 2147483656
    · exact en_law_box (B := [(2147483648, 2147483648), (2147483656, 2147483656), (0, 4294967295), (0, 4294967295), (0, 4294967295), (0, 4294967295)]) C0 rfl (en_six ⟨by omega, by omega⟩ ⟨by omega, by omega⟩ ⟨by omega, by omega⟩ ⟨by omega, by omega⟩ ⟨by omega, by omega⟩ ⟨by omega, by omega⟩) (List.all_eq_true.mp en_go_22_1 _ (List.mem_of_getElem? (i := 4) rfl))
    by_cases h13 : (xs 2).toInt + 2147483648 ≤ 2147483657
    · exact en_law_box (B := [(2147483648, 2147483648), (2147483657, 2147483657), (0, 4294967295), (0, 4294967295), (0, 4294967295), (0, 4294967295)]) C0 rfl (en_six ⟨by omega, by omega⟩ ⟨by omega, by omega⟩ ⟨by omega, by omega⟩ ⟨by omega, by omega⟩ ⟨by omega, by omega⟩ ⟨by omega, by omega⟩) (List.all_eq_true.mp en_go_22_1 _ (List.mem_of_getElem? (i := 5) rfl))
    by_cases h14 : (xs 2).toInt + 2147483648 ≤ 2147483658
    · exact en_law_box (B := [(2147483648, 2147483648), (2147483658, 2147483658), (0, 4294967295), (0, 4294967295), (0, 4294967295), (0, 4294967295)]) C0 rfl (en_six ⟨by omega, by omega⟩ ⟨by omega, by omega⟩ ⟨by omega, by omega⟩ ⟨by omega, by omega⟩ ⟨by omega, by omega⟩ ⟨by omega, by omega⟩) (List.all_eq_true.mp en_go_22_1 _ (List.mem_of_getElem? (i := 6) rfl))
    by_cases h15 : (xs 2).toInt + 2147483648 ≤ 2147483659
    · exact en_law_box (B := [(2147483648, 2147483648), (2147483659, 2147483659), (0, 4294967295), (0, 4294967295), (0, 4294967295), (0, 4294967295)]) C0 rfl (en_six ⟨by omega, by omega⟩ ⟨by omega, by omega⟩ ⟨by omega, by omega⟩ ⟨by omega, by omega⟩ ⟨by omega, by omega⟩ ⟨by omega, by omega⟩) (List.all_eq_true.mp en_go_22_1 _ (List.mem_of_getElem? (i := 7) rfl))
    by_cases h16 : (xs 2).toInt + 2147483648 ≤ 2147483660
    · exact en_law_box (B := [(2147483648, 2147483648), (2147483660, 2147483660), (0, 4294967295), (0, 4294967295), (0, 4294967295), (0, 4294967295)]) C0 rfl (en_six ⟨by omega, by omega⟩ ⟨by omega, by omega⟩ ⟨by omega, by omega⟩ ⟨by omega, by omega⟩ ⟨by omega, by omega⟩ ⟨by omega, by omega⟩) (List.all_eq_true.mp en_go_22_2 _ (List.mem_of_getElem? (i := 0) rfl))
    by_cases h17 : (xs 2).toInt + 2147483648 ≤ 2147483661
    · exact en_law_box (B := [(2147483648, 2147483648), (2147483661, 2147483661), (0, 4294967295), (0, 4294967295), (0, 4294967295), (0, 4294967295)]) C0 rfl (en_six ⟨by omega, by omega⟩ ⟨by omega, by omega⟩ ⟨by omega, by omega⟩ ⟨by omega, by omega⟩ ⟨by omega, by omega⟩ ⟨by omega, by omega⟩) (List.all_eq_true.mp en_go_22_2 _ (List.mem_of_getElem? (i := 1) rfl))
    by_cases h18 : (xs 2).toInt + 2147483648 ≤ 2147483662
    · exact en_law_box (B := [(2147483648, 2147483648), (2147483662, 2147483662), (0, 4294967295), (0, 4294967295), (0, 4294967295), (0, 4294967295)]) C0 rfl (en_six ⟨by omega, by omega⟩ ⟨by omega, by omega⟩ ⟨by omega, by omega⟩ ⟨by omega, by omega⟩ ⟨by omega, by omega⟩ ⟨by omega, by omega⟩) (List.all_eq_true.mp en_go_22_2 _ (List.mem_of_getElem? (i := 2) rfl))
    by_cases h19 : (xs 2).toInt + 2147483648 ≤ 2147483663
    · exact en_law_box (B := [(2147483648, 2147483648), (2147483663, 2147483663), (0, 4294967295), (0, 4294967295), (0, 4294967295), (0, 4294967295)]) C0 rfl (en_six ⟨by omega, by omega⟩ ⟨by omega, by omega⟩ ⟨by omega, by omega⟩ ⟨by omega, by omega⟩ ⟨by omega, by omega⟩ ⟨by omega, by omega⟩) (List.all_eq_true.mp en_go_22_2 _ (List.mem_of_getElem? (i := 3) rfl))
    by_cases h20 : (xs 2).toInt + 2147483648 ≤ 2147483664
    · exact en_law_box (B := [(2147483648, 2147483648), (2147483664, 2147483664), (0, 4294967295), (0, 4294967295), (0, 4294967295), (0, 4294967295)]) C0 rfl (en_six ⟨by omega, by omega⟩ ⟨by omega, by omega⟩ ⟨by omega, by omega⟩ ⟨by omega, by omega⟩ ⟨by omega, by omega⟩ ⟨by omega, by omega⟩) (List.all_eq_true.mp en_go_22_2 _ (List.mem_of_getElem? (i := 4) rfl))
    by_cases h21 : (xs 2).toInt + 2147483648 ≤ 2147483665
    · exact en_law_box (B := [(2147483648, 2147483648), (2147483665, 2147483665), (0, 4294967295), (0, 4294967295), (0, 4294967295), (0, 4294967295)]) C0 rfl (en_six ⟨by omega, by omega⟩ ⟨by omega, by omega⟩ ⟨by omega, by omega⟩ ⟨by omega, by omega⟩ ⟨by omega, by omega⟩ ⟨by omega, by omega⟩) (List.all_eq_true.mp en_go_22_2 _ (List.mem_of_getElem? (i := 5) rfl))
    by_cases h22 : (xs 2).toInt + 2147483648 ≤ 2147483666
    · exact en_law_box (B := [(2147483648, 2147483648), (2147483666, 2147483666), (0, 4294967295), (0, 4294967295), (0, 4294967295), (0, 4294967295)]) C0 rfl (en_six ⟨by omega, by omega⟩ ⟨by omega, by omega⟩ ⟨by omega, by omega⟩ ⟨by omega, by omega⟩ ⟨by omega, by omega⟩ ⟨by omega, by omega⟩) (List.all_eq_true.mp en_go_22_2 _ (List.mem_of_getElem? (i := 6) rfl))
    by_cases h23 : (xs 2).toInt + 2147483648 ≤ 2147483667
    · exact en_law_box (B := [(2147483648, 2147483648), (2147483667, 2147483667), (0, 4294967295), (0, 4294967295), (0, 4294967295), (0, 4294967295)]) C0 rfl (en_six ⟨by omega, by omega⟩ ⟨by omega, by omega⟩ ⟨by omega, by omega⟩ ⟨by omega, by omega⟩ ⟨by omega, by omega⟩ ⟨by omega, by omega⟩) (List.all_eq_true.mp en_go_22_2 _ (List.mem_of_getElem? (i := 7) rfl))
    by_cases h24 : (xs 2).toInt + 2147483648 ≤ 2147483668
    · exact en_law_box (B := [(2147483648, 2147483648), (2147483668, 2147483668), (0, 4294967295), (0, 4294967295), (0, 4294967295), (0, 4294967295)]) C0 rfl (en_six ⟨by omega, by omega⟩ ⟨by omega, by omega⟩ ⟨by omega, by omega⟩ ⟨by omega, by omega⟩ ⟨by omega, by omega⟩ ⟨by omega, by omega⟩) (List.all_eq_true.mp en_go_22_3 _ (List.mem_of_getElem? (i := 0) rfl))
    by_cases h25 : (xs 2).toInt + 2147483648 ≤ 2147483669
    · exact en_law_box (B := [(2147483648, 2147483648), (2147483669, 2147483669), (0, 4294967295), (0, 4294967295), (0, 4294967295), (0, 4294967295)]) C0 rfl (en_six ⟨by omega, by omega⟩ ⟨by omega, by omega⟩ ⟨by omega, by omega⟩ ⟨by omega, by omega⟩ ⟨by omega, by omega⟩ ⟨by omega, by omega⟩) (List.all_eq_true.mp en_go_22_3 _ (List.mem_of_getElem? (i := 1) rfl))
    by_cases h26 : (xs 2).toInt + 2147483648 ≤ 2147483670
    · exact en_law_box (B := [(2147483648, 2147483648), (2147483670, 2147483670), (0, 4294967295), (0, 4294967295), (0, 4294967295), (0, 4294967295)]) C0 rfl (en_six ⟨by omega, by omega⟩ ⟨by omega, by omega⟩ ⟨by omega, by omega⟩ ⟨by omega, by omega⟩ ⟨by omega, by omega⟩ ⟨by omega, by omega⟩) (List.all_eq_true.mp en_go_22_3 _ (List.mem_of_getElem? (i := 2) rfl))
    by_cases h27 : (xs 2).toInt + 2147483648 ≤ 2147483671
    · exact en_law_box (B := [(2147483648, 2147483648), (2147483671, 2147483671), (0, 4294967295), (0, 4294967295), (0, 4294967295), (0, 4294967295)]) C0 rfl (en_six ⟨by omega, by omega⟩ ⟨by omega, by omega⟩ ⟨by omega, by omega⟩ ⟨by omega, by omega⟩ ⟨by omega, by omega⟩ ⟨by omega, by omega⟩) (List.all_eq_true.mp en_go_22_3 _ (List.mem_of_getElem? (i := 3) rfl))
    by_cases h28 : (xs 2).toInt + 2147483648 ≤ 2147483672
    · exact en_law_box (B := [(2147483648, 2147483648), (2147483672, 2147483672), (0, 4294967295), (0, 4294967295), (0, 4294967295), (0, 4294967295)]) C0 rfl (en_six ⟨by omega, by omega⟩ ⟨by omega, by omega⟩ ⟨by omega, by omega⟩ ⟨by omega, by omega⟩ ⟨by omega, by omega⟩ ⟨by omega, by omega⟩) (List.all_eq_true.mp en_go_22_3 _ (List.mem_of_getElem? (i := 4) rfl))
    by_cases h29 : (xs 2).toInt + 2147483648 ≤ 2147483673
    · exact en_law_box (B := [(2147483648, 2147483648), (2147483673, 2147483673), (0, 4294967295), (0, 4294967295), (0, 4294967295), (0, 4294967295)]) C0 rfl (en_six ⟨by omega, by omega⟩ ⟨by omega, by omega⟩ ⟨by omega, by omega⟩ ⟨by omega, by omega⟩ ⟨by omega, by omega⟩ ⟨by omega, by omega⟩) (List.all_eq_true.mp en_go_22_3 _ (List.mem_of_getElem? (i := 5) rfl))
    by_cases h30 : (xs 2).toInt + 2147483648 ≤ 2147483674
    · exact en_law_box (B := [(2147483648, 2147483648), (2147483674, 2147483674), (0, 4294967295), (0, 4294967295), (0, 4294967295), (0, 4294967295)]) C0 rfl (en_six ⟨by omega, by omega⟩ ⟨by omega, by omega⟩ ⟨by omega, by omega⟩ ⟨by omega, by omega⟩ ⟨by omega, by omega⟩ ⟨by omega, by omega⟩) (List.all_eq_true.mp en_go_22_3 _ (List.mem_of_getElem? (i := 6) rfl))
    by_cases h31 : (xs 2).toInt + 2147483648 ≤ 2147483675
    · exact en_law_box (B := [(2147483648, 2147483648), (2147483675, 2147483675), (0, 4294967295), (0, 4294967295), (0, 4294967295), (0, 4294967295)]) C0 rfl (en_six ⟨by omega, by omega⟩ ⟨by omega, by omega⟩ ⟨by omega, by omega⟩ ⟨by omega, by omega⟩ ⟨by omega, by omega⟩ ⟨by omega, by omega⟩) (List.all_eq_true.mp en_go_22_3 _ (List.mem_of_getElem? (i := 7) rfl))
    by_cases h32 : (xs 2).toInt + 2147483648 ≤ 2147483676
    · exact en_law_box (B := [(2147483648, 2147483648), (2147483676, 2147483676), (0, 4294967295), (0, 4294967295), (0, 4294967295), (0, 4294967295)]) C0 rfl (en_six ⟨by omega, by omega⟩ ⟨by omega, by omega⟩ ⟨by omega, by omega⟩ ⟨by omega, by omega⟩ ⟨by omega, by omega⟩ ⟨by omega, by omega⟩) (List.all_eq_true.mp en_go_22_4 _ (List.mem_of_getElem? (i := 0) rfl))
    by_cases h33 : (xs 2).toInt + 2147483648 ≤ 2147483677
    · exact en_law_box (B := [(2147483648, 2147483648), (2147483677, 2147483677), (0, 4294967295), (0, 4294967295), (0, 4294967295), (0, 4294967295)]) C0 rfl (en_six ⟨by omega, by omega⟩ ⟨by omega, by omega⟩ ⟨by omega, by omega⟩ ⟨by omega, by omega⟩ ⟨by omega, by omega⟩ ⟨by omega, by omega⟩) (List.all_eq_true.mp en_go_22_4 _ (List.mem_of_getElem? (i := 1) rfl))
    by_cases h34 : (xs 2).toInt + 2147483648 ≤ 2147483678
    · exact en_law_box (B := [(2147483648, 2147483648), (2147483678, 2147483678), (0, 4294967295), (0, 4294967295), (0, 4294967295), (0, 4294967295)]) C0 rfl (en_six ⟨by omega, by omega⟩ ⟨by omega, by omega⟩ ⟨by omega, by omega⟩ ⟨by omega, by omega⟩ ⟨by omega, by omega⟩ ⟨by omega, by omega⟩) (List.all_eq_true.mp en_go_22_4 _ (List.mem_of_getElem? (i := 2) rfl))
    by_cases h35 : (xs 2).toInt + 2147483648 ≤ 2147483679
    · exact en_law_box (B := [(2147483648, 2147483648), (2147483679, 2147483679), (0, 4294967295), (0, 4294967295), (0, 4294967295), (0, 4294967295)]) C0 rfl (en_six ⟨by omega, by omega⟩ ⟨by omega, by omega⟩ ⟨by omega, by omega⟩ ⟨by omega, by omega⟩ ⟨by omega, by omega⟩ ⟨by omega, by omega⟩) (List.all_eq_true.mp en_go_22_4 _ (List.mem_of_getElem? (i := 3) rfl))
    by_cases h36 : (xs 2).toInt + 2147483648 ≤ 2147483680
    · exact en_law_box (B := [(2147483648, 2147483648), (2147483680, 2147483680), (0, 4294967295), (0, 4294967295), (0, 4294967295), (0, 4294967295)]) C0 rfl (en_six ⟨by omega, by omega⟩ ⟨by omega, by omega⟩ ⟨by omega, by omega⟩ ⟨by omega, by omega⟩ ⟨by omega, by omega⟩ ⟨by omega, by omega⟩) (List.all_eq_true.mp en_go_22_4 _ (List.mem_of_getElem? (i := 4) rfl))
    by_cases h37 : (xs 2).toInt + 2147483648 ≤ 2147483681
    · exact en_law_box (B := [(2147483648, 2147483648), (2147483681, 2147483681), (0, 4294967295), (0, 4294967295), (0, 4294967295), (0, 4294967295)]) C0 rfl (en_six ⟨by omega, by omega⟩ ⟨by omega, by omega⟩ ⟨by omega, by omega⟩ ⟨by omega, by omega⟩ ⟨by omega, by omega⟩ ⟨by omega, by omega⟩) (List.all_eq_true.mp en_go_22_4 _ (List.mem_of_getElem? (i := 5) rfl))
    by_cases h38 : (xs 2).toInt + 2147483648 ≤ 2147483682
    · exact en_law_box (B := [(2147483648, 2147483648), (2147483682, 2147483682), (0, 4294967295), (0, 4294967295), (0, 4294967295), (0, 4294967295)]) C0 rfl (en_six ⟨by omega, by omega⟩ ⟨by omega, by omega⟩ ⟨by omega, by omega⟩ ⟨by omega, by omega⟩ ⟨by omega, by omega⟩ ⟨by omega, by omega⟩) (List.all_eq_true.mp en_go_22_4 _ (List.mem_of_getElem? (i := 6) rfl))
    by_cases h39 : (xs 2).toInt + 2147483648 ≤ 2147483683
    · exact en_law_box (B := [(2147483648, 2147483648), (2147483683, 2147483683), (0, 4294967295), (0, 4294967295), (0, 4294967295), (0, 4294967295)]) C0 rfl (en_six ⟨by omega, by omega⟩ ⟨by omega, by omega⟩ ⟨by omega, by omega⟩ ⟨by omega, by omega⟩ ⟨by omega, by omega⟩ ⟨by omega, by omega⟩) (List.all_eq_true.mp en_go_22_4 _ (List.mem_of_getElem? (i := 7) rfl))
    by_cases h40 : (xs 2).toInt + 2147483648 ≤ 2147483684
    · exact en_law_box (B := [(2147483648, 2147483648), (2147483684, 2147483684), (0, 4294967295), (0, 4294967295), (0, 4294967295), (0, 4294967295)]) C0 rfl (en_six ⟨by omega, by omega⟩ ⟨by omega, by omega⟩ ⟨by omega, by omega⟩ ⟨by omega, by omega⟩ ⟨by omega, by omega⟩ ⟨by omega, by omega⟩) (List.all_eq_true.mp en_go_22_5 _ (List.mem_of_getElem? (i := 0) rfl))
    by_cases h41 : (xs 2).toInt + 2147483648 ≤ 2147483685
    · exact en_law_box (B := [(2147483648, 2147483648), (2147483685, 2147483685), (0, 4294967295), (0, 4294967295), (0, 4294967295), (0, 4294967295)]) C0 rfl (en_six ⟨by omega, by omega⟩ ⟨by omega, by omega⟩ ⟨by omega, by omega⟩ ⟨by omega, by omega⟩ ⟨by omega, by omega⟩ ⟨by omega, by omega⟩) (List.all_eq_true.mp en_go_22_5 _ (List.mem_of_getElem? (i := 1) rfl))
    by_cases h42 : (xs 2).toInt + 2147483648 ≤ 2147483686
    · exact en_law_box (B := [(2147483648, 2147483648), (2147483686, 2147483686), (0, 4294967295), (0, 4294967295), (0, 4294967295), (0, 4294967295)]) C0 rfl (en_six ⟨by omega, by omega⟩ ⟨by omega, by omega⟩ ⟨by omega, by omega⟩ ⟨by omega, by omega⟩ ⟨by omega, by omega⟩ ⟨by omega, by omega⟩) (List.all_eq_true.mp en_go_22_5 _ (List.mem_of_getElem? (i := 2) rfl))
    by_cases h43 : (xs 2).toInt + 2147483648 ≤ 2147483687
    · exact en_law_box (B := [(2147483648, 2147483648), (2147483687, 2147483687), (0, 4294967295), (0, 4294967295), (0, 4294967295), (0, 4294967295)]) C0 rfl (en_six ⟨by omega, by omega⟩ ⟨by omega, by omega⟩ ⟨by omega, by omega⟩ ⟨by omega, by omega⟩ ⟨by omega, by omega⟩ ⟨by omega, by omega⟩) (List.all_eq_true.mp en_go_22_5 _ (List.mem_of_getElem? (i := 3) rfl))
    by_cases h44 : (xs 2).toInt + 2147483648 ≤ 2147483688
    · exact en_law_box (B := [(2147483648, 2147483648), (2147483688, 2147483688), (0, 4294967295), (0, 4294967295), (0, 4294967295), (0, 4294967295)]) C0 rfl (en_six ⟨by omega, by omega⟩ ⟨by omega, by omega⟩ ⟨by omega, by omega⟩ ⟨by omega, by omega⟩ ⟨by omega, by omega⟩ ⟨by omega, by omega⟩) (List.all_eq_true.mp en_go_22_5 _ (List.mem_of_getElem? (i := 4) rfl))
    exact en_law_box (B := [(2147483648, 2147483648), (2147483689, 4294967295), (0, 4294967295), (0, 4294967295), (0, 4294967295), (0, 4294967295)]) C0 rfl (en_six ⟨by omega, by omega⟩ ⟨by omega, by omega⟩ ⟨by omega, by omega⟩ ⟨by omega, by omega⟩ ⟨by omega, by omega⟩ ⟨by omega, by omega⟩) (List.all_eq_true.mp en_go_22_0 _ (List.mem_of_getElem? (i := 3) rfl))
  exact en_law_box (B := [(2147483649, 4294967295), (0, 4294967295), (0, 4294967295), (0, 4294967295), (0, 4294967295), (0, 4294967295)]) C0 rfl (en_six ⟨by omega, by omega⟩ ⟨by omega, by omega⟩ ⟨by omega, by omega⟩ ⟨by omega, by omega⟩ ⟨by omega, by omega⟩ ⟨by omega, by omega⟩) (List.all_eq_true.mp en_go_22_0 _ (List.mem_of_getElem? (i := 1) rfl))
theorem en_law_23 (C0 : en_LC p s m meth c b ex cA D 7 xs) : en_LT p l e s m below meth c b ex cA D (40, en_ls0, [.inl 23], en_t0, 413, 31071) := by
  have b1 := en_i32b (xs 1)
  have b2 := en_i32b (xs 2)
  have b3 := en_i32b (xs 3)
  have b4 := en_i32b (xs 4)
  have b5 := en_i32b (xs 5)
  have b6 := en_i32b (xs 6)
  by_cases h1 : (xs 1).toInt + 2147483648 ≤ 2147483647
  · exact en_law_box (B := [(0, 2147483647), (0, 4294967295), (0, 4294967295), (0, 4294967295), (0, 4294967295), (0, 4294967295)]) C0 rfl (en_six ⟨by omega, by omega⟩ ⟨by omega, by omega⟩ ⟨by omega, by omega⟩ ⟨by omega, by omega⟩ ⟨by omega, by omega⟩ ⟨by omega, by omega⟩) (List.all_eq_true.mp en_go_23_0 _ (List.mem_of_getElem? (i := 0) rfl))
  exact en_law_box (B := [(2147483648, 4294967295), (0, 4294967295), (0, 4294967295), (0, 4294967295), (0, 4294967295), (0, 4294967295)]) C0 rfl (en_six ⟨by omega, by omega⟩ ⟨by omega, by omega⟩ ⟨by omega, by omega⟩ ⟨by omega, by omega⟩ ⟨by omega, by omega⟩ ⟨by omega, by omega⟩) (List.all_eq_true.mp en_go_23_0 _ (List.mem_of_getElem? (i := 1) rfl))
theorem en_law_25 (C0 : en_LC p s m meth c b ex cA D 7 xs) : en_LT p l e s m below meth c b ex cA D (40, en_ls0, [.inl 25], en_t0, 413, 31071) := by
  have b1 := en_i32b (xs 1)
  have b2 := en_i32b (xs 2)
  have b3 := en_i32b (xs 3)
  have b4 := en_i32b (xs 4)
  have b5 := en_i32b (xs 5)
  have b6 := en_i32b (xs 6)
  exact en_law_box (B := [(0, 4294967295), (0, 4294967295), (0, 4294967295), (0, 4294967295), (0, 4294967295), (0, 4294967295)]) C0 rfl (en_six ⟨by omega, by omega⟩ ⟨by omega, by omega⟩ ⟨by omega, by omega⟩ ⟨by omega, by omega⟩ ⟨by omega, by omega⟩ ⟨by omega, by omega⟩) (List.all_eq_true.mp en_go_25_0 _ (List.mem_of_getElem? (i := 0) rfl))
theorem en_law_26 (C0 : en_LC p s m meth c b ex cA D 7 xs) : en_LT p l e s m below meth c b ex cA D (40, en_ls0, [.inl 26], en_t0, 413, 31071) := by
  have b1 := en_i32b (xs 1)
  have b2 := en_i32b (xs 2)
  have b3 := en_i32b (xs 3)
  have b4 := en_i32b (xs 4)
  have b5 := en_i32b (xs 5)
  have b6 := en_i32b (xs 6)
  by_cases h1 : (xs 1).toInt + 2147483648 ≤ 2147483647
  · exact en_law_box (B := [(0, 2147483647), (0, 4294967295), (0, 4294967295), (0, 4294967295), (0, 4294967295), (0, 4294967295)]) C0 rfl (en_six ⟨by omega, by omega⟩ ⟨by omega, by omega⟩ ⟨by omega, by omega⟩ ⟨by omega, by omega⟩ ⟨by omega, by omega⟩ ⟨by omega, by omega⟩) (List.all_eq_true.mp en_go_26_0 _ (List.mem_of_getElem? (i := 0) rfl))
  by_cases h2 : (xs 1).toInt + 2147483648 ≤ 2147483648
  · exact en_law_box (B := [(2147483648, 2147483648), (0, 4294967295), (0, 4294967295), (0, 4294967295), (0, 4294967295), (0, 4294967295)]) C0 rfl (en_six ⟨by omega, by omega⟩ ⟨by omega, by omega⟩ ⟨by omega, by omega⟩ ⟨by omega, by omega⟩ ⟨by omega, by omega⟩ ⟨by omega, by omega⟩) (List.all_eq_true.mp en_go_26_0 _ (List.mem_of_getElem? (i := 2) rfl))
  by_cases h3 : (xs 1).toInt + 2147483648 ≤ 2147483649
  · exact en_law_box (B := [(2147483649, 2147483649), (0, 4294967295), (0, 4294967295), (0, 4294967295), (0, 4294967295), (0, 4294967295)]) C0 rfl (en_six ⟨by omega, by omega⟩ ⟨by omega, by omega⟩ ⟨by omega, by omega⟩ ⟨by omega, by omega⟩ ⟨by omega, by omega⟩ ⟨by omega, by omega⟩) (List.all_eq_true.mp en_go_26_0 _ (List.mem_of_getElem? (i := 3) rfl))
  exact en_law_box (B := [(2147483650, 4294967295), (0, 4294967295), (0, 4294967295), (0, 4294967295), (0, 4294967295), (0, 4294967295)]) C0 rfl (en_six ⟨by omega, by omega⟩ ⟨by omega, by omega⟩ ⟨by omega, by omega⟩ ⟨by omega, by omega⟩ ⟨by omega, by omega⟩ ⟨by omega, by omega⟩) (List.all_eq_true.mp en_go_26_0 _ (List.mem_of_getElem? (i := 1) rfl))
theorem en_law_28 (C0 : en_LC p s m meth c b ex cA D 7 xs) : en_LT p l e s m below meth c b ex cA D (40, en_ls0, [.inl 28], en_t0, 413, 31071) := by
  have b1 := en_i32b (xs 1)
  have b2 := en_i32b (xs 2)
  have b3 := en_i32b (xs 3)
  have b4 := en_i32b (xs 4)
  have b5 := en_i32b (xs 5)
  have b6 := en_i32b (xs 6)
  by_cases h1 : (xs 1).toInt + 2147483648 ≤ 2147483647
  · by_cases h2 : (xs 2).toInt + 2147483648 ≤ 2147483647
    · exact en_law_box (B := [(0, 2147483647), (0, 2147483647), (0, 4294967295), (0, 4294967295), (0, 4294967295), (0, 4294967295)]) C0 rfl (en_six ⟨by omega, by omega⟩ ⟨by omega, by omega⟩ ⟨by omega, by omega⟩ ⟨by omega, by omega⟩ ⟨by omega, by omega⟩ ⟨by omega, by omega⟩) (List.all_eq_true.mp en_go_28_0 _ (List.mem_of_getElem? (i := 1) rfl))
    by_cases h3 : (xs 2).toInt + 2147483648 ≤ 2147483648
    · exact en_law_box (B := [(0, 2147483647), (2147483648, 2147483648), (0, 4294967295), (0, 4294967295), (0, 4294967295), (0, 4294967295)]) C0 rfl (en_six ⟨by omega, by omega⟩ ⟨by omega, by omega⟩ ⟨by omega, by omega⟩ ⟨by omega, by omega⟩ ⟨by omega, by omega⟩ ⟨by omega, by omega⟩) (List.all_eq_true.mp en_go_28_0 _ (List.mem_of_getElem? (i := 0) rfl))
    exact en_law_box (B := [(0, 2147483647), (2147483649, 4294967295), (0, 4294967295), (0, 4294967295), (0, 4294967295), (0, 4294967295)]) C0 rfl (en_six ⟨by omega, by omega⟩ ⟨by omega, by omega⟩ ⟨by omega, by omega⟩ ⟨by omega, by omega⟩ ⟨by omega, by omega⟩ ⟨by omega, by omega⟩) (List.all_eq_true.mp en_go_28_0 _ (List.mem_of_getElem? (i := 2) rfl))
  by_cases h5 : (xs 1).toInt + 2147483648 ≤ 2147483648
  · by_cases h6 : (xs 2).toInt + 2147483648 ≤ 2147483647
    · exact en_law_box (B := [(2147483648, 2147483648), (0, 2147483647), (0, 4294967295), (0, 4294967295), (0, 4294967295), (0, 4294967295)]) C0 rfl (en_six ⟨by omega, by omega⟩ ⟨by omega, by omega⟩ ⟨by omega, by omega⟩ ⟨by omega, by omega⟩ ⟨by omega, by omega⟩ ⟨by omega, by omega⟩) (List.all_eq_true.mp en_go_28_1 _ (List.mem_of_getElem? (i := 1) rfl))
    by_cases h7 : (xs 2).toInt + 2147483648 ≤ 2147483648
    · exact en_law_box (B := [(2147483648, 2147483648), (2147483648, 2147483648), (0, 4294967295), (0, 4294967295), (0, 4294967295), (0, 4294967295)]) C0 rfl (en_six ⟨by omega, by omega⟩ ⟨by omega, by omega⟩ ⟨by omega, by omega⟩ ⟨by omega, by omega⟩ ⟨by omega, by omega⟩ ⟨by omega, by omega⟩) (List.all_eq_true.mp en_go_28_1 _ (List.mem_of_getElem? (i := 0) rfl))
    exact en_law_box (B := [(2147483648, 2147483648), (2147483649, 4294967295), (0, 4294967295), (0, 4294967295), (0, 4294967295), (0, 4294967295)]) C0 rfl (en_six ⟨by omega, by omega⟩ ⟨by omega, by omega⟩ ⟨by omega, by omega⟩ ⟨by omega, by omega⟩ ⟨by omega, by omega⟩ ⟨by omega, by omega⟩) (List.all_eq_true.mp en_go_28_1 _ (List.mem_of_getElem? (i := 2) rfl))
  by_cases h9 : (xs 1).toInt + 2147483648 ≤ 2147483649
  · by_cases h10 : (xs 2).toInt + 2147483648 ≤ 2147483647
    · exact en_law_box (B := [(2147483649, 2147483649), (0, 2147483647), (0, 4294967295), (0, 4294967295), (0, 4294967295), (0, 4294967295)]) C0 rfl (en_six ⟨by omega, by omega⟩ ⟨by omega, by omega⟩ ⟨by omega, by omega⟩ ⟨by omega, by omega⟩ ⟨by omega, by omega⟩ ⟨by omega, by omega⟩) (List.all_eq_true.mp en_go_28_1 _ (List.mem_of_getElem? (i := 4) rfl))
    by_cases h11 : (xs 2).toInt + 2147483648 ≤ 2147483648
    · exact en_law_box (B := [(2147483649, 2147483649), (2147483648, 2147483648), (0, 4294967295), (0, 4294967295), (0, 4294967295), (0, 4294967295)]) C0 rfl (en_six ⟨by omega, by omega⟩ ⟨by omega, by omega⟩ ⟨by omega, by omega⟩ ⟨by omega, by omega⟩ ⟨by omega, by omega⟩ ⟨by omega, by omega⟩) (List.all_eq_true.mp en_go_28_1 _ (List.mem_of_getElem? (i := 3) rfl))
    exact en_law_box (B := [(2147483649, 2147483649), (2147483649, 4294967295), (0, 4294967295), (0, 4294967295), (0, 4294967295), (0, 4294967295)]) C0 rfl (en_six ⟨by omega, by omega⟩ ⟨by omega, by omega⟩ ⟨by omega, by omega⟩ ⟨by omega, by omega⟩ ⟨by omega, by omega⟩ ⟨by omega, by omega⟩) (List.all_eq_true.mp en_go_28_1 _ (List.mem_of_getElem? (i := 5) rfl))
  by_cases h13 : (xs 1).toInt + 2147483648 ≤ 2147483650
  · by_cases h14 : (xs 2).toInt + 2147483648 ≤ 2147483647
    · exact en_law_box (B := [(2147483650, 2147483650), (0, 2147483647), (0, 4294967295), (0, 4294967295), (0, 4294967295), (0, 4294967295)]) C0 rfl (en_six ⟨by omega, by omega⟩ ⟨by omega, by omega⟩ ⟨by omega, by omega⟩ ⟨by omega, by omega⟩ ⟨by omega, by omega⟩ ⟨by omega, by omega⟩) (List.all_eq_true.mp en_go_28_2 _ (List.mem_of_getElem? (i := 1) rfl))
    by_cases h15 : (xs 2).toInt + 2147483648 ≤ 2147483648
    · exact en_law_box (B := [(2147483650, 2147483650), (2147483648, 2147483648), (0, 4294967295), (0, 4294967295), (0, 4294967295), (0, 4294967295)]) C0 rfl (en_six ⟨by omega, by omega⟩ ⟨by omega, by omega⟩ ⟨by omega, by omega⟩ ⟨by omega, by omega⟩ ⟨by omega, by omega⟩ ⟨by omega, by omega⟩) (List.all_eq_true.mp en_go_28_2 _ (List.mem_of_getElem? (i := 0) rfl))
    exact en_law_box (B := [(2147483650, 2147483650), (2147483649, 4294967295), (0, 4294967295), (0, 4294967295), (0, 4294967295), (0, 4294967295)]) C0 rfl (en_six ⟨by omega, by omega⟩ ⟨by omega, by omega⟩ ⟨by omega, by omega⟩ ⟨by omega, by omega⟩ ⟨by omega, by omega⟩ ⟨by omega, by omega⟩) (List.all_eq_true.mp en_go_28_2 _ (List.mem_of_getElem? (i := 2) rfl))
  by_cases h17 : (xs 1).toInt + 2147483648 ≤ 2147483651
  · by_cases h18 : (xs 2).toInt + 2147483648 ≤ 2147483647
    · exact en_law_box (B := [(2147483651, 2147483651), (0, 2147483647), (0, 4294967295), (0, 4294967295), (0, 4294967295), (0, 4294967295)]) C0 rfl (en_six ⟨by omega, by omega⟩ ⟨by omega, by omega⟩ ⟨by omega, by omega⟩ ⟨by omega, by omega⟩ ⟨by omega, by omega⟩ ⟨by omega, by omega⟩) (List.all_eq_true.mp en_go_28_2 _ (List.mem_of_getElem? (i := 4) rfl))
    by_cases h19 : (xs 2).toInt + 2147483648 ≤ 2147483648
    · exact en_law_box (B := [(2147483651, 2147483651), (2147483648, 2147483648), (0, 4294967295), (0, 4294967295), (0, 4294967295), (0, 4294967295)]) C0 rfl (en_six ⟨by omega, by omega⟩ ⟨by omega, by omega⟩ ⟨by omega, by omega⟩ ⟨by omega, by omega⟩ ⟨by omega, by omega⟩ ⟨by omega, by omega⟩) (List.all_eq_true.mp en_go_28_2 _ (List.mem_of_getElem? (i := 3) rfl))
    exact en_law_box (B := [(2147483651, 2147483651), (2147483649, 4294967295), (0, 4294967295), (0, 4294967295), (0, 4294967295), (0, 4294967295)]) C0 rfl (en_six ⟨by omega, by omega⟩ ⟨by omega, by omega⟩ ⟨by omega, by omega⟩ ⟨by omega, by omega⟩ ⟨by omega, by omega⟩ ⟨by omega, by omega⟩) (List.all_eq_true.mp en_go_28_2 _ (List.mem_of_getElem? (i := 5) rfl))
  by_cases h22 : (xs 2).toInt + 2147483648 ≤ 2147483647
  · exact en_law_box (B := [(2147483652, 4294967295), (0, 2147483647), (0, 4294967295), (0, 4294967295), (0, 4294967295), (0, 4294967295)]) C0 rfl (en_six ⟨by omega, by omega⟩ ⟨by omega, by omega⟩ ⟨by omega, by omega⟩ ⟨by omega, by omega⟩ ⟨by omega, by omega⟩ ⟨by omega, by omega⟩) (List.all_eq_true.mp en_go_28_0 _ (List.mem_of_getElem? (i := 4) rfl))
  by_cases h23 : (xs 2).toInt + 2147483648 ≤ 2147483648
  · exact en_law_box (B := [(2147483652, 4294967295), (2147483648, 2147483648), (0, 4294967295), (0, 4294967295), (0, 4294967295), (0, 4294967295)]) C0 rfl (en_six ⟨by omega, by omega⟩ ⟨by omega, by omega⟩ ⟨by omega, by omega⟩ ⟨by omega, by omega⟩ ⟨by omega, by omega⟩ ⟨by omega, by omega⟩) (List.all_eq_true.mp en_go_28_0 _ (List.mem_of_getElem? (i := 3) rfl))
  exact en_law_box (B := [(2147483652, 4294967295), (2147483649, 4294967295), (0, 4294967295), (0, 4294967295), (0, 4294967295), (0, 4294967295)]) C0 rfl (en_six ⟨by omega, by omega⟩ ⟨by omega, by omega⟩ ⟨by omega, by omega⟩ ⟨by omega, by omega⟩ ⟨by omega, by omega⟩ ⟨by omega, by omega⟩) (List.all_eq_true.mp en_go_28_0 _ (List.mem_of_getElem? (i := 5) rfl))
theorem en_law_29 (C0 : en_LC p s m meth c b ex cA D 7 xs) : en_LT p l e s m below meth c b ex cA D (40, en_ls0, [.inl 29], en_t0, 413, 31071) := by
  have b1 := en_i32b (xs 1)
  have b2 := en_i32b (xs 2)
  have b3 := en_i32b (xs 3)
  have b4 := en_i32b (xs 4)
  have b5 := en_i32b (xs 5)
  have b6 := en_i32b (xs 6)
  by_cases h1 : (xs 1).toInt + 2147483648 ≤ 2147483647
  · exact en_law_box (B := [(0, 2147483647), (0, 4294967295), (0, 4294967295), (0, 4294967295), (0, 4294967295), (0, 4294967295)]) C0 rfl (en_six ⟨by omega, by omega⟩ ⟨by omega, by omega⟩ ⟨by omega, by omega⟩ ⟨by omega, by omega⟩ ⟨by omega, by omega⟩ ⟨by omega, by omega⟩) (List.all_eq_true.mp en_go_29_0 _ (List.mem_of_getElem? (i := 0) rfl))
  by_cases h2 : (xs 1).toInt + 2147483648 ≤ 2147483648
  · exact en_law_box (B := [(2147483648, 2147483648), (0, 4294967295), (0, 4294967295), (0, 4294967295), (0, 4294967295), (0, 4294967295)]) C0 rfl (en_six ⟨by omega, by omega⟩ ⟨by omega, by omega⟩ ⟨by omega, by omega⟩ ⟨by omega, by omega⟩ ⟨by omega, by omega⟩ ⟨by omega, by omega⟩) (List.all_eq_true.mp en_go_29_0 _ (List.mem_of_getElem? (i := 2) rfl))
  by_cases h3 : (xs 1).toInt + 2147483648 ≤ 2147483649
  · exact en_law_box (B := [(2147483649, 2147483649), (0, 4294967295), (0, 4294967295), (0, 4294967295), (0, 4294967295), (0, 4294967295)]) C0 rfl (en_six ⟨by omega, by omega⟩ ⟨by omega, by omega⟩ ⟨by omega, by omega⟩ ⟨by omega, by omega⟩ ⟨by omega, by omega⟩ ⟨by omega, by omega⟩) (List.all_eq_true.mp en_go_29_0 _ (List.mem_of_getElem? (i := 3) rfl))
  by_cases h4 : (xs 1).toInt + 2147483648 ≤ 2147483650
  · exact en_law_box (B := [(2147483650, 2147483650), (0, 4294967295), (0, 4294967295), (0, 4294967295), (0, 4294967295), (0, 4294967295)]) C0 rfl (en_six ⟨by omega, by omega⟩ ⟨by omega, by omega⟩ ⟨by omega, by omega⟩ ⟨by omega, by omega⟩ ⟨by omega, by omega⟩ ⟨by omega, by omega⟩) (List.all_eq_true.mp en_go_29_0 _ (List.mem_of_getElem? (i := 4) rfl))
  by_cases h5 : (xs 1).toInt + 2147483648 ≤ 2147483651
  · exact en_law_box (B := [(2147483651, 2147483651), (0, 4294967295), (0, 4294967295), (0, 4294967295), (0, 4294967295), (0, 4294967295)]) C0 rfl (en_six ⟨by omega, by omega⟩ ⟨by omega, by omega⟩ ⟨by omega, by omega⟩ ⟨by omega, by omega⟩ ⟨by omega, by omega⟩ ⟨by omega, by omega⟩) (List.all_eq_true.mp en_go_29_0 _ (List.mem_of_getElem? (i := 5) rfl))
  by_cases h6 : (xs 1).toInt + 2147483648 ≤ 2147483652
  · exact en_law_box (B := [(2147483652, 2147483652), (0, 4294967295), (0, 4294967295), (0, 4294967295), (0, 4294967295), (0, 4294967295)]) C0 rfl (en_six ⟨by omega, by omega⟩ ⟨by omega, by omega⟩ ⟨by omega, by omega⟩ ⟨by omega, by omega⟩ ⟨by omega, by omega⟩ ⟨by omega, by omega⟩) (List.all_eq_true.mp en_go_29_1 _ (List.mem_of_getElem? (i := 0) rfl))
  by_cases h7 : (xs 1).toInt + 2147483648 ≤ 2147483653
  · exact en_law_box (B := [(2147483653, 2147483653), (0, 4294967295), (0, 4294967295), (0, 4294967295), (0, 4294967295), (0, 4294967295)]) C0 rfl (en_six ⟨by omega, by omega⟩ ⟨by omega, by omega⟩ ⟨by omega, by omega⟩ ⟨by omega, by omega⟩ ⟨by omega, by omega⟩ ⟨by omega, by omega⟩) (List.all_eq_true.mp en_go_29_1 _ (List.mem_of_getElem? (i := 1) rfl))
  by_cases h8 : (xs 1).toInt + 2147483648 ≤ 2147483654
  · exact en_law_box (B := [(2147483654, 2147483654), (0, 4294967295), (0, 4294967295), (0, 4294967295), (0, 4294967295), (0, 4294967295)]) C0 rfl (en_six ⟨by omega, by omega⟩ ⟨by omega, by omega⟩ ⟨by omega, by omega⟩ ⟨by omega, by omega⟩ ⟨by omega, by omega⟩ ⟨by omega, by omega⟩) (List.all_eq_true.mp en_go_29_1 _ (List.mem_of_getElem? (i := 2) rfl))
  by_cases h9 : (xs 1).toInt + 2147483648 ≤ 2147483655
  · exact en_law_box (B := [(2147483655, 2147483655), (0, 4294967295), (0, 4294967295), (0, 4294967295), (0, 4294967295), (0, 4294967295)]) C0 rfl (en_six ⟨by omega, by omega⟩ ⟨by omega, by omega⟩ ⟨by omega, by omega⟩ ⟨by omega, by omega⟩ ⟨by omega, by omega⟩ ⟨by omega, by omega⟩) (List.all_eq_true.mp en_go_29_1 _ (List.mem_of_getElem? (i := 3) rfl))
  by_cases h10 : (xs 1).toInt + 2147483648 ≤ 2147483656
  · exact en_law_box (B := [(2147483656, 2147483656), (0, 4294967295), (0, 4294967295), (0, 4294967295), (0, 4294967295), (0, 4294967295)]) C0 rfl (en_six ⟨by omega, by omega⟩ ⟨by omega, by omega⟩ ⟨by omega, by omega⟩ ⟨by omega, by omega⟩ ⟨by omega, by omega⟩ ⟨by omega, by omega⟩) (List.all_eq_true.mp en_go_29_1 _ (List.mem_of_getElem? (i := 4) rfl))
  by_cases h11 : (xs 1).toInt + 2147483648 ≤ 2147483657
  · exact en_law_box (B := [(2147483657, 2147483657), (0, 4294967295), (0, 4294967295), (0, 4294967295), (0, 4294967295), (0, 4294967295)]) C0 rfl (en_six ⟨by omega, by omega⟩ ⟨by omega, by omega⟩ ⟨by omega, by omega⟩ ⟨by omega, by omega⟩ ⟨by omega, by omega⟩ ⟨by omega, by omega⟩) (List.all_eq_true.mp en_go_29_1 _ (List.mem_of_getElem? (i := 5) rfl))
  by_cases h12 : (xs 1).toInt + 2147483648 ≤ 2147483658
  · exact en_law_box (B := [(2147483658, 2147483658), (0, 4294967295), (0, 4294967295), (0, 4294967295), (0, 4294967295), (0, 4294967295)]) C0 rfl (en_six ⟨by omega, by omega⟩ ⟨by omega, by omega⟩ ⟨by omega, by omega⟩ ⟨by omega, by omega⟩ ⟨by omega, by omega⟩ ⟨by omega, by omega⟩) (List.all_eq_true.mp en_go_29_2 _ (List.mem_of_getElem? (i := 0) rfl))
  by_cases h13 : (xs 1).toInt + 2147483648 ≤ 2147483659
  · exact en_law_box (B := [(2147483659, 2147483659), (0, 4294967295), (0, 4294967295), (0, 4294967295), (0, 4294967295), (0, 4294967295)]) C0 rfl (en_six ⟨by omega, by omega⟩ ⟨by omega, by omega⟩ ⟨by omega, by omega⟩ ⟨by omega, by omega⟩ ⟨by omega, by omega⟩ ⟨by omega, by omega⟩) (List.all_eq_true.mp en_go_29_2 _ (List.mem_of_getElem? (i := 1) rfl))
  by_cases h14 : (xs 1).toInt + 2147483648 ≤ 2147483660
  · exact en_law_box (B := [(2147483660, 2147483660), (0, 4294967295), (0, 4294967295), (0, 4294967295), (0, 4294967295), (0, 4294967295)]) C0 rfl (en_six ⟨by omega, by omega⟩ ⟨by omega, by omega⟩ ⟨by omega, by omega⟩ ⟨by omega, by omega⟩ ⟨by omega, by omega⟩ ⟨by omega, by omega⟩) (List.all_eq_true.mp en_go_29_2 _ (List.mem_of_getElem? (i := 2) rfl))
  exact en_law_box (B := [(2147483661, 4294967295), (0, 4294967295), (0, 4294967295), (0, 4294967295), (0, 4294967295), (0, 4294967295)]) C0 rfl (en_six ⟨by omega, by omega⟩ ⟨by omega, by omega⟩ ⟨by omega, by omega⟩ ⟨by omega, by omega⟩ ⟨by omega, by omega⟩ ⟨by omega, by omega⟩) (List.all_eq_true.mp en_go_29_0 _ (List.mem_of_getElem? (i := 1) rfl))
theorem en_law_30 (C0 : en_LC p s m meth c b ex cA D 7 xs) : en_LT p l e s m below meth c b ex cA D (40, en_ls0, [.inl 30], en_t0, 413, 31071) := by
  have b1 := en_i32b (xs 1)
  have b2 := en_i32b (xs 2)
  have b3 := en_i32b (xs 3)
  have b4 := en_i32b (xs 4)
  have b5 := en_i32b (xs 5)
  have b6 := en_i32b (xs 6)
  exact en_law_box (B := [(0, 4294967295), (0, 4294967295), (0, 4294967295), (0, 4294967295), (0, 4294967295), (0, 4294967295)]) C0 rfl (en_six ⟨by omega, by omega⟩ ⟨by omega, by omega⟩ ⟨by omega, by omega⟩ ⟨by omega, by omega⟩ ⟨by omega, by omega⟩ ⟨by omega, by omega⟩) (List.all_eq_true.mp en_go_30_0 _ (List.mem_of_getElem? (i := 0) rfl))
theorem en_law_31 (C0 : en_LC p s m meth c b ex cA D 7 xs) : en_LT p l e s m below meth c b ex cA D (40, en_ls0, [.inl 31], en_t0, 413, 31071) := by
  have b1 := en_i32b (xs 1)
  have b2 := en_i32b (xs 2)
  have b3 := en_i32b (xs 3)
  have b4 := en_i32b (xs 4)
  have b5 := en_i32b (xs 5)
  have b6 := en_i32b (xs 6)
  exact en_law_box (B := [(0, 4294967295), (0, 4294967295), (0, 4294967295), (0, 4294967295), (0, 4294967295), (0, 4294967295)]) C0 rfl (en_six ⟨by omega, by omega⟩ ⟨by omega, by omega⟩ ⟨by omega, by omega⟩ ⟨by omega, by omega⟩ ⟨by omega, by omega⟩ ⟨by omega, by omega⟩) (List.all_eq_true.mp en_go_31_0 _ (List.mem_of_getElem? (i := 0) rfl))
end ENN
