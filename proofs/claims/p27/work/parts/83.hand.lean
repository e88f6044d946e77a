section PKB
variable {oc : Option (List en_V)} {f : en_F} {code : Nat → Option en_I} {stop : Nat → Bool} {P : en_O → Prop}
variable {pc nx : Nat} {ls : en_L} {st : List en_V} {t : en_H} {n sl : Nat}
theorem gx_infull {x : Nat} (hx : x < 4294967296) : ai_in (0, 4294967295) x := ⟨hx, Nat.zero_le _, by unfold ai_off; show _ ≤ 4294967295; omega⟩
theorem gx_2any {c : ClassFile.Cond} {j : Int} {x1 x2 x y : Nat} (hc : code pc = some (.if_icmp c j, nx, x1, x2)) (hx : x < 4294967296) (hy : y < 4294967296) (hp : stop x1 = false) (hp2 : stop nx = false) (h : en_ex oc f code stop (x1, ls, st, t, n, sl) P) (h2 : en_ex oc f code stop (nx, ls, st, t, n, sl) P) : en_ex oc f code stop (pc, ls, .inl y :: .inl x :: st, t, n, sl) P := by
  obtain ⟨b, hb, -⟩ := ai_rel_ok (c := c) (gx_infull hx) (gx_infull hy)
  cases b
  · exact ex_cmp2 (r := false) hc hb hp2 h2
  · exact ex_cmp2 (r := true) hc hb hp h
theorem gx_1any {c : ClassFile.Cond} {j : Int} {x1 x2 x : Nat} (hc : code pc = some (.ifCond c j, nx, x1, x2)) (hx : x < 4294967296) (hp : stop x1 = false) (hp2 : stop nx = false) (h : en_ex oc f code stop (x1, ls, st, t, n, sl) P) (h2 : en_ex oc f code stop (nx, ls, st, t, n, sl) P) : en_ex oc f code stop (pc, ls, .inl x :: st, t, n, sl) P := by
  obtain ⟨b, hb, -⟩ := ai_rel_ok (c := c) (gx_infull hx) (gx_infull (x := 0) (by decide))
  cases b
  · exact ex_cmp1 (r := false) hc hb hp2 h2
  · exact ex_cmp1 (r := true) hc hb hp h
theorem gx_innegt {c : ClassFile.Cond} {x : Nat} {r : Bool} (h1 : 2147483648 ≤ x) (h2 : x < 4294967296) (hr : ai_rel c (0, 2147483647) (2147483648, 2147483648) = some r) : en_rel c (.inl x) (.inl 0) = some r := by
  obtain ⟨b, hb, h3⟩ := ai_rel_ok (c := c) (p := (0, 2147483647)) (q := (2147483648, 2147483648)) (x := x) (y := 0) ⟨h2, Nat.zero_le _, by unfold ai_off; show _ ≤ 2147483647; omega⟩ ⟨by decide, by decide, by decide⟩
  rw [hb, h3 r hr]
theorem gx_negt {c : ClassFile.Cond} {j : Int} {x1 x2 x : Nat} (hc : code pc = some (.ifCond c j, nx, x1, x2)) (h1 : 2147483648 ≤ x) (h2 : x < 4294967296) (hr : ai_rel c (0, 2147483647) (2147483648, 2147483648) = some true) (hp : stop x1 = false) (h : en_ex oc f code stop (x1, ls, st, t, n, sl) P) : en_ex oc f code stop (pc, ls, .inl x :: st, t, n, sl) P :=
  ex_cmp1 (r := true) hc (gx_innegt h1 h2 hr) hp h
theorem gx_negf {c : ClassFile.Cond} {j : Int} {x1 x2 x : Nat} (hc : code pc = some (.ifCond c j, nx, x1, x2)) (h1 : 2147483648 ≤ x) (h2 : x < 4294967296) (hr : ai_rel c (0, 2147483647) (2147483648, 2147483648) = some false) (hp : stop nx = false) (h : en_ex oc f code stop (nx, ls, st, t, n, sl) P) : en_ex oc f code stop (pc, ls, .inl x :: st, t, n, sl) P :=
  ex_cmp1 (r := false) hc (gx_innegt h1 h2 hr) hp h
theorem gx_imulw {x1 x2 a b : Nat} (hc : code pc = some (.imul, nx, x1, x2)) (hp : stop nx = false) (h : ∀ z, z < 4294967296 → en_ex oc f code stop (nx, ls, .inl z :: st, t, n, sl) P) : en_ex oc f code stop (pc, ls, .inl b :: .inl a :: st, t, n, sl) P := by
  refine ex_go (S := (nx, ls, .inl (en_wrap (a * b)) :: st, t, n, sl)) hc (fun k => rfl) hp (h _ ?_)
  unfold en_wrap
  omega
theorem gx_decS {ins : Instr} {x1 x2 i a : Nat} (hc : code pc = some (ins, nx, x1, x2)) (hi : ∀ k : en_K, en_step en_df oc f pc (ins, nx, x1, x2) ls st t n sl k = en_iinc i 4294967295 nx ls st t n sl k) (hl : en_ld ls i = some (.inl a)) (hx : 1 ≤ a) (hy : a < 4294967296) (hp : stop nx = false) (h : ∀ ls' : en_L, en_ld ls' i = some (.inl (a - 1)) → (∀ j w, en_ld ls j = some w → en_keep1 i (j, w) = true → en_ld ls' j = some w) → en_ex oc f code stop (nx, ls', st, t, n, sl) P) : en_ex oc f code stop (pc, ls, st, t, n, sl) P := by
  refine ex_go (S := (nx, (i, .inl (a - 1)) :: en_flt (en_keep1 i) ls, st, t, n, sl)) hc (fun k => ?_) hp (h _ ?_ ?_)
  · rw [hi]
    unfold en_iinc
    rw [hl]
    dsimp only
    unfold en_wrap
    rw [show (a + 4294967295) % 4294967296 = a - 1 by omega]
  · show (bif Nat.beq i i then some (Sum.inl (a - 1) : en_V) else _) = _
    rw [Nat.beq_refl]
    rfl
  · intro j w h1 h2
    show (bif Nat.beq i j then some (Sum.inl (a - 1) : en_V) else en_ld (en_flt (en_keep1 i) ls) j) = some w
    cases hq : Nat.beq i j with
    | true =>
      have e := Nat.eq_of_beq_eq_true hq
      subst e
      have h2 : (bif Nat.beq i i then false else _) = true := h2
      rw [Nat.beq_refl] at h2
      cases h2
    | false => exact en_ld_flt h1 h2
theorem gx_pile {i : Nat} (hG : ai_HG ah_G t) (hi : i < 1100) : ∃ m, ai_hv t 398 i = some (.inl m) ∧ m < 4294967296 := by
  obtain ⟨v, k1, m, rfl, m1, m2, m3⟩ := gx_sl (c := 398) (i := i) hG rfl hi (gx_run1 hi)
  exact ⟨m, k1, m1⟩
theorem gx_facts {i : Nat} (hG : ai_HG ah_G t) (hi : i < 4) : ∃ m, ai_hv t 397 i = some (.inl m) ∧ m < 4294967296 := by
  obtain ⟨v, k1, m, rfl, m1, m2, m3⟩ := gx_sl (c := 397) (i := i) hG rfl hi (gx_run1 hi)
  exact ⟨m, k1, m1⟩
theorem px_E_st {t t' : en_H} {i : Nat} (h : ai_E t) (e : ∀ c j, ¬ (c = 399 ∧ j = i) → ai_hv t' c j = ai_hv t c j) (h7 : i % 45 ≠ 7) (h8 : i % 45 ≠ 8) : ai_E t' :=
  ⟨⟨ai_El_kept h.1.1 (fun j => e _ j (by first | decide | omega)) (fun j => e _ j (by first | decide | omega)) (fun j => e _ j (by first | decide | omega)), ai_El_kept h.1.2 (fun j => e _ j (by first | decide | omega)) (fun j => e _ j (by first | decide | omega)) (fun j => e _ j (by first | decide | omega))⟩,
   ai_Em_kept h.2 (fun j => e _ j (by first | decide | omega)) (fun j => e _ j (by first | decide | omega)) (fun j => e _ j (by first | decide | omega)) (fun j => e _ j (by first | decide | omega)) (fun b => e _ _ (by first | decide | omega)) (fun b => e _ _ (by first | decide | omega))⟩
theorem px_E_bis {t t' : en_H} {i b y x x' : Nat} (h : ai_E t) (e : ∀ c j, ¬ (c = 399 ∧ j = i) → ai_hv t' c j = ai_hv t c j) (k : ai_hv t 399 i = some (.inl x)) (k' : ai_hv t' 399 i = some (.inl x')) (hi : i = 45 * b + y) (hy : y = 7 ∨ y = 8) (hx : x' ≤ x) : ai_E t' := by
  refine ⟨⟨ai_El_kept h.1.1 (fun j => e _ j (by first | decide | omega)) (fun j => e _ j (by first | decide | omega)) (fun j => e _ j (by first | decide | omega)), ai_El_kept h.1.2 (fun j => e _ j (by first | decide | omega)) (fun j => e _ j (by first | decide | omega)) (fun j => e _ j (by first | decide | omega))⟩, ?_⟩
  obtain ⟨e1, e2, e3, e4⟩ := h.2
  refine ⟨fun k hk => ?_, fun k hk => ?_, fun b' hb => ?_, fun l hl => ?_⟩
  · have := e1 k hk
    simp only [ai_En, fun i => e 389 i (by first | decide | omega)] at this ⊢
    exact this
  · have := e2 k hk
    simp only [ai_En, fun i => e 396 i (by first | decide | omega)] at this ⊢
    exact this
  · obtain ⟨p, q, z1, z2, z3⟩ := e3 b' hb
    by_cases c : b' = b
    · subst c
      rcases hy with hy | hy
      · subst hy
        have e7 : p = x := by rw [← hi, k] at z1; cases z1; rfl
        exact ⟨x', q, by rw [← hi]; exact k', (e _ _ (by first | decide | omega)).trans z2, by omega⟩
      · subst hy
        have e7 : q = x := by rw [← hi, k] at z2; cases z2; rfl
        exact ⟨p, x', (e _ _ (by first | decide | omega)).trans z1, by rw [← hi]; exact k', by omega⟩
    · exact ⟨p, q, (e _ _ (by first | decide | omega)).trans z1, (e _ _ (by first | decide | omega)).trans z2, z3⟩
  · have := e4 l hl
    simp only [ai_rpn, fun i => e 389 i (by first | decide | omega), fun i => e 390 i (by first | decide | omega), fun i => e 391 i (by first | decide | omega)] at this ⊢
    exact this
theorem pk_both (d n : Nat) {t0 : en_H} {o x y : Nat} (ho : 4 ≤ o ∧ o ≤ 10) (hx : x < 4294967296) (hy : y < 4294967296) : ∃ r, en_u (d + 1) 276 [.inl o, .inl x, .inl y] t0 n = some r ∧ ∃ b, r = (some (.inl b), t0, n, 0) ∧ b < 4294967296 := by
  refine en_u_ex rfl ?_
  show en_ex _ _ _ _ (0, [(0, .inl o), (1, .inl x), (2, .inl y)], [], t0, n, 0) _
  rcases (show o = 4 ∨ o = 5 ∨ o = 6 ∨ o = 7 ∨ o = 8 ∨ o = 9 ∨ o = 10 by omega) with rfl | rfl | rfl | rfl | rfl | rfl | rfl
  · refine ex_go (S := (1, [(0, .inl 4), (1, .inl x), (2, .inl y)], [.inl 4], t0, n, 0)) rfl (fun _ => rfl) rfl ?_
    refine ex_go (S := (40, [(0, .inl 4), (1, .inl x), (2, .inl y)], [], t0, n, 0)) rfl (fun _ => rfl) rfl ?_
    refine ex_go (S := (41, [(0, .inl 4), (1, .inl x), (2, .inl y)], [.inl x], t0, n, 0)) rfl (fun _ => rfl) rfl ?_
    refine ex_go (S := (42, [(0, .inl 4), (1, .inl x), (2, .inl y)], [.inl y, .inl x], t0, n, 0)) rfl (fun _ => rfl) rfl ?_
    refine gx_iaddw rfl rfl (fun z1 z1b => ?_)
    refine ex_ret (r := (some (.inl z1), t0, n, 0)) rfl (fun _ => rfl) ?_
    exact ⟨_, rfl, z1, rfl, by omega⟩
  · refine ex_go (S := (1, [(0, .inl 5), (1, .inl x), (2, .inl y)], [.inl 5], t0, n, 0)) rfl (fun _ => rfl) rfl ?_
    refine ex_go (S := (44, [(0, .inl 5), (1, .inl x), (2, .inl y)], [], t0, n, 0)) rfl (fun _ => rfl) rfl ?_
    refine ex_go (S := (45, [(0, .inl 5), (1, .inl x), (2, .inl y)], [.inl x], t0, n, 0)) rfl (fun _ => rfl) rfl ?_
    refine ex_go (S := (46, [(0, .inl 5), (1, .inl x), (2, .inl y)], [.inl y, .inl x], t0, n, 0)) rfl (fun _ => rfl) rfl ?_
    refine gx_isubw rfl rfl (fun z1 z1b => ?_)
    refine ex_ret (r := (some (.inl z1), t0, n, 0)) rfl (fun _ => rfl) ?_
    exact ⟨_, rfl, z1, rfl, by omega⟩
  · refine ex_go (S := (1, [(0, .inl 6), (1, .inl x), (2, .inl y)], [.inl 6], t0, n, 0)) rfl (fun _ => rfl) rfl ?_
    refine ex_go (S := (48, [(0, .inl 6), (1, .inl x), (2, .inl y)], [], t0, n, 0)) rfl (fun _ => rfl) rfl ?_
    refine ex_go (S := (49, [(0, .inl 6), (1, .inl x), (2, .inl y)], [.inl x], t0, n, 0)) rfl (fun _ => rfl) rfl ?_
    refine ex_go (S := (50, [(0, .inl 6), (1, .inl x), (2, .inl y)], [.inl y, .inl x], t0, n, 0)) rfl (fun _ => rfl) rfl ?_
    refine gx_imulw rfl rfl (fun z1 z1b => ?_)
    refine ex_ret (r := (some (.inl z1), t0, n, 0)) rfl (fun _ => rfl) ?_
    exact ⟨_, rfl, z1, rfl, by omega⟩
  · refine ex_go (S := (1, [(0, .inl 7), (1, .inl x), (2, .inl y)], [.inl 7], t0, n, 0)) rfl (fun _ => rfl) rfl ?_
    refine ex_go (S := (52, [(0, .inl 7), (1, .inl x), (2, .inl y)], [], t0, n, 0)) rfl (fun _ => rfl) rfl ?_
    refine ex_go (S := (53, [(0, .inl 7), (1, .inl x), (2, .inl y)], [.inl x], t0, n, 0)) rfl (fun _ => rfl) rfl ?_
    refine ex_go (S := (54, [(0, .inl 7), (1, .inl x), (2, .inl y)], [.inl y, .inl x], t0, n, 0)) rfl (fun _ => rfl) rfl ?_
    refine gx_2any (c := .ge) rfl (by first | decide | omega) (by first | decide | omega) rfl rfl ?_ ?_
    · show en_ex _ _ _ _ (61, [(0, .inl 7), (1, .inl x), (2, .inl y)], [], t0, n, 0) _
      refine ex_go (S := (62, [(0, .inl 7), (1, .inl x), (2, .inl y)], [.inl 0], t0, n, 0)) rfl (fun _ => rfl) rfl ?_
      refine ex_ret (r := (some (.inl 0), t0, n, 0)) rfl (fun _ => rfl) ?_
      exact ⟨_, rfl, 0, rfl, by omega⟩
    · show en_ex _ _ _ _ (57, [(0, .inl 7), (1, .inl x), (2, .inl y)], [], t0, n, 0) _
      refine ex_go (S := (58, [(0, .inl 7), (1, .inl x), (2, .inl y)], [.inl 1], t0, n, 0)) rfl (fun _ => rfl) rfl ?_
      refine ex_go (S := (62, [(0, .inl 7), (1, .inl x), (2, .inl y)], [.inl 1], t0, n, 0)) rfl (fun _ => rfl) rfl ?_
      refine ex_ret (r := (some (.inl 1), t0, n, 0)) rfl (fun _ => rfl) ?_
      exact ⟨_, rfl, 1, rfl, by omega⟩
  · refine ex_go (S := (1, [(0, .inl 8), (1, .inl x), (2, .inl y)], [.inl 8], t0, n, 0)) rfl (fun _ => rfl) rfl ?_
    refine ex_go (S := (63, [(0, .inl 8), (1, .inl x), (2, .inl y)], [], t0, n, 0)) rfl (fun _ => rfl) rfl ?_
    refine ex_go (S := (64, [(0, .inl 8), (1, .inl x), (2, .inl y)], [.inl x], t0, n, 0)) rfl (fun _ => rfl) rfl ?_
    refine ex_go (S := (65, [(0, .inl 8), (1, .inl x), (2, .inl y)], [.inl y, .inl x], t0, n, 0)) rfl (fun _ => rfl) rfl ?_
    refine gx_2any (c := .ne) rfl (by first | decide | omega) (by first | decide | omega) rfl rfl ?_ ?_
    · show en_ex _ _ _ _ (72, [(0, .inl 8), (1, .inl x), (2, .inl y)], [], t0, n, 0) _
      refine ex_go (S := (73, [(0, .inl 8), (1, .inl x), (2, .inl y)], [.inl 0], t0, n, 0)) rfl (fun _ => rfl) rfl ?_
      refine ex_ret (r := (some (.inl 0), t0, n, 0)) rfl (fun _ => rfl) ?_
      exact ⟨_, rfl, 0, rfl, by omega⟩
    · show en_ex _ _ _ _ (68, [(0, .inl 8), (1, .inl x), (2, .inl y)], [], t0, n, 0) _
      refine ex_go (S := (69, [(0, .inl 8), (1, .inl x), (2, .inl y)], [.inl 1], t0, n, 0)) rfl (fun _ => rfl) rfl ?_
      refine ex_go (S := (73, [(0, .inl 8), (1, .inl x), (2, .inl y)], [.inl 1], t0, n, 0)) rfl (fun _ => rfl) rfl ?_
      refine ex_ret (r := (some (.inl 1), t0, n, 0)) rfl (fun _ => rfl) ?_
      exact ⟨_, rfl, 1, rfl, by omega⟩
  · refine ex_go (S := (1, [(0, .inl 9), (1, .inl x), (2, .inl y)], [.inl 9], t0, n, 0)) rfl (fun _ => rfl) rfl ?_
    refine ex_go (S := (74, [(0, .inl 9), (1, .inl x), (2, .inl y)], [], t0, n, 0)) rfl (fun _ => rfl) rfl ?_
    refine ex_go (S := (75, [(0, .inl 9), (1, .inl x), (2, .inl y)], [.inl x], t0, n, 0)) rfl (fun _ => rfl) rfl ?_
    refine gx_1any (c := .eq) rfl (by first | decide | omega) rfl rfl ?_ ?_
    · show en_ex _ _ _ _ (86, [(0, .inl 9), (1, .inl x), (2, .inl y)], [], t0, n, 0) _
      refine ex_go (S := (87, [(0, .inl 9), (1, .inl x), (2, .inl y)], [.inl 0], t0, n, 0)) rfl (fun _ => rfl) rfl ?_
      refine ex_ret (r := (some (.inl 0), t0, n, 0)) rfl (fun _ => rfl) ?_
      exact ⟨_, rfl, 0, rfl, by omega⟩
    · show en_ex _ _ _ _ (78, [(0, .inl 9), (1, .inl x), (2, .inl y)], [], t0, n, 0) _
      refine ex_go (S := (79, [(0, .inl 9), (1, .inl x), (2, .inl y)], [.inl y], t0, n, 0)) rfl (fun _ => rfl) rfl ?_
      refine gx_1any (c := .eq) rfl (by first | decide | omega) rfl rfl ?_ ?_
      · show en_ex _ _ _ _ (86, [(0, .inl 9), (1, .inl x), (2, .inl y)], [], t0, n, 0) _
        refine ex_go (S := (87, [(0, .inl 9), (1, .inl x), (2, .inl y)], [.inl 0], t0, n, 0)) rfl (fun _ => rfl) rfl ?_
        refine ex_ret (r := (some (.inl 0), t0, n, 0)) rfl (fun _ => rfl) ?_
        exact ⟨_, rfl, 0, rfl, by omega⟩
      · show en_ex _ _ _ _ (82, [(0, .inl 9), (1, .inl x), (2, .inl y)], [], t0, n, 0) _
        refine ex_go (S := (83, [(0, .inl 9), (1, .inl x), (2, .inl y)], [.inl 1], t0, n, 0)) rfl (fun _ => rfl) rfl ?_
        refine ex_go (S := (87, [(0, .inl 9), (1, .inl x), (2, .inl y)], [.inl 1], t0, n, 0)) rfl (fun _ => rfl) rfl ?_
        refine ex_ret (r := (some (.inl 1), t0, n, 0)) rfl (fun _ => rfl) ?_
        exact ⟨_, rfl, 1, rfl, by omega⟩
  · refine ex_go (S := (1, [(0, .inl 10), (1, .inl x), (2, .inl y)], [.inl 10], t0, n, 0)) rfl (fun _ => rfl) rfl ?_
    refine ex_go (S := (88, [(0, .inl 10), (1, .inl x), (2, .inl y)], [], t0, n, 0)) rfl (fun _ => rfl) rfl ?_
    refine ex_go (S := (89, [(0, .inl 10), (1, .inl x), (2, .inl y)], [.inl x], t0, n, 0)) rfl (fun _ => rfl) rfl ?_
    refine gx_1any (c := .ne) rfl (by first | decide | omega) rfl rfl ?_ ?_
    · show en_ex _ _ _ _ (96, [(0, .inl 10), (1, .inl x), (2, .inl y)], [], t0, n, 0) _
      refine ex_go (S := (97, [(0, .inl 10), (1, .inl x), (2, .inl y)], [.inl 1], t0, n, 0)) rfl (fun _ => rfl) rfl ?_
      refine ex_go (S := (101, [(0, .inl 10), (1, .inl x), (2, .inl y)], [.inl 1], t0, n, 0)) rfl (fun _ => rfl) rfl ?_
      refine ex_ret (r := (some (.inl 1), t0, n, 0)) rfl (fun _ => rfl) ?_
      exact ⟨_, rfl, 1, rfl, by omega⟩
    · show en_ex _ _ _ _ (92, [(0, .inl 10), (1, .inl x), (2, .inl y)], [], t0, n, 0) _
      refine ex_go (S := (93, [(0, .inl 10), (1, .inl x), (2, .inl y)], [.inl y], t0, n, 0)) rfl (fun _ => rfl) rfl ?_
      refine gx_1any (c := .eq) rfl (by first | decide | omega) rfl rfl ?_ ?_
      · show en_ex _ _ _ _ (100, [(0, .inl 10), (1, .inl x), (2, .inl y)], [], t0, n, 0) _
        refine ex_go (S := (101, [(0, .inl 10), (1, .inl x), (2, .inl y)], [.inl 0], t0, n, 0)) rfl (fun _ => rfl) rfl ?_
        refine ex_ret (r := (some (.inl 0), t0, n, 0)) rfl (fun _ => rfl) ?_
        exact ⟨_, rfl, 0, rfl, by omega⟩
      · show en_ex _ _ _ _ (96, [(0, .inl 10), (1, .inl x), (2, .inl y)], [], t0, n, 0) _
        refine ex_go (S := (97, [(0, .inl 10), (1, .inl x), (2, .inl y)], [.inl 1], t0, n, 0)) rfl (fun _ => rfl) rfl ?_
        refine ex_go (S := (101, [(0, .inl 10), (1, .inl x), (2, .inl y)], [.inl 1], t0, n, 0)) rfl (fun _ => rfl) rfl ?_
        refine ex_ret (r := (some (.inl 1), t0, n, 0)) rfl (fun _ => rfl) ?_
        exact ⟨_, rfl, 1, rfl, by omega⟩
theorem wo_l (d n : Nat) {tb : en_H} {s e : Nat} {F : Nat → Nat} {Q : en_O → Prop} (he : e < 1100) (hr : ai_rpn tb s e F) (hQ : ∀ v t1, v < 4294967296 → ai_HG ah_G t1 → (∀ c i, ¬ (c = 398 ∧ i < 1100) → ai_hv t1 c i = ai_hv tb c i) → Q (.inl (some (.inl v), t1, n, 0))) : ∀ j i cl t0, i + j = e → s ≤ i → F i + s ≤ i → ai_HG ah_G t0 → (∀ c i, ¬ (c = 398 ∧ i < 1100) → ai_hv t0 c i = ai_hv tb c i) → en_ld cl 0 = some (gx_r 383) → en_ld cl 2 = some (.inl (F i)) → en_ld cl 3 = some (.inl i) → en_ex none (en_u (d + 1)) (en_code 255) (fun _ => false) (4, cl, [], t0, n, 0) Q := by
  obtain ⟨hr0, hre, hrs⟩ := hr
  intro j
  induction j with
  | zero =>
    intro i cl t0 hi hsi hF g0 e0 h0 h2 h3
    have hi : i = e := by omega
    subst hi
    have ko := (e0 390 i (by first | decide | omega)).trans hre
    refine gx_ld (i := 0) (d := 2) (v := gx_r 383) rfl (fun _ => rfl) h0 rfl rfl ?_
    refine gx_ref (c := 390) rfl g0 rfl rfl rfl rfl ?_
    refine gx_ld (i := 3) (d := 0) (v := .inl i) rfl (fun _ => rfl) h3 rfl rfl ?_
    refine gx_ag (v := .inl 0) (cb := fun c => Nat.beq c 0) rfl (fun _ => rfl) g0 rfl rfl ko (by first | decide | omega) rfl ?_
    refine ex_go (S := (140, cl, [], t0, n, 0)) rfl (fun _ => rfl) rfl ?_
    refine gx_ld (i := 0) (d := 2) (v := gx_r 383) rfl (fun _ => rfl) h0 rfl rfl ?_
    refine gx_ref (c := 398) rfl g0 rfl rfl rfl rfl ?_
    refine ex_go (S := (145, cl, [.inl 0, gx_r 398], t0, n, 0)) rfl (fun _ => rfl) rfl ?_
    obtain ⟨m1, k2, m1b⟩ := gx_pile (i := 0) g0 (by first | decide | omega)
    refine gx_ag (v := .inl m1) (cb := fun c => Nat.beq c 0) rfl (fun _ => rfl) g0 rfl rfl k2 (by first | decide | omega) rfl ?_
    refine ex_ret (r := (some (.inl m1), t0, n, 0)) rfl (fun _ => rfl) ?_
    exact hQ m1 t0 (by first | decide | omega) g0 (fun c i h => e0 c i h)
  | succ j ih =>
    intro i cl t0 hi hsi hF g0 e0 h0 h2 h3
    obtain ⟨o, z, ko, kz, hst⟩ := hrs i hsi (by first | decide | omega)
    have ko := (e0 390 i (by first | decide | omega)).trans ko
    have kz := (e0 391 i (by first | decide | omega)).trans kz
    obtain ⟨z9, kz9, hz9⟩ := gx_argany (i := i) g0 (by first | decide | omega)
    have hz : z < 4294967296 := by have e9 := kz.symm.trans kz9; cases e9; exact hz9
    rcases hst with ⟨rfl, hF1⟩ | ⟨rfl, hza, hF1⟩ | ⟨rfl, hp, hF1⟩ | ⟨ho1, ho2, hp, hF1⟩
    · refine gx_ld (i := 0) (d := 2) (v := gx_r 383) rfl (fun _ => rfl) h0 rfl rfl ?_
      refine gx_ref (c := 390) rfl g0 rfl rfl rfl rfl ?_
      refine gx_ld (i := 3) (d := 0) (v := .inl i) rfl (fun _ => rfl) h3 rfl rfl ?_
      refine gx_ag (v := .inl 1) (cb := fun c => Nat.beq c 0) rfl (fun _ => rfl) g0 rfl rfl ko (by first | decide | omega) rfl ?_
      refine ex_go (S := (13, cl, [], t0, n, 0)) rfl (fun _ => rfl) rfl ?_
      refine gx_ld (i := 0) (d := 2) (v := gx_r 383) rfl (fun _ => rfl) h0 rfl rfl ?_
      refine gx_ref (c := 390) rfl g0 rfl rfl rfl rfl ?_
      refine gx_ld (i := 3) (d := 0) (v := .inl i) rfl (fun _ => rfl) h3 rfl rfl ?_
      refine gx_ag (v := .inl 1) (cb := fun c => Nat.beq c 0) rfl (fun _ => rfl) g0 rfl rfl ko (by first | decide | omega) rfl ?_
      refine gx_sto (i := 4) (d := 0) rfl (fun _ => rfl) rfl rfl (fun l1 hl1 ml1 => ?_)
      have l1_0 : en_ld l1 0 = some (gx_r 383) := ml1 0 _ h0 rfl
      have l1_2 : en_ld l1 2 = some (.inl (F i)) := ml1 2 _ h2 rfl
      have l1_3 : en_ld l1 3 = some (.inl i) := ml1 3 _ h3 rfl
      refine gx_ld (i := 4) (d := 0) (v := .inl 1) rfl (fun _ => rfl) hl1 rfl rfl ?_
      refine ex_go (S := (24, l1, [.inl 1, .inl 1], t0, n, 0)) rfl (fun _ => rfl) rfl ?_
      refine ex_go (S := (33, l1, [], t0, n, 0)) rfl (fun _ => rfl) rfl ?_
      refine gx_ld (i := 0) (d := 2) (v := gx_r 383) rfl (fun _ => rfl) l1_0 rfl rfl ?_
      refine gx_ref (c := 398) rfl g0 rfl rfl rfl rfl ?_
      refine gx_ld (i := 2) (d := 0) (v := .inl (F i)) rfl (fun _ => rfl) l1_2 rfl rfl ?_
      refine gx_ld (i := 4) (d := 0) (v := .inl 1) rfl (fun _ => rfl) hl1 rfl rfl ?_
      refine ex_go (S := (41, l1, [.inl 1, .inl 1, .inl (F i), gx_r 398], t0, n, 0)) rfl (fun _ => rfl) rfl ?_
      refine ex_go (S := (44, l1, [.inl (F i), gx_r 398], t0, n, 0)) rfl (fun _ => rfl) rfl ?_
      refine gx_ld (i := 0) (d := 2) (v := gx_r 383) rfl (fun _ => rfl) l1_0 rfl rfl ?_
      refine gx_ref (c := 391) rfl g0 rfl rfl rfl rfl ?_
      refine gx_ld (i := 3) (d := 0) (v := .inl i) rfl (fun _ => rfl) l1_3 rfl rfl ?_
      refine gx_ag (v := .inl z) (cb := fun c => Nat.beq c 0) rfl (fun _ => rfl) g0 rfl rfl kz (by first | decide | omega) rfl ?_
      refine ex_go (S := (64, l1, [.inl z, .inl (F i), gx_r 398], t0, n, 0)) rfl (fun _ => rfl) rfl ?_
      refine gx_ap rfl (fun _ => rfl) g0 rfl rfl rfl (show F i < 1100 from by omega) (gx_run1 (show F i < 1100 from by omega)) (gx_full (by first | decide | omega)) rfl (fun t102 g102 k102 e102 => ?_)
      have k3 : ai_hv t102 390 i = some (.inl 1) := (e102 390 i (by first | decide | omega)).trans ko
      have k4 : ai_hv t102 391 i = some (.inl z) := (e102 391 i (by first | decide | omega)).trans kz
      refine gx_incS (i := 2) (a := F i) (x := 1) rfl (fun _ => rfl) l1_2 (by first | decide | omega) rfl (fun l5 hl5 ml5 => ?_)
      have l5_0 : en_ld l5 0 = some (gx_r 383) := ml5 0 _ l1_0 rfl
      have l5_3 : en_ld l5 3 = some (.inl i) := ml5 3 _ l1_3 rfl
      have l5_4 : en_ld l5 4 = some (.inl 1) := ml5 4 _ hl1 rfl
      refine ex_go (S := (134, l5, [], t102, n, 0)) rfl (fun _ => rfl) rfl ?_
      refine gx_incS (i := 3) (a := i) (x := 1) rfl (fun _ => rfl) l5_3 (by first | decide | omega) rfl (fun l6 hl6 ml6 => ?_)
      have l6_0 : en_ld l6 0 = some (gx_r 383) := ml6 0 _ l5_0 rfl
      have l6_4 : en_ld l6 4 = some (.inl 1) := ml6 4 _ l5_4 rfl
      have l6_2 : en_ld l6 2 = some (.inl ((F i) + 1)) := ml6 2 _ hl5 rfl
      refine ex_go (S := (4, l6, [], t102, n, 0)) rfl (fun _ => rfl) rfl ?_
      exact ih (i + 1) _ t102 (by first | decide | omega) (by first | decide | omega) (by first | decide | omega) g102 (fun c i h => (e102 c i (by first | decide | omega)).trans (e0 c i h)) l6_0 (by rw [show F (i + 1) = (F i) + 1 by omega]; exact l6_2) hl6
    · refine gx_ld (i := 0) (d := 2) (v := gx_r 383) rfl (fun _ => rfl) h0 rfl rfl ?_
      refine gx_ref (c := 390) rfl g0 rfl rfl rfl rfl ?_
      refine gx_ld (i := 3) (d := 0) (v := .inl i) rfl (fun _ => rfl) h3 rfl rfl ?_
      refine gx_ag (v := .inl 2) (cb := fun c => Nat.beq c 0) rfl (fun _ => rfl) g0 rfl rfl ko (by first | decide | omega) rfl ?_
      refine ex_go (S := (13, cl, [], t0, n, 0)) rfl (fun _ => rfl) rfl ?_
      refine gx_ld (i := 0) (d := 2) (v := gx_r 383) rfl (fun _ => rfl) h0 rfl rfl ?_
      refine gx_ref (c := 390) rfl g0 rfl rfl rfl rfl ?_
      refine gx_ld (i := 3) (d := 0) (v := .inl i) rfl (fun _ => rfl) h3 rfl rfl ?_
      refine gx_ag (v := .inl 2) (cb := fun c => Nat.beq c 0) rfl (fun _ => rfl) g0 rfl rfl ko (by first | decide | omega) rfl ?_
      refine gx_sto (i := 4) (d := 0) rfl (fun _ => rfl) rfl rfl (fun l1 hl1 ml1 => ?_)
      have l1_0 : en_ld l1 0 = some (gx_r 383) := ml1 0 _ h0 rfl
      have l1_2 : en_ld l1 2 = some (.inl (F i)) := ml1 2 _ h2 rfl
      have l1_3 : en_ld l1 3 = some (.inl i) := ml1 3 _ h3 rfl
      refine gx_ld (i := 4) (d := 0) (v := .inl 2) rfl (fun _ => rfl) hl1 rfl rfl ?_
      refine ex_go (S := (24, l1, [.inl 1, .inl 2], t0, n, 0)) rfl (fun _ => rfl) rfl ?_
      refine ex_go (S := (27, l1, [], t0, n, 0)) rfl (fun _ => rfl) rfl ?_
      refine gx_ld (i := 4) (d := 0) (v := .inl 2) rfl (fun _ => rfl) hl1 rfl rfl ?_
      refine ex_go (S := (30, l1, [.inl 2, .inl 2], t0, n, 0)) rfl (fun _ => rfl) rfl ?_
      refine ex_go (S := (33, l1, [], t0, n, 0)) rfl (fun _ => rfl) rfl ?_
      refine gx_ld (i := 0) (d := 2) (v := gx_r 383) rfl (fun _ => rfl) l1_0 rfl rfl ?_
      refine gx_ref (c := 398) rfl g0 rfl rfl rfl rfl ?_
      refine gx_ld (i := 2) (d := 0) (v := .inl (F i)) rfl (fun _ => rfl) l1_2 rfl rfl ?_
      refine gx_ld (i := 4) (d := 0) (v := .inl 2) rfl (fun _ => rfl) hl1 rfl rfl ?_
      refine ex_go (S := (41, l1, [.inl 1, .inl 2, .inl (F i), gx_r 398], t0, n, 0)) rfl (fun _ => rfl) rfl ?_
      refine ex_go (S := (53, l1, [.inl (F i), gx_r 398], t0, n, 0)) rfl (fun _ => rfl) rfl ?_
      refine gx_ld (i := 0) (d := 2) (v := gx_r 383) rfl (fun _ => rfl) l1_0 rfl rfl ?_
      refine gx_ref (c := 397) rfl g0 rfl rfl rfl rfl ?_
      refine gx_ld (i := 0) (d := 2) (v := gx_r 383) rfl (fun _ => rfl) l1_0 rfl rfl ?_
      refine gx_ref (c := 391) rfl g0 rfl rfl rfl rfl ?_
      refine gx_ld (i := 3) (d := 0) (v := .inl i) rfl (fun _ => rfl) l1_3 rfl rfl ?_
      refine gx_ag (v := .inl z) (cb := fun c => Nat.beq c 0) rfl (fun _ => rfl) g0 rfl rfl kz (by first | decide | omega) rfl ?_
      obtain ⟨m2, k3, m2b⟩ := gx_facts (i := z) g0 (by first | decide | omega)
      refine gx_ag (v := .inl m2) (cb := fun c => Nat.beq c 0) rfl (fun _ => rfl) g0 rfl rfl k3 (by first | decide | omega) rfl ?_
      refine gx_ap rfl (fun _ => rfl) g0 rfl rfl rfl (show F i < 1100 from by omega) (gx_run1 (show F i < 1100 from by omega)) (gx_full (by first | decide | omega)) rfl (fun t104 g104 k104 e104 => ?_)
      have k5 : ai_hv t104 390 i = some (.inl 2) := (e104 390 i (by first | decide | omega)).trans ko
      have k6 : ai_hv t104 391 i = some (.inl z) := (e104 391 i (by first | decide | omega)).trans kz
      have k7 : ai_hv t104 397 z = some (.inl m2) := (e104 397 z (by first | decide | omega)).trans k3
      refine gx_incS (i := 2) (a := F i) (x := 1) rfl (fun _ => rfl) l1_2 (by first | decide | omega) rfl (fun l8 hl8 ml8 => ?_)
      have l8_0 : en_ld l8 0 = some (gx_r 383) := ml8 0 _ l1_0 rfl
      have l8_3 : en_ld l8 3 = some (.inl i) := ml8 3 _ l1_3 rfl
      have l8_4 : en_ld l8 4 = some (.inl 2) := ml8 4 _ hl1 rfl
      refine ex_go (S := (134, l8, [], t104, n, 0)) rfl (fun _ => rfl) rfl ?_
      refine gx_incS (i := 3) (a := i) (x := 1) rfl (fun _ => rfl) l8_3 (by first | decide | omega) rfl (fun l9 hl9 ml9 => ?_)
      have l9_0 : en_ld l9 0 = some (gx_r 383) := ml9 0 _ l8_0 rfl
      have l9_4 : en_ld l9 4 = some (.inl 2) := ml9 4 _ l8_4 rfl
      have l9_2 : en_ld l9 2 = some (.inl ((F i) + 1)) := ml9 2 _ hl8 rfl
      refine ex_go (S := (4, l9, [], t104, n, 0)) rfl (fun _ => rfl) rfl ?_
      exact ih (i + 1) _ t104 (by first | decide | omega) (by first | decide | omega) (by first | decide | omega) g104 (fun c i h => (e104 c i (by first | decide | omega)).trans (e0 c i h)) l9_0 (by rw [show F (i + 1) = (F i) + 1 by omega]; exact l9_2) hl9
    · refine gx_ld (i := 0) (d := 2) (v := gx_r 383) rfl (fun _ => rfl) h0 rfl rfl ?_
      refine gx_ref (c := 390) rfl g0 rfl rfl rfl rfl ?_
      refine gx_ld (i := 3) (d := 0) (v := .inl i) rfl (fun _ => rfl) h3 rfl rfl ?_
      refine gx_ag (v := .inl 3) (cb := fun c => Nat.beq c 0) rfl (fun _ => rfl) g0 rfl rfl ko (by first | decide | omega) rfl ?_
      refine ex_go (S := (13, cl, [], t0, n, 0)) rfl (fun _ => rfl) rfl ?_
      refine gx_ld (i := 0) (d := 2) (v := gx_r 383) rfl (fun _ => rfl) h0 rfl rfl ?_
      refine gx_ref (c := 390) rfl g0 rfl rfl rfl rfl ?_
      refine gx_ld (i := 3) (d := 0) (v := .inl i) rfl (fun _ => rfl) h3 rfl rfl ?_
      refine gx_ag (v := .inl 3) (cb := fun c => Nat.beq c 0) rfl (fun _ => rfl) g0 rfl rfl ko (by first | decide | omega) rfl ?_
      refine gx_sto (i := 4) (d := 0) rfl (fun _ => rfl) rfl rfl (fun l1 hl1 ml1 => ?_)
      have l1_0 : en_ld l1 0 = some (gx_r 383) := ml1 0 _ h0 rfl
      have l1_2 : en_ld l1 2 = some (.inl (F i)) := ml1 2 _ h2 rfl
      have l1_3 : en_ld l1 3 = some (.inl i) := ml1 3 _ h3 rfl
      refine gx_ld (i := 4) (d := 0) (v := .inl 3) rfl (fun _ => rfl) hl1 rfl rfl ?_
      refine ex_go (S := (24, l1, [.inl 1, .inl 3], t0, n, 0)) rfl (fun _ => rfl) rfl ?_
      refine ex_go (S := (27, l1, [], t0, n, 0)) rfl (fun _ => rfl) rfl ?_
      refine gx_ld (i := 4) (d := 0) (v := .inl 3) rfl (fun _ => rfl) hl1 rfl rfl ?_
      refine ex_go (S := (30, l1, [.inl 2, .inl 3], t0, n, 0)) rfl (fun _ => rfl) rfl ?_
      refine ex_go (S := (71, l1, [], t0, n, 0)) rfl (fun _ => rfl) rfl ?_
      refine gx_ld (i := 4) (d := 0) (v := .inl 3) rfl (fun _ => rfl) hl1 rfl rfl ?_
      refine ex_go (S := (74, l1, [.inl 3, .inl 3], t0, n, 0)) rfl (fun _ => rfl) rfl ?_
      refine ex_go (S := (77, l1, [], t0, n, 0)) rfl (fun _ => rfl) rfl ?_
      refine gx_ld (i := 0) (d := 2) (v := gx_r 383) rfl (fun _ => rfl) l1_0 rfl rfl ?_
      refine gx_ref (c := 398) rfl g0 rfl rfl rfl rfl ?_
      refine gx_ld (i := 2) (d := 0) (v := .inl (F i)) rfl (fun _ => rfl) l1_2 rfl rfl ?_
      refine ex_go (S := (83, l1, [.inl 1, .inl (F i), gx_r 398], t0, n, 0)) rfl (fun _ => rfl) rfl ?_
      refine gx_isub rfl (by first | decide | omega) (by first | decide | omega) rfl ?_
      refine gx_ld (i := 0) (d := 2) (v := gx_r 383) rfl (fun _ => rfl) l1_0 rfl rfl ?_
      refine gx_ref (c := 398) rfl g0 rfl rfl rfl rfl ?_
      refine gx_ld (i := 2) (d := 0) (v := .inl (F i)) rfl (fun _ => rfl) l1_2 rfl rfl ?_
      refine ex_go (S := (90, l1, [.inl 1, .inl (F i), gx_r 398, .inl ((F i) - 1), gx_r 398], t0, n, 0)) rfl (fun _ => rfl) rfl ?_
      refine gx_isub rfl (by first | decide | omega) (by first | decide | omega) rfl ?_
      obtain ⟨m2, k3, m2b⟩ := gx_pile (i := (F i) - 1) g0 (by first | decide | omega)
      refine gx_ag (v := .inl m2) (cb := fun c => Nat.beq c 0) rfl (fun _ => rfl) g0 rfl rfl k3 (by first | decide | omega) rfl ?_
      refine gx_1any (c := .ne) rfl (by first | decide | omega) rfl rfl ?_ ?_
      · show en_ex _ _ _ _ (99, l1, [.inl ((F i) - 1), gx_r 398], t0, n, 0) _
        refine ex_go (S := (100, l1, [.inl 0, .inl ((F i) - 1), gx_r 398], t0, n, 0)) rfl (fun _ => rfl) rfl ?_
        refine gx_ap rfl (fun _ => rfl) g0 rfl rfl rfl (show (F i) - 1 < 1100 from by omega) (gx_run1 (show (F i) - 1 < 1100 from by omega)) (gx_full (by first | decide | omega)) rfl (fun t104 g104 k104 e104 => ?_)
        have k5 : ai_hv t104 390 i = some (.inl 3) := (e104 390 i (by first | decide | omega)).trans ko
        have k6 : ai_hv t104 391 i = some (.inl z) := (e104 391 i (by first | decide | omega)).trans kz
        refine ex_go (S := (134, l1, [], t104, n, 0)) rfl (fun _ => rfl) rfl ?_
        refine gx_incS (i := 3) (a := i) (x := 1) rfl (fun _ => rfl) l1_3 (by first | decide | omega) rfl (fun l7 hl7 ml7 => ?_)
        have l7_0 : en_ld l7 0 = some (gx_r 383) := ml7 0 _ l1_0 rfl
        have l7_2 : en_ld l7 2 = some (.inl (F i)) := ml7 2 _ l1_2 rfl
        have l7_4 : en_ld l7 4 = some (.inl 3) := ml7 4 _ hl1 rfl
        refine ex_go (S := (4, l7, [], t104, n, 0)) rfl (fun _ => rfl) rfl ?_
        exact ih (i + 1) _ t104 (by first | decide | omega) (by first | decide | omega) (by first | decide | omega) g104 (fun c i h => (e104 c i (by first | decide | omega)).trans (e0 c i h)) l7_0 (by rw [show F (i + 1) = F i by omega]; exact l7_2) hl7
      · show en_ex _ _ _ _ (95, l1, [.inl ((F i) - 1), gx_r 398], t0, n, 0) _
        refine ex_go (S := (96, l1, [.inl 1, .inl ((F i) - 1), gx_r 398], t0, n, 0)) rfl (fun _ => rfl) rfl ?_
        refine ex_go (S := (100, l1, [.inl 1, .inl ((F i) - 1), gx_r 398], t0, n, 0)) rfl (fun _ => rfl) rfl ?_
        refine gx_ap rfl (fun _ => rfl) g0 rfl rfl rfl (show (F i) - 1 < 1100 from by omega) (gx_run1 (show (F i) - 1 < 1100 from by omega)) (gx_full (by first | decide | omega)) rfl (fun t108 g108 k108 e108 => ?_)
        have k9 : ai_hv t108 390 i = some (.inl 3) := (e108 390 i (by first | decide | omega)).trans ko
        have k10 : ai_hv t108 391 i = some (.inl z) := (e108 391 i (by first | decide | omega)).trans kz
        refine ex_go (S := (134, l1, [], t108, n, 0)) rfl (fun _ => rfl) rfl ?_
        refine gx_incS (i := 3) (a := i) (x := 1) rfl (fun _ => rfl) l1_3 (by first | decide | omega) rfl (fun l11 hl11 ml11 => ?_)
        have l11_0 : en_ld l11 0 = some (gx_r 383) := ml11 0 _ l1_0 rfl
        have l11_2 : en_ld l11 2 = some (.inl (F i)) := ml11 2 _ l1_2 rfl
        have l11_4 : en_ld l11 4 = some (.inl 3) := ml11 4 _ hl1 rfl
        refine ex_go (S := (4, l11, [], t108, n, 0)) rfl (fun _ => rfl) rfl ?_
        exact ih (i + 1) _ t108 (by first | decide | omega) (by first | decide | omega) (by first | decide | omega) g108 (fun c i h => (e108 c i (by first | decide | omega)).trans (e0 c i h)) l11_0 (by rw [show F (i + 1) = F i by omega]; exact l11_2) hl11
    · refine gx_ld (i := 0) (d := 2) (v := gx_r 383) rfl (fun _ => rfl) h0 rfl rfl ?_
      refine gx_ref (c := 390) rfl g0 rfl rfl rfl rfl ?_
      refine gx_ld (i := 3) (d := 0) (v := .inl i) rfl (fun _ => rfl) h3 rfl rfl ?_
      refine gx_ag (v := .inl o) (cb := fun c => Nat.beq c 0) rfl (fun _ => rfl) g0 rfl rfl ko (by first | decide | omega) rfl ?_
      refine gx_1f (c := .eq) rfl (by first | decide | omega) (show ¬ (o = 0) from by omega) rfl ?_
      refine gx_ld (i := 0) (d := 2) (v := gx_r 383) rfl (fun _ => rfl) h0 rfl rfl ?_
      refine gx_ref (c := 390) rfl g0 rfl rfl rfl rfl ?_
      refine gx_ld (i := 3) (d := 0) (v := .inl i) rfl (fun _ => rfl) h3 rfl rfl ?_
      refine gx_ag (v := .inl o) (cb := fun c => Nat.beq c 0) rfl (fun _ => rfl) g0 rfl rfl ko (by first | decide | omega) rfl ?_
      refine gx_sto (i := 4) (d := 0) rfl (fun _ => rfl) rfl rfl (fun l1 hl1 ml1 => ?_)
      have l1_0 : en_ld l1 0 = some (gx_r 383) := ml1 0 _ h0 rfl
      have l1_2 : en_ld l1 2 = some (.inl (F i)) := ml1 2 _ h2 rfl
      have l1_3 : en_ld l1 3 = some (.inl i) := ml1 3 _ h3 rfl
      refine gx_ld (i := 4) (d := 0) (v := .inl o) rfl (fun _ => rfl) hl1 rfl rfl ?_
      refine ex_go (S := (24, l1, [.inl 1, .inl o], t0, n, 0)) rfl (fun _ => rfl) rfl ?_
      refine gx_2f (c := .eq) rfl (by first | decide | omega) (by first | decide | omega) (show ¬ (o = 1) from by omega) rfl ?_
      refine gx_ld (i := 4) (d := 0) (v := .inl o) rfl (fun _ => rfl) hl1 rfl rfl ?_
      refine ex_go (S := (30, l1, [.inl 2, .inl o], t0, n, 0)) rfl (fun _ => rfl) rfl ?_
      refine gx_2t (c := .ne) rfl (by first | decide | omega) (by first | decide | omega) (show o ≠ 2 from by omega) rfl ?_
      refine gx_ld (i := 4) (d := 0) (v := .inl o) rfl (fun _ => rfl) hl1 rfl rfl ?_
      refine ex_go (S := (74, l1, [.inl 3, .inl o], t0, n, 0)) rfl (fun _ => rfl) rfl ?_
      refine gx_2t (c := .ne) rfl (by first | decide | omega) (by first | decide | omega) (show o ≠ 3 from by omega) rfl ?_
      refine gx_decS (i := 2) (a := F i) rfl (fun _ => rfl) l1_2 (by first | decide | omega) (by first | decide | omega) rfl (fun l2 hl2 ml2 => ?_)
      have l2_0 : en_ld l2 0 = some (gx_r 383) := ml2 0 _ l1_0 rfl
      have l2_3 : en_ld l2 3 = some (.inl i) := ml2 3 _ l1_3 rfl
      have l2_4 : en_ld l2 4 = some (.inl o) := ml2 4 _ hl1 rfl
      refine gx_ld (i := 0) (d := 2) (v := gx_r 383) rfl (fun _ => rfl) l2_0 rfl rfl ?_
      refine gx_ref (c := 398) rfl g0 rfl rfl rfl rfl ?_
      refine gx_ld (i := 2) (d := 0) (v := .inl ((F i) - 1)) rfl (fun _ => rfl) hl2 rfl rfl ?_
      refine ex_go (S := (113, l2, [.inl 1, .inl ((F i) - 1), gx_r 398], t0, n, 0)) rfl (fun _ => rfl) rfl ?_
      refine gx_isub rfl (by first | decide | omega) (by first | decide | omega) rfl ?_
      refine gx_ld (i := 4) (d := 0) (v := .inl o) rfl (fun _ => rfl) l2_4 rfl rfl ?_
      refine gx_ld (i := 0) (d := 2) (v := gx_r 383) rfl (fun _ => rfl) l2_0 rfl rfl ?_
      refine gx_ref (c := 398) rfl g0 rfl rfl rfl rfl ?_
      refine gx_ld (i := 2) (d := 0) (v := .inl ((F i) - 1)) rfl (fun _ => rfl) hl2 rfl rfl ?_
      refine ex_go (S := (122, l2, [.inl 1, .inl ((F i) - 1), gx_r 398, .inl o, .inl (((F i) - 1) - 1), gx_r 398], t0, n, 0)) rfl (fun _ => rfl) rfl ?_
      refine gx_isub rfl (by first | decide | omega) (by first | decide | omega) rfl ?_
      obtain ⟨m3, k4, m3b⟩ := gx_pile (i := ((F i) - 1) - 1) g0 (by first | decide | omega)
      refine gx_ag (v := .inl m3) (cb := fun c => Nat.beq c 0) rfl (fun _ => rfl) g0 rfl rfl k4 (by first | decide | omega) rfl ?_
      refine gx_ld (i := 0) (d := 2) (v := gx_r 383) rfl (fun _ => rfl) l2_0 rfl rfl ?_
      refine gx_ref (c := 398) rfl g0 rfl rfl rfl rfl ?_
      refine gx_ld (i := 2) (d := 0) (v := .inl ((F i) - 1)) rfl (fun _ => rfl) hl2 rfl rfl ?_
      obtain ⟨m5, k6, m5b⟩ := gx_pile (i := (F i) - 1) g0 (by first | decide | omega)
      refine gx_ag (v := .inl m5) (cb := fun c => Nat.beq c 0) rfl (fun _ => rfl) g0 rfl rfl k6 (by first | decide | omega) rfl ?_
      obtain ⟨_, r7, b8, rfl, q9⟩ := pk_both d n (t0 := t0) (o := o) (x := m3) (y := m5) (by first | decide | omega) (by first | decide | omega) (by first | decide | omega)
      refine ex_stat rfl rfl rfl rfl rfl r7 (Nat.le_refl _) rfl ?_
      show en_ex _ _ _ _ (133, l2, [.inl b8, .inl (((F i) - 1) - 1), gx_r 398], t0, n, 0) _
      refine gx_ap rfl (fun _ => rfl) g0 rfl rfl rfl (show ((F i) - 1) - 1 < 1100 from by omega) (gx_run1 (show ((F i) - 1) - 1 < 1100 from by omega)) (gx_full (by first | decide | omega)) rfl (fun t110 g110 k110 e110 => ?_)
      have k11 : ai_hv t110 390 i = some (.inl o) := (e110 390 i (by first | decide | omega)).trans ko
      have k12 : ai_hv t110 391 i = some (.inl z) := (e110 391 i (by first | decide | omega)).trans kz
      have k13 : ai_hv t110 398 ((F i) - 1) = some (.inl m5) := (e110 398 ((F i) - 1) (by first | decide | omega)).trans k6
      refine gx_incS (i := 3) (a := i) (x := 1) rfl (fun _ => rfl) l2_3 (by first | decide | omega) rfl (fun l14 hl14 ml14 => ?_)
      have l14_0 : en_ld l14 0 = some (gx_r 383) := ml14 0 _ l2_0 rfl
      have l14_4 : en_ld l14 4 = some (.inl o) := ml14 4 _ l2_4 rfl
      have l14_2 : en_ld l14 2 = some (.inl ((F i) - 1)) := ml14 2 _ hl2 rfl
      refine ex_go (S := (4, l14, [], t110, n, 0)) rfl (fun _ => rfl) rfl ?_
      exact ih (i + 1) _ t110 (by first | decide | omega) (by first | decide | omega) (by first | decide | omega) g110 (fun c i h => (e110 c i (by first | decide | omega)).trans (e0 c i h)) l14_0 (by rw [show F (i + 1) = (F i) - 1 by omega]; exact l14_2) hl14
theorem pk_worthAt (d n : Nat) {tb : en_H} {s e : Nat} {F : Nat → Nat} (g0 : ai_HG ah_G tb) (hse : s ≤ e) (he : e < 1100) (hr : ai_rpn tb s e F) : ∃ r, en_u (d + 2) 255 [gx_r 383, .inl s] tb n = some r ∧ ∃ v t', r = (some (.inl v), t', n, 0) ∧ v < 4294967296 ∧ ai_HG ah_G t' ∧ (∀ c i, ¬ (c = 398 ∧ i < 1100) → ai_hv t' c i = ai_hv tb c i) := by
  refine en_u_ex (d := d + 1) rfl ?_
  show en_ex _ _ _ _ (0, [(0, gx_r 383), (1, .inl s)], [], tb, n, 0) _
  refine ex_go (S := (1, [(0, gx_r 383), (1, .inl s)], [.inl 0], tb, n, 0)) rfl (fun _ => rfl) rfl ?_
  refine ex_go (S := (2, [(2, .inl 0), (0, gx_r 383), (1, .inl s)], [], tb, n, 0)) rfl (fun _ => rfl) rfl ?_
  refine ex_go (S := (3, [(2, .inl 0), (0, gx_r 383), (1, .inl s)], [.inl s], tb, n, 0)) rfl (fun _ => rfl) rfl ?_
  refine ex_go (S := (4, [(3, .inl s), (2, .inl 0), (0, gx_r 383), (1, .inl s)], [], tb, n, 0)) rfl (fun _ => rfl) rfl ?_
  exact wo_l d n he hr (fun v t1 hv h1 h2 => ⟨_, rfl, v, t1, rfl, hv, h1, h2⟩) (e - s) s _ tb (by first | decide | omega) (by first | decide | omega) (by rw [hr.1]; omega) g0 (fun c i h => rfl) rfl (by rw [hr.1]; rfl) rfl
theorem pk_lawOf (d n : Nat) {t0 : en_H} {lw mo ot : Nat} (g0 : ai_HG ah_G t0) (hE : ai_E t0) (hl : lw < 3) (hm : mo ≤ 99) (ho : ot < 2147483648) : ∃ r, en_u (d + 3) 211 [gx_r 383, .inl lw, .inl mo, .inl ot] t0 n = some r ∧ ∃ v t', r = (some (.inl v), t', n, 0) ∧ v ≤ mo ∧ ai_HG ah_G t' ∧ (∀ c i, ¬ (c = 398 ∧ i < 1100) → ai_hv t' c i = ai_hv t0 c i) := by
  refine en_u_ex (d := d + 2) rfl ?_
  show en_ex _ _ _ _ (0, [(0, gx_r 383), (1, .inl lw), (2, .inl mo), (3, .inl ot)], [], t0, n, 0) _
  rcases hE.2.2.2.2 lw hl with k0 | ⟨s, e, F, k0, hse, he, hr⟩
  · refine ex_go (S := (1, [(0, gx_r 383), (1, .inl lw), (2, .inl mo), (3, .inl ot)], [gx_r 383], t0, n, 0)) rfl (fun _ => rfl) rfl ?_
    refine gx_ref (c := 389) rfl g0 rfl rfl rfl rfl ?_
    refine ex_go (S := (6, [(0, gx_r 383), (1, .inl lw), (2, .inl mo), (3, .inl ot)], [.inl 9, gx_r 389], t0, n, 0)) rfl (fun _ => rfl) rfl ?_
    refine ex_go (S := (7, [(0, gx_r 383), (1, .inl lw), (2, .inl mo), (3, .inl ot)], [.inl lw, .inl 9, gx_r 389], t0, n, 0)) rfl (fun _ => rfl) rfl ?_
    refine ex_iadd rfl (by first | decide | omega) rfl ?_
    refine gx_ag (v := .inl 4294967295) (cb := fun c => Nat.beq c 0) rfl (fun _ => rfl) g0 rfl rfl k0 (by first | decide | omega) rfl ?_
    refine ex_go (S := (12, [(0, gx_r 383), (1, .inl lw), (2, .inl mo), (3, .inl ot)], [], t0, n, 0)) rfl (fun _ => rfl) rfl ?_
    refine ex_go (S := (13, [(0, gx_r 383), (1, .inl lw), (2, .inl mo), (3, .inl ot)], [.inl ot], t0, n, 0)) rfl (fun _ => rfl) rfl ?_
    refine ex_go (S := (29, [(0, gx_r 383), (1, .inl lw), (2, .inl mo), (3, .inl ot)], [.inl ot], t0, n, 0)) rfl (fun _ => rfl) rfl ?_
    refine ex_go (S := (31, [(4, .inl ot), (0, gx_r 383), (1, .inl lw), (2, .inl mo), (3, .inl ot)], [], t0, n, 0)) rfl (fun _ => rfl) rfl ?_
    refine ex_go (S := (33, [(4, .inl ot), (0, gx_r 383), (1, .inl lw), (2, .inl mo), (3, .inl ot)], [.inl ot], t0, n, 0)) rfl (fun _ => rfl) rfl ?_
    refine gx_1t (c := .ge) rfl (by first | decide | omega) (show 0 ≤ ot from by omega) rfl ?_
    refine ex_go (S := (42, [(4, .inl ot), (0, gx_r 383), (1, .inl lw), (2, .inl mo), (3, .inl ot)], [.inl ot], t0, n, 0)) rfl (fun _ => rfl) rfl ?_
    refine ex_go (S := (43, [(4, .inl ot), (0, gx_r 383), (1, .inl lw), (2, .inl mo), (3, .inl ot)], [.inl mo, .inl ot], t0, n, 0)) rfl (fun _ => rfl) rfl ?_
    by_cases hc1 : ot ≤ mo
    · refine gx_2t (c := .le) rfl (by first | decide | omega) (by first | decide | omega) hc1 rfl ?_
      refine ex_go (S := (52, [(4, .inl ot), (0, gx_r 383), (1, .inl lw), (2, .inl mo), (3, .inl ot)], [.inl ot], t0, n, 0)) rfl (fun _ => rfl) rfl ?_
      refine ex_ret (r := (some (.inl ot), t0, n, 0)) rfl (fun _ => rfl) ?_
      exact ⟨_, rfl, ot, t0, rfl, by omega, g0, (fun c i h => rfl)⟩
    · refine gx_2f (c := .le) rfl (by first | decide | omega) (by first | decide | omega) hc1 rfl ?_
      refine ex_go (S := (47, [(4, .inl ot), (0, gx_r 383), (1, .inl lw), (2, .inl mo), (3, .inl ot)], [.inl mo], t0, n, 0)) rfl (fun _ => rfl) rfl ?_
      refine ex_go (S := (52, [(4, .inl ot), (0, gx_r 383), (1, .inl lw), (2, .inl mo), (3, .inl ot)], [.inl mo], t0, n, 0)) rfl (fun _ => rfl) rfl ?_
      refine ex_ret (r := (some (.inl mo), t0, n, 0)) rfl (fun _ => rfl) ?_
      exact ⟨_, rfl, mo, t0, rfl, by omega, g0, (fun c i h => rfl)⟩
  · refine ex_go (S := (1, [(0, gx_r 383), (1, .inl lw), (2, .inl mo), (3, .inl ot)], [gx_r 383], t0, n, 0)) rfl (fun _ => rfl) rfl ?_
    refine gx_ref (c := 389) rfl g0 rfl rfl rfl rfl ?_
    refine ex_go (S := (6, [(0, gx_r 383), (1, .inl lw), (2, .inl mo), (3, .inl ot)], [.inl 9, gx_r 389], t0, n, 0)) rfl (fun _ => rfl) rfl ?_
    refine ex_go (S := (7, [(0, gx_r 383), (1, .inl lw), (2, .inl mo), (3, .inl ot)], [.inl lw, .inl 9, gx_r 389], t0, n, 0)) rfl (fun _ => rfl) rfl ?_
    refine ex_iadd rfl (by first | decide | omega) rfl ?_
    refine gx_ag (v := .inl s) (cb := fun c => Nat.beq c 0) rfl (fun _ => rfl) g0 rfl rfl k0 (by first | decide | omega) rfl ?_
    refine gx_1t (c := .ge) rfl (by first | decide | omega) (show 0 ≤ s from by omega) rfl ?_
    refine ex_go (S := (17, [(0, gx_r 383), (1, .inl lw), (2, .inl mo), (3, .inl ot)], [gx_r 383], t0, n, 0)) rfl (fun _ => rfl) rfl ?_
    refine ex_go (S := (18, [(0, gx_r 383), (1, .inl lw), (2, .inl mo), (3, .inl ot)], [gx_r 383, gx_r 383], t0, n, 0)) rfl (fun _ => rfl) rfl ?_
    refine gx_ref (c := 389) rfl g0 rfl rfl rfl rfl ?_
    refine ex_go (S := (23, [(0, gx_r 383), (1, .inl lw), (2, .inl mo), (3, .inl ot)], [.inl 9, gx_r 389, gx_r 383], t0, n, 0)) rfl (fun _ => rfl) rfl ?_
    refine ex_go (S := (24, [(0, gx_r 383), (1, .inl lw), (2, .inl mo), (3, .inl ot)], [.inl lw, .inl 9, gx_r 389, gx_r 383], t0, n, 0)) rfl (fun _ => rfl) rfl ?_
    refine ex_iadd rfl (by first | decide | omega) rfl ?_
    refine gx_ag (v := .inl s) (cb := fun c => Nat.beq c 0) rfl (fun _ => rfl) g0 rfl rfl k0 (by first | decide | omega) rfl ?_
    obtain ⟨_, r101, v101, t101, rfl, vb101, g101, e101⟩ := pk_worthAt d n g0 hse he hr
    refine gx_call1 rfl rfl g0 rfl rfl r101 rfl ?_
    have k2 : ai_hv t101 389 (9 + lw) = some (.inl s) := (e101 389 (9 + lw) (by first | decide | omega)).trans k0
    refine ex_go (S := (31, [(4, .inl v101), (0, gx_r 383), (1, .inl lw), (2, .inl mo), (3, .inl ot)], [], t101, n, 0)) rfl (fun _ => rfl) rfl ?_
    refine ex_go (S := (33, [(4, .inl v101), (0, gx_r 383), (1, .inl lw), (2, .inl mo), (3, .inl ot)], [.inl v101], t101, n, 0)) rfl (fun _ => rfl) rfl ?_
    by_cases hs3 : v101 < 2147483648
    · have := hs3
      refine gx_1t (c := .ge) rfl (by first | decide | omega) (show 0 ≤ v101 from by omega) rfl ?_
      refine ex_go (S := (42, [(4, .inl v101), (0, gx_r 383), (1, .inl lw), (2, .inl mo), (3, .inl ot)], [.inl v101], t101, n, 0)) rfl (fun _ => rfl) rfl ?_
      refine ex_go (S := (43, [(4, .inl v101), (0, gx_r 383), (1, .inl lw), (2, .inl mo), (3, .inl ot)], [.inl mo, .inl v101], t101, n, 0)) rfl (fun _ => rfl) rfl ?_
      by_cases hc4 : v101 ≤ mo
      · refine gx_2t (c := .le) rfl (by first | decide | omega) (by first | decide | omega) hc4 rfl ?_
        refine ex_go (S := (52, [(4, .inl v101), (0, gx_r 383), (1, .inl lw), (2, .inl mo), (3, .inl ot)], [.inl v101], t101, n, 0)) rfl (fun _ => rfl) rfl ?_
        refine ex_ret (r := (some (.inl v101), t101, n, 0)) rfl (fun _ => rfl) ?_
        exact ⟨_, rfl, v101, t101, rfl, by omega, g101, (fun c i h => e101 c i (by first | decide | omega))⟩
      · refine gx_2f (c := .le) rfl (by first | decide | omega) (by first | decide | omega) hc4 rfl ?_
        refine ex_go (S := (47, [(4, .inl v101), (0, gx_r 383), (1, .inl lw), (2, .inl mo), (3, .inl ot)], [.inl mo], t101, n, 0)) rfl (fun _ => rfl) rfl ?_
        refine ex_go (S := (52, [(4, .inl v101), (0, gx_r 383), (1, .inl lw), (2, .inl mo), (3, .inl ot)], [.inl mo], t101, n, 0)) rfl (fun _ => rfl) rfl ?_
        refine ex_ret (r := (some (.inl mo), t101, n, 0)) rfl (fun _ => rfl) ?_
        exact ⟨_, rfl, mo, t101, rfl, by omega, g101, (fun c i h => e101 c i (by first | decide | omega))⟩
    · have := hs3
      refine gx_negf (c := .ge) rfl (by first | decide | omega) (by first | decide | omega) rfl rfl ?_
      refine ex_go (S := (37, [(4, .inl v101), (0, gx_r 383), (1, .inl lw), (2, .inl mo), (3, .inl ot)], [.inl 0], t101, n, 0)) rfl (fun _ => rfl) rfl ?_
      refine ex_go (S := (52, [(4, .inl v101), (0, gx_r 383), (1, .inl lw), (2, .inl mo), (3, .inl ot)], [.inl 0], t101, n, 0)) rfl (fun _ => rfl) rfl ?_
      refine ex_ret (r := (some (.inl 0), t101, n, 0)) rfl (fun _ => rfl) ?_
      exact ⟨_, rfl, 0, t101, rfl, by omega, g101, (fun c i h => e101 c i (by first | decide | omega))⟩
theorem px_E_two {t t' : en_H} {b x y : Nat} (h : ai_E t) (e : ∀ c i, ¬ (c = 399 ∧ (i = 45 * b + 7 ∨ i = 45 * b + 8 ∨ i = 45 * b + 9 ∨ i = 45 * b + 10)) → ai_hv t' c i = ai_hv t c i) (k1 : ai_hv t' 399 (45 * b + 7) = some (.inl x)) (k2 : ai_hv t' 399 (45 * b + 8) = some (.inl y)) (hxy : x + y ≤ 19998) : ai_E t' := by
  refine ⟨⟨ai_El_kept h.1.1 (fun j => e _ j (by first | decide | omega)) (fun j => e _ j (by first | decide | omega)) (fun j => e _ j (by first | decide | omega)), ai_El_kept h.1.2 (fun j => e _ j (by first | decide | omega)) (fun j => e _ j (by first | decide | omega)) (fun j => e _ j (by first | decide | omega))⟩, ?_⟩
  obtain ⟨e1, e2, e3, e4⟩ := h.2
  refine ⟨fun k hk => ?_, fun k hk => ?_, fun b' hb => ?_, fun l hl => ?_⟩
  · have := e1 k hk
    simp only [ai_En, fun i => e 389 i (by first | decide | omega)] at this ⊢
    exact this
  · have := e2 k hk
    simp only [ai_En, fun i => e 396 i (by first | decide | omega)] at this ⊢
    exact this
  · by_cases c : b' = b
    · subst c
      exact ⟨x, y, k1, k2, hxy⟩
    · rw [e 399 _ (by first | decide | omega), e 399 _ (by first | decide | omega)]
      exact e3 b' hb
  · have := e4 l hl
    simp only [ai_rpn, fun i => e 389 i (by first | decide | omega), fun i => e 390 i (by first | decide | omega), fun i => e 391 i (by first | decide | omega)] at this ⊢
    exact this
set_option maxRecDepth 100000 in
theorem pk_lends0_0 (d n : Nat) {t0 : en_H} {as : Nat} (g0 : ai_HG ah_G t0) (hE : ai_E t0) (has : as ≤ 999) : ∃ r, en_u (d + 1) 120 [gx_r 383, .inl 0, .inl 0, .inl as] t0 n = some r ∧ ∃ v t', r = (some (.inl v), t', n, 0) ∧ v < 4294967296 ∧ ai_HG ah_G t' ∧ ai_E t' ∧ (∀ c i, ¬ (c = 399 ∧ i < 1035) → ai_hv t' c i = ai_hv t0 c i) := by
  obtain ⟨x, y, kx, ky, hxy⟩ := hE.2.2.2.1 0 (by decide)
  refine en_u_ex rfl ?_
  show en_ex _ _ _ _ (0, [(0, gx_r 383), (1, .inl 0), (2, .inl 0), (3, .inl as)], [], t0, n, 0) _
  refine ex_go (S := (1, [(0, gx_r 383), (1, .inl 0), (2, .inl 0), (3, .inl as)], [.inl as], t0, n, 0)) rfl (fun _ => rfl) rfl ?_
  refine ex_go (S := (2, [(0, gx_r 383), (1, .inl 0), (2, .inl 0), (3, .inl as)], [gx_r 383, .inl as], t0, n, 0)) rfl (fun _ => rfl) rfl ?_
  refine gx_ref (c := 399) rfl g0 rfl rfl rfl rfl ?_
  refine ex_go (S := (6, [(0, gx_r 383), (1, .inl 0), (2, .inl 0), (3, .inl as)], [.inl 0, gx_r 399, .inl as], t0, n, 0)) rfl (fun _ => rfl) rfl ?_
  refine ex_go (S := (8, [(0, gx_r 383), (1, .inl 0), (2, .inl 0), (3, .inl as)], [.inl 7, .inl 0, gx_r 399, .inl as], t0, n, 0)) rfl (fun _ => rfl) rfl ?_
  refine ex_go (S := (9, [(0, gx_r 383), (1, .inl 0), (2, .inl 0), (3, .inl as)], [.inl 7, gx_r 399, .inl as], t0, n, 0)) rfl (fun _ => rfl) rfl ?_
  refine ex_go (S := (10, [(0, gx_r 383), (1, .inl 0), (2, .inl 0), (3, .inl as)], [.inl 0, .inl 7, gx_r 399, .inl as], t0, n, 0)) rfl (fun _ => rfl) rfl ?_
  refine ex_go (S := (11, [(0, gx_r 383), (1, .inl 0), (2, .inl 0), (3, .inl as)], [.inl 7, gx_r 399, .inl as], t0, n, 0)) rfl (fun _ => rfl) rfl ?_
  refine gx_ag (v := .inl x) (cb := fun c => Nat.beq c 0) rfl (fun _ => rfl) g0 rfl rfl kx (by first | decide | omega) rfl ?_
  by_cases hc1 : as ≤ x
  · refine gx_2t (c := .le) rfl (by first | decide | omega) (by first | decide | omega) hc1 rfl ?_
    refine ex_go (S := (30, [(0, gx_r 383), (1, .inl 0), (2, .inl 0), (3, .inl as)], [.inl as], t0, n, 0)) rfl (fun _ => rfl) rfl ?_
    refine ex_go (S := (32, [(4, .inl as), (0, gx_r 383), (1, .inl 0), (2, .inl 0), (3, .inl as)], [], t0, n, 0)) rfl (fun _ => rfl) rfl ?_
    refine ex_go (S := (33, [(4, .inl as), (0, gx_r 383), (1, .inl 0), (2, .inl 0), (3, .inl as)], [gx_r 383], t0, n, 0)) rfl (fun _ => rfl) rfl ?_
    refine gx_ref (c := 399) rfl g0 rfl rfl rfl rfl ?_
    refine ex_go (S := (37, [(4, .inl as), (0, gx_r 383), (1, .inl 0), (2, .inl 0), (3, .inl as)], [.inl 0, gx_r 399], t0, n, 0)) rfl (fun _ => rfl) rfl ?_
    refine ex_go (S := (39, [(4, .inl as), (0, gx_r 383), (1, .inl 0), (2, .inl 0), (3, .inl as)], [.inl 7, .inl 0, gx_r 399], t0, n, 0)) rfl (fun _ => rfl) rfl ?_
    refine ex_go (S := (40, [(4, .inl as), (0, gx_r 383), (1, .inl 0), (2, .inl 0), (3, .inl as)], [.inl 7, gx_r 399], t0, n, 0)) rfl (fun _ => rfl) rfl ?_
    refine ex_go (S := (41, [(4, .inl as), (0, gx_r 383), (1, .inl 0), (2, .inl 0), (3, .inl as)], [.inl 0, .inl 7, gx_r 399], t0, n, 0)) rfl (fun _ => rfl) rfl ?_
    refine ex_go (S := (42, [(4, .inl as), (0, gx_r 383), (1, .inl 0), (2, .inl 0), (3, .inl as)], [.inl 7, gx_r 399], t0, n, 0)) rfl (fun _ => rfl) rfl ?_
    refine ex_go (S := (43, [(4, .inl as), (0, gx_r 383), (1, .inl 0), (2, .inl 0), (3, .inl as)], [.inl 7, gx_r 399, .inl 7, gx_r 399], t0, n, 0)) rfl (fun _ => rfl) rfl ?_
    refine gx_ag (v := .inl x) (cb := fun c => Nat.beq c 0) rfl (fun _ => rfl) g0 rfl rfl kx (by first | decide | omega) rfl ?_
    refine ex_go (S := (46, [(4, .inl as), (0, gx_r 383), (1, .inl 0), (2, .inl 0), (3, .inl as)], [.inl as, .inl x, .inl 7, gx_r 399], t0, n, 0)) rfl (fun _ => rfl) rfl ?_
    refine gx_isub rfl (by first | decide | omega) (by first | decide | omega) rfl ?_
    refine gx_ap rfl (fun _ => rfl) g0 rfl rfl rfl (show 7 < 1035 from by omega) rfl (ai_in_h (by first | decide | omega) (by first | decide | omega) (by first | decide | omega)) rfl (fun t102 g102 k102 e102 => ?_)
    have k3 : ai_hv t102 399 8 = some (.inl y) := (e102 399 8 (by first | decide | omega)).trans ky
    refine ex_go (S := (49, [(4, .inl as), (0, gx_r 383), (1, .inl 0), (2, .inl 0), (3, .inl as)], [gx_r 383], t102, n, 0)) rfl (fun _ => rfl) rfl ?_
    refine gx_ref (c := 399) rfl g102 rfl rfl rfl rfl ?_
    refine ex_go (S := (53, [(4, .inl as), (0, gx_r 383), (1, .inl 0), (2, .inl 0), (3, .inl as)], [.inl 0, gx_r 399], t102, n, 0)) rfl (fun _ => rfl) rfl ?_
    refine ex_go (S := (55, [(4, .inl as), (0, gx_r 383), (1, .inl 0), (2, .inl 0), (3, .inl as)], [.inl 7, .inl 0, gx_r 399], t102, n, 0)) rfl (fun _ => rfl) rfl ?_
    refine ex_go (S := (56, [(4, .inl as), (0, gx_r 383), (1, .inl 0), (2, .inl 0), (3, .inl as)], [.inl 7, gx_r 399], t102, n, 0)) rfl (fun _ => rfl) rfl ?_
    refine ex_go (S := (57, [(4, .inl as), (0, gx_r 383), (1, .inl 0), (2, .inl 0), (3, .inl as)], [.inl 1, .inl 7, gx_r 399], t102, n, 0)) rfl (fun _ => rfl) rfl ?_
    refine ex_go (S := (58, [(4, .inl as), (0, gx_r 383), (1, .inl 0), (2, .inl 0), (3, .inl as)], [.inl 8, gx_r 399], t102, n, 0)) rfl (fun _ => rfl) rfl ?_
    refine ex_go (S := (59, [(4, .inl as), (0, gx_r 383), (1, .inl 0), (2, .inl 0), (3, .inl as)], [.inl 0, .inl 8, gx_r 399], t102, n, 0)) rfl (fun _ => rfl) rfl ?_
    refine ex_go (S := (60, [(4, .inl as), (0, gx_r 383), (1, .inl 0), (2, .inl 0), (3, .inl as)], [.inl 8, gx_r 399], t102, n, 0)) rfl (fun _ => rfl) rfl ?_
    refine ex_go (S := (61, [(4, .inl as), (0, gx_r 383), (1, .inl 0), (2, .inl 0), (3, .inl as)], [.inl 8, gx_r 399, .inl 8, gx_r 399], t102, n, 0)) rfl (fun _ => rfl) rfl ?_
    refine gx_ag (v := .inl y) (cb := fun c => Nat.beq c 0) rfl (fun _ => rfl) g102 rfl rfl k3 (by first | decide | omega) rfl ?_
    refine ex_go (S := (64, [(4, .inl as), (0, gx_r 383), (1, .inl 0), (2, .inl 0), (3, .inl as)], [.inl as, .inl y, .inl 8, gx_r 399], t102, n, 0)) rfl (fun _ => rfl) rfl ?_
    refine ex_iadd rfl (by first | decide | omega) rfl ?_
    refine gx_ap rfl (fun _ => rfl) g102 rfl rfl rfl (show 8 < 1035 from by omega) rfl (ai_in_h (by first | decide | omega) (by first | decide | omega) (by first | decide | omega)) rfl (fun t104 g104 k104 e104 => ?_)
    have k5 : ai_hv t104 399 7 = some (.inl (x - as)) := (e104 399 7 (by first | decide | omega)).trans k102
    refine ex_go (S := (67, [(4, .inl as), (0, gx_r 383), (1, .inl 0), (2, .inl 0), (3, .inl as)], [gx_r 383], t104, n, 0)) rfl (fun _ => rfl) rfl ?_
    refine gx_ref (c := 399) rfl g104 rfl rfl rfl rfl ?_
    refine ex_go (S := (71, [(4, .inl as), (0, gx_r 383), (1, .inl 0), (2, .inl 0), (3, .inl as)], [.inl 0, gx_r 399], t104, n, 0)) rfl (fun _ => rfl) rfl ?_
    refine ex_go (S := (73, [(4, .inl as), (0, gx_r 383), (1, .inl 0), (2, .inl 0), (3, .inl as)], [.inl 9, .inl 0, gx_r 399], t104, n, 0)) rfl (fun _ => rfl) rfl ?_
    refine ex_go (S := (74, [(4, .inl as), (0, gx_r 383), (1, .inl 0), (2, .inl 0), (3, .inl as)], [.inl 9, gx_r 399], t104, n, 0)) rfl (fun _ => rfl) rfl ?_
    refine ex_go (S := (75, [(4, .inl as), (0, gx_r 383), (1, .inl 0), (2, .inl 0), (3, .inl as)], [.inl 0, .inl 9, gx_r 399], t104, n, 0)) rfl (fun _ => rfl) rfl ?_
    refine ex_go (S := (76, [(4, .inl as), (0, gx_r 383), (1, .inl 0), (2, .inl 0), (3, .inl as)], [.inl 9, gx_r 399], t104, n, 0)) rfl (fun _ => rfl) rfl ?_
    refine ex_go (S := (77, [(4, .inl as), (0, gx_r 383), (1, .inl 0), (2, .inl 0), (3, .inl as)], [.inl 9, gx_r 399, .inl 9, gx_r 399], t104, n, 0)) rfl (fun _ => rfl) rfl ?_
    obtain ⟨m6, k7, m6b⟩ := gx_any (c := 399) (i := 9) g104 rfl rfl rfl
    refine gx_ag (v := .inl m6) (cb := fun c => Nat.beq c 0) rfl (fun _ => rfl) g104 rfl rfl k7 (by first | decide | omega) rfl ?_
    refine ex_go (S := (80, [(4, .inl as), (0, gx_r 383), (1, .inl 0), (2, .inl 0), (3, .inl as)], [.inl as, .inl m6, .inl 9, gx_r 399], t104, n, 0)) rfl (fun _ => rfl) rfl ?_
    refine gx_iaddw rfl rfl (fun z8 z8b => ?_)
    refine gx_ap rfl (fun _ => rfl) g104 rfl rfl rfl (show 9 < 1035 from by omega) rfl (gx_full (by first | decide | omega)) rfl (fun t109 g109 k109 e109 => ?_)
    have k10 : ai_hv t109 399 7 = some (.inl (x - as)) := (e109 399 7 (by first | decide | omega)).trans k5
    have k11 : ai_hv t109 399 8 = some (.inl (y + as)) := (e109 399 8 (by first | decide | omega)).trans k104
    refine ex_go (S := (83, [(4, .inl as), (0, gx_r 383), (1, .inl 0), (2, .inl 0), (3, .inl as)], [gx_r 383], t109, n, 0)) rfl (fun _ => rfl) rfl ?_
    refine gx_ref (c := 399) rfl g109 rfl rfl rfl rfl ?_
    refine ex_go (S := (87, [(4, .inl as), (0, gx_r 383), (1, .inl 0), (2, .inl 0), (3, .inl as)], [.inl 0, gx_r 399], t109, n, 0)) rfl (fun _ => rfl) rfl ?_
    refine ex_go (S := (89, [(4, .inl as), (0, gx_r 383), (1, .inl 0), (2, .inl 0), (3, .inl as)], [.inl 9, .inl 0, gx_r 399], t109, n, 0)) rfl (fun _ => rfl) rfl ?_
    refine ex_go (S := (90, [(4, .inl as), (0, gx_r 383), (1, .inl 0), (2, .inl 0), (3, .inl as)], [.inl 9, gx_r 399], t109, n, 0)) rfl (fun _ => rfl) rfl ?_
    refine ex_go (S := (91, [(4, .inl as), (0, gx_r 383), (1, .inl 0), (2, .inl 0), (3, .inl as)], [.inl 1, .inl 9, gx_r 399], t109, n, 0)) rfl (fun _ => rfl) rfl ?_
    refine ex_go (S := (92, [(4, .inl as), (0, gx_r 383), (1, .inl 0), (2, .inl 0), (3, .inl as)], [.inl 10, gx_r 399], t109, n, 0)) rfl (fun _ => rfl) rfl ?_
    refine ex_go (S := (93, [(4, .inl as), (0, gx_r 383), (1, .inl 0), (2, .inl 0), (3, .inl as)], [.inl 0, .inl 10, gx_r 399], t109, n, 0)) rfl (fun _ => rfl) rfl ?_
    refine ex_go (S := (94, [(4, .inl as), (0, gx_r 383), (1, .inl 0), (2, .inl 0), (3, .inl as)], [.inl 10, gx_r 399], t109, n, 0)) rfl (fun _ => rfl) rfl ?_
    refine ex_go (S := (95, [(4, .inl as), (0, gx_r 383), (1, .inl 0), (2, .inl 0), (3, .inl as)], [.inl 10, gx_r 399, .inl 10, gx_r 399], t109, n, 0)) rfl (fun _ => rfl) rfl ?_
    obtain ⟨m12, k13, m12b⟩ := gx_any (c := 399) (i := 10) g109 rfl rfl rfl
    refine gx_ag (v := .inl m12) (cb := fun c => Nat.beq c 0) rfl (fun _ => rfl) g109 rfl rfl k13 (by first | decide | omega) rfl ?_
    refine ex_go (S := (98, [(4, .inl as), (0, gx_r 383), (1, .inl 0), (2, .inl 0), (3, .inl as)], [.inl as, .inl m12, .inl 10, gx_r 399], t109, n, 0)) rfl (fun _ => rfl) rfl ?_
    refine gx_isubw rfl rfl (fun z14 z14b => ?_)
    refine gx_ap rfl (fun _ => rfl) g109 rfl rfl rfl (show 10 < 1035 from by omega) rfl (gx_full (by first | decide | omega)) rfl (fun t115 g115 k115 e115 => ?_)
    have k16 : ai_hv t115 399 7 = some (.inl (x - as)) := (e115 399 7 (by first | decide | omega)).trans k10
    have k17 : ai_hv t115 399 8 = some (.inl (y + as)) := (e115 399 8 (by first | decide | omega)).trans k11
    have k18 : ai_hv t115 399 9 = some (.inl z8) := (e115 399 9 (by first | decide | omega)).trans k109
    refine ex_go (S := (102, [(4, .inl as), (0, gx_r 383), (1, .inl 0), (2, .inl 0), (3, .inl as)], [.inl as], t115, n, 0)) rfl (fun _ => rfl) rfl ?_
    refine ex_ret (r := (some (.inl as), t115, n, 0)) rfl (fun _ => rfl) ?_
    exact ⟨_, rfl, as, t115, rfl, by omega, g115, px_E_two (b := 0) hE (fun c i h => (e115 c i (by first | decide | omega)).trans ((e109 c i (by first | decide | omega)).trans ((e104 c i (by first | decide | omega)).trans (e102 c i (by first | decide | omega))))) k16 k17 (by first | decide | omega), (fun c i h => (e115 c i (by first | decide | omega)).trans ((e109 c i (by first | decide | omega)).trans ((e104 c i (by first | decide | omega)).trans (e102 c i (by first | decide | omega)))))⟩
  · refine gx_2f (c := .le) rfl (by first | decide | omega) (by first | decide | omega) hc1 rfl ?_
    refine ex_go (S := (16, [(0, gx_r 383), (1, .inl 0), (2, .inl 0), (3, .inl as)], [gx_r 383], t0, n, 0)) rfl (fun _ => rfl) rfl ?_
    refine gx_ref (c := 399) rfl g0 rfl rfl rfl rfl ?_
    refine ex_go (S := (20, [(0, gx_r 383), (1, .inl 0), (2, .inl 0), (3, .inl as)], [.inl 0, gx_r 399], t0, n, 0)) rfl (fun _ => rfl) rfl ?_
    refine ex_go (S := (22, [(0, gx_r 383), (1, .inl 0), (2, .inl 0), (3, .inl as)], [.inl 7, .inl 0, gx_r 399], t0, n, 0)) rfl (fun _ => rfl) rfl ?_
    refine ex_go (S := (23, [(0, gx_r 383), (1, .inl 0), (2, .inl 0), (3, .inl as)], [.inl 7, gx_r 399], t0, n, 0)) rfl (fun _ => rfl) rfl ?_
    refine ex_go (S := (24, [(0, gx_r 383), (1, .inl 0), (2, .inl 0), (3, .inl as)], [.inl 0, .inl 7, gx_r 399], t0, n, 0)) rfl (fun _ => rfl) rfl ?_
    refine ex_go (S := (25, [(0, gx_r 383), (1, .inl 0), (2, .inl 0), (3, .inl as)], [.inl 7, gx_r 399], t0, n, 0)) rfl (fun _ => rfl) rfl ?_
    refine gx_ag (v := .inl x) (cb := fun c => Nat.beq c 0) rfl (fun _ => rfl) g0 rfl rfl kx (by first | decide | omega) rfl ?_
    refine ex_go (S := (30, [(0, gx_r 383), (1, .inl 0), (2, .inl 0), (3, .inl as)], [.inl x], t0, n, 0)) rfl (fun _ => rfl) rfl ?_
    refine ex_go (S := (32, [(4, .inl x), (0, gx_r 383), (1, .inl 0), (2, .inl 0), (3, .inl as)], [], t0, n, 0)) rfl (fun _ => rfl) rfl ?_
    refine ex_go (S := (33, [(4, .inl x), (0, gx_r 383), (1, .inl 0), (2, .inl 0), (3, .inl as)], [gx_r 383], t0, n, 0)) rfl (fun _ => rfl) rfl ?_
    refine gx_ref (c := 399) rfl g0 rfl rfl rfl rfl ?_
    refine ex_go (S := (37, [(4, .inl x), (0, gx_r 383), (1, .inl 0), (2, .inl 0), (3, .inl as)], [.inl 0, gx_r 399], t0, n, 0)) rfl (fun _ => rfl) rfl ?_
    refine ex_go (S := (39, [(4, .inl x), (0, gx_r 383), (1, .inl 0), (2, .inl 0), (3, .inl as)], [.inl 7, .inl 0, gx_r 399], t0, n, 0)) rfl (fun _ => rfl) rfl ?_
    refine ex_go (S := (40, [(4, .inl x), (0, gx_r 383), (1, .inl 0), (2, .inl 0), (3, .inl as)], [.inl 7, gx_r 399], t0, n, 0)) rfl (fun _ => rfl) rfl ?_
    refine ex_go (S := (41, [(4, .inl x), (0, gx_r 383), (1, .inl 0), (2, .inl 0), (3, .inl as)], [.inl 0, .inl 7, gx_r 399], t0, n, 0)) rfl (fun _ => rfl) rfl ?_
    refine ex_go (S := (42, [(4, .inl x), (0, gx_r 383), (1, .inl 0), (2, .inl 0), (3, .inl as)], [.inl 7, gx_r 399], t0, n, 0)) rfl (fun _ => rfl) rfl ?_
    refine ex_go (S := (43, [(4, .inl x), (0, gx_r 383), (1, .inl 0), (2, .inl 0), (3, .inl as)], [.inl 7, gx_r 399, .inl 7, gx_r 399], t0, n, 0)) rfl (fun _ => rfl) rfl ?_
    refine gx_ag (v := .inl x) (cb := fun c => Nat.beq c 0) rfl (fun _ => rfl) g0 rfl rfl kx (by first | decide | omega) rfl ?_
    refine ex_go (S := (46, [(4, .inl x), (0, gx_r 383), (1, .inl 0), (2, .inl 0), (3, .inl as)], [.inl x, .inl x, .inl 7, gx_r 399], t0, n, 0)) rfl (fun _ => rfl) rfl ?_
    refine gx_isub rfl (by first | decide | omega) (by first | decide | omega) rfl ?_
    refine gx_ap rfl (fun _ => rfl) g0 rfl rfl rfl (show 7 < 1035 from by omega) rfl (ai_in_h (by first | decide | omega) (by first | decide | omega) (by first | decide | omega)) rfl (fun t119 g119 k119 e119 => ?_)
    have k20 : ai_hv t119 399 8 = some (.inl y) := (e119 399 8 (by first | decide | omega)).trans ky
    refine ex_go (S := (49, [(4, .inl x), (0, gx_r 383), (1, .inl 0), (2, .inl 0), (3, .inl as)], [gx_r 383], t119, n, 0)) rfl (fun _ => rfl) rfl ?_
    refine gx_ref (c := 399) rfl g119 rfl rfl rfl rfl ?_
    refine ex_go (S := (53, [(4, .inl x), (0, gx_r 383), (1, .inl 0), (2, .inl 0), (3, .inl as)], [.inl 0, gx_r 399], t119, n, 0)) rfl (fun _ => rfl) rfl ?_
    refine ex_go (S := (55, [(4, .inl x), (0, gx_r 383), (1, .inl 0), (2, .inl 0), (3, .inl as)], [.inl 7, .inl 0, gx_r 399], t119, n, 0)) rfl (fun _ => rfl) rfl ?_
    refine ex_go (S := (56, [(4, .inl x), (0, gx_r 383), (1, .inl 0), (2, .inl 0), (3, .inl as)], [.inl 7, gx_r 399], t119, n, 0)) rfl (fun _ => rfl) rfl ?_
    refine ex_go (S := (57, [(4, .inl x), (0, gx_r 383), (1, .inl 0), (2, .inl 0), (3, .inl as)], [.inl 1, .inl 7, gx_r 399], t119, n, 0)) rfl (fun _ => rfl) rfl ?_
    refine ex_go (S := (58, [(4, .inl x), (0, gx_r 383), (1, .inl 0), (2, .inl 0), (3, .inl as)], [.inl 8, gx_r 399], t119, n, 0)) rfl (fun _ => rfl) rfl ?_
    refine ex_go (S := (59, [(4, .inl x), (0, gx_r 383), (1, .inl 0), (2, .inl 0), (3, .inl as)], [.inl 0, .inl 8, gx_r 399], t119, n, 0)) rfl (fun _ => rfl) rfl ?_
    refine ex_go (S := (60, [(4, .inl x), (0, gx_r 383), (1, .inl 0), (2, .inl 0), (3, .inl as)], [.inl 8, gx_r 399], t119, n, 0)) rfl (fun _ => rfl) rfl ?_
    refine ex_go (S := (61, [(4, .inl x), (0, gx_r 383), (1, .inl 0), (2, .inl 0), (3, .inl as)], [.inl 8, gx_r 399, .inl 8, gx_r 399], t119, n, 0)) rfl (fun _ => rfl) rfl ?_
    refine gx_ag (v := .inl y) (cb := fun c => Nat.beq c 0) rfl (fun _ => rfl) g119 rfl rfl k20 (by first | decide | omega) rfl ?_
    refine ex_go (S := (64, [(4, .inl x), (0, gx_r 383), (1, .inl 0), (2, .inl 0), (3, .inl as)], [.inl x, .inl y, .inl 8, gx_r 399], t119, n, 0)) rfl (fun _ => rfl) rfl ?_
    refine ex_iadd rfl (by first | decide | omega) rfl ?_
    refine gx_ap rfl (fun _ => rfl) g119 rfl rfl rfl (show 8 < 1035 from by omega) rfl (ai_in_h (by first | decide | omega) (by first | decide | omega) (by first | decide | omega)) rfl (fun t121 g121 k121 e121 => ?_)
    have k22 : ai_hv t121 399 7 = some (.inl (x - x)) := (e121 399 7 (by first | decide | omega)).trans k119
    refine ex_go (S := (67, [(4, .inl x), (0, gx_r 383), (1, .inl 0), (2, .inl 0), (3, .inl as)], [gx_r 383], t121, n, 0)) rfl (fun _ => rfl) rfl ?_
    refine gx_ref (c := 399) rfl g121 rfl rfl rfl rfl ?_
    refine ex_go (S := (71, [(4, .inl x), (0, gx_r 383), (1, .inl 0), (2, .inl 0), (3, .inl as)], [.inl 0, gx_r 399], t121, n, 0)) rfl (fun _ => rfl) rfl ?_
    refine ex_go (S := (73, [(4, .inl x), (0, gx_r 383), (1, .inl 0), (2, .inl 0), (3, .inl as)], [.inl 9, .inl 0, gx_r 399], t121, n, 0)) rfl (fun _ => rfl) rfl ?_
    refine ex_go (S := (74, [(4, .inl x), (0, gx_r 383), (1, .inl 0), (2, .inl 0), (3, .inl as)], [.inl 9, gx_r 399], t121, n, 0)) rfl (fun _ => rfl) rfl ?_
    refine ex_go (S := (75, [(4, .inl x), (0, gx_r 383), (1, .inl 0), (2, .inl 0), (3, .inl as)], [.inl 0, .inl 9, gx_r 399], t121, n, 0)) rfl (fun _ => rfl) rfl ?_
    refine ex_go (S := (76, [(4, .inl x), (0, gx_r 383), (1, .inl 0), (2, .inl 0), (3, .inl as)], [.inl 9, gx_r 399], t121, n, 0)) rfl (fun _ => rfl) rfl ?_
    refine ex_go (S := (77, [(4, .inl x), (0, gx_r 383), (1, .inl 0), (2, .inl 0), (3, .inl as)], [.inl 9, gx_r 399, .inl 9, gx_r 399], t121, n, 0)) rfl (fun _ => rfl) rfl ?_
    obtain ⟨m23, k24, m23b⟩ := gx_any (c := 399) (i := 9) g121 rfl rfl rfl
    refine gx_ag (v := .inl m23) (cb := fun c => Nat.beq c 0) rfl (fun _ => rfl) g121 rfl rfl k24 (by first | decide | omega) rfl ?_
    refine ex_go (S := (80, [(4, .inl x), (0, gx_r 383), (1, .inl 0), (2, .inl 0), (3, .inl as)], [.inl x, .inl m23, .inl 9, gx_r 399], t121, n, 0)) rfl (fun _ => rfl) rfl ?_
    refine gx_iaddw rfl rfl (fun z25 z25b => ?_)
    refine gx_ap rfl (fun _ => rfl) g121 rfl rfl rfl (show 9 < 1035 from by omega) rfl (gx_full (by first | decide | omega)) rfl (fun t126 g126 k126 e126 => ?_)
    have k27 : ai_hv t126 399 7 = some (.inl (x - x)) := (e126 399 7 (by first | decide | omega)).trans k22
    have k28 : ai_hv t126 399 8 = some (.inl (y + x)) := (e126 399 8 (by first | decide | omega)).trans k121
    refine ex_go (S := (83, [(4, .inl x), (0, gx_r 383), (1, .inl 0), (2, .inl 0), (3, .inl as)], [gx_r 383], t126, n, 0)) rfl (fun _ => rfl) rfl ?_
    refine gx_ref (c := 399) rfl g126 rfl rfl rfl rfl ?_
    refine ex_go (S := (87, [(4, .inl x), (0, gx_r 383), (1, .inl 0), (2, .inl 0), (3, .inl as)], [.inl 0, gx_r 399], t126, n, 0)) rfl (fun _ => rfl) rfl ?_
    refine ex_go (S := (89, [(4, .inl x), (0, gx_r 383), (1, .inl 0), (2, .inl 0), (3, .inl as)], [.inl 9, .inl 0, gx_r 399], t126, n, 0)) rfl (fun _ => rfl) rfl ?_
    refine ex_go (S := (90, [(4, .inl x), (0, gx_r 383), (1, .inl 0), (2, .inl 0), (3, .inl as)], [.inl 9, gx_r 399], t126, n, 0)) rfl (fun _ => rfl) rfl ?_
    refine ex_go (S := (91, [(4, .inl x), (0, gx_r 383), (1, .inl 0), (2, .inl 0), (3, .inl as)], [.inl 1, .inl 9, gx_r 399], t126, n, 0)) rfl (fun _ => rfl) rfl ?_
    refine ex_go (S := (92, [(4, .inl x), (0, gx_r 383), (1, .inl 0), (2, .inl 0), (3, .inl as)], [.inl 10, gx_r 399], t126, n, 0)) rfl (fun _ => rfl) rfl ?_
    refine ex_go (S := (93, [(4, .inl x), (0, gx_r 383), (1, .inl 0), (2, .inl 0), (3, .inl as)], [.inl 0, .inl 10, gx_r 399], t126, n, 0)) rfl (fun _ => rfl) rfl ?_
    refine ex_go (S := (94, [(4, .inl x), (0, gx_r 383), (1, .inl 0), (2, .inl 0), (3, .inl as)], [.inl 10, gx_r 399], t126, n, 0)) rfl (fun _ => rfl) rfl ?_
    refine ex_go (S := (95, [(4, .inl x), (0, gx_r 383), (1, .inl 0), (2, .inl 0), (3, .inl as)], [.inl 10, gx_r 399, .inl 10, gx_r 399], t126, n, 0)) rfl (fun _ => rfl) rfl ?_
    obtain ⟨m29, k30, m29b⟩ := gx_any (c := 399) (i := 10) g126 rfl rfl rfl
    refine gx_ag (v := .inl m29) (cb := fun c => Nat.beq c 0) rfl (fun _ => rfl) g126 rfl rfl k30 (by first | decide | omega) rfl ?_
    refine ex_go (S := (98, [(4, .inl x), (0, gx_r 383), (1, .inl 0), (2, .inl 0), (3, .inl as)], [.inl x, .inl m29, .inl 10, gx_r 399], t126, n, 0)) rfl (fun _ => rfl) rfl ?_
    refine gx_isubw rfl rfl (fun z31 z31b => ?_)
    refine gx_ap rfl (fun _ => rfl) g126 rfl rfl rfl (show 10 < 1035 from by omega) rfl (gx_full (by first | decide | omega)) rfl (fun t132 g132 k132 e132 => ?_)
    have k33 : ai_hv t132 399 7 = some (.inl (x - x)) := (e132 399 7 (by first | decide | omega)).trans k27
    have k34 : ai_hv t132 399 8 = some (.inl (y + x)) := (e132 399 8 (by first | decide | omega)).trans k28
    have k35 : ai_hv t132 399 9 = some (.inl z25) := (e132 399 9 (by first | decide | omega)).trans k126
    refine ex_go (S := (102, [(4, .inl x), (0, gx_r 383), (1, .inl 0), (2, .inl 0), (3, .inl as)], [.inl x], t132, n, 0)) rfl (fun _ => rfl) rfl ?_
    refine ex_ret (r := (some (.inl x), t132, n, 0)) rfl (fun _ => rfl) ?_
    exact ⟨_, rfl, x, t132, rfl, by omega, g132, px_E_two (b := 0) hE (fun c i h => (e132 c i (by first | decide | omega)).trans ((e126 c i (by first | decide | omega)).trans ((e121 c i (by first | decide | omega)).trans (e119 c i (by first | decide | omega))))) k33 k34 (by first | decide | omega), (fun c i h => (e132 c i (by first | decide | omega)).trans ((e126 c i (by first | decide | omega)).trans ((e121 c i (by first | decide | omega)).trans (e119 c i (by first | decide | omega)))))⟩
set_option maxRecDepth 100000 in
theorem pk_lends0_1 (d n : Nat) {t0 : en_H} {as : Nat} (g0 : ai_HG ah_G t0) (hE : ai_E t0) (has : as ≤ 999) : ∃ r, en_u (d + 1) 120 [gx_r 383, .inl 0, .inl 1, .inl as] t0 n = some r ∧ ∃ v t', r = (some (.inl v), t', n, 0) ∧ v < 4294967296 ∧ ai_HG ah_G t' ∧ ai_E t' ∧ (∀ c i, ¬ (c = 399 ∧ i < 1035) → ai_hv t' c i = ai_hv t0 c i) := by
  obtain ⟨x, y, kx, ky, hxy⟩ := hE.2.2.2.1 0 (by decide)
  refine en_u_ex rfl ?_
  show en_ex _ _ _ _ (0, [(0, gx_r 383), (1, .inl 0), (2, .inl 1), (3, .inl as)], [], t0, n, 0) _
  refine ex_go (S := (1, [(0, gx_r 383), (1, .inl 0), (2, .inl 1), (3, .inl as)], [.inl as], t0, n, 0)) rfl (fun _ => rfl) rfl ?_
  refine ex_go (S := (2, [(0, gx_r 383), (1, .inl 0), (2, .inl 1), (3, .inl as)], [gx_r 383, .inl as], t0, n, 0)) rfl (fun _ => rfl) rfl ?_
  refine gx_ref (c := 399) rfl g0 rfl rfl rfl rfl ?_
  refine ex_go (S := (6, [(0, gx_r 383), (1, .inl 0), (2, .inl 1), (3, .inl as)], [.inl 0, gx_r 399, .inl as], t0, n, 0)) rfl (fun _ => rfl) rfl ?_
  refine ex_go (S := (8, [(0, gx_r 383), (1, .inl 0), (2, .inl 1), (3, .inl as)], [.inl 7, .inl 0, gx_r 399, .inl as], t0, n, 0)) rfl (fun _ => rfl) rfl ?_
  refine ex_go (S := (9, [(0, gx_r 383), (1, .inl 0), (2, .inl 1), (3, .inl as)], [.inl 7, gx_r 399, .inl as], t0, n, 0)) rfl (fun _ => rfl) rfl ?_
  refine ex_go (S := (10, [(0, gx_r 383), (1, .inl 0), (2, .inl 1), (3, .inl as)], [.inl 1, .inl 7, gx_r 399, .inl as], t0, n, 0)) rfl (fun _ => rfl) rfl ?_
  refine ex_go (S := (11, [(0, gx_r 383), (1, .inl 0), (2, .inl 1), (3, .inl as)], [.inl 8, gx_r 399, .inl as], t0, n, 0)) rfl (fun _ => rfl) rfl ?_
  refine gx_ag (v := .inl y) (cb := fun c => Nat.beq c 0) rfl (fun _ => rfl) g0 rfl rfl ky (by first | decide | omega) rfl ?_
  by_cases hc1 : as ≤ y
  · refine gx_2t (c := .le) rfl (by first | decide | omega) (by first | decide | omega) hc1 rfl ?_
    refine ex_go (S := (30, [(0, gx_r 383), (1, .inl 0), (2, .inl 1), (3, .inl as)], [.inl as], t0, n, 0)) rfl (fun _ => rfl) rfl ?_
    refine ex_go (S := (32, [(4, .inl as), (0, gx_r 383), (1, .inl 0), (2, .inl 1), (3, .inl as)], [], t0, n, 0)) rfl (fun _ => rfl) rfl ?_
    refine ex_go (S := (33, [(4, .inl as), (0, gx_r 383), (1, .inl 0), (2, .inl 1), (3, .inl as)], [gx_r 383], t0, n, 0)) rfl (fun _ => rfl) rfl ?_
    refine gx_ref (c := 399) rfl g0 rfl rfl rfl rfl ?_
    refine ex_go (S := (37, [(4, .inl as), (0, gx_r 383), (1, .inl 0), (2, .inl 1), (3, .inl as)], [.inl 0, gx_r 399], t0, n, 0)) rfl (fun _ => rfl) rfl ?_
    refine ex_go (S := (39, [(4, .inl as), (0, gx_r 383), (1, .inl 0), (2, .inl 1), (3, .inl as)], [.inl 7, .inl 0, gx_r 399], t0, n, 0)) rfl (fun _ => rfl) rfl ?_
    refine ex_go (S := (40, [(4, .inl as), (0, gx_r 383), (1, .inl 0), (2, .inl 1), (3, .inl as)], [.inl 7, gx_r 399], t0, n, 0)) rfl (fun _ => rfl) rfl ?_
    refine ex_go (S := (41, [(4, .inl as), (0, gx_r 383), (1, .inl 0), (2, .inl 1), (3, .inl as)], [.inl 1, .inl 7, gx_r 399], t0, n, 0)) rfl (fun _ => rfl) rfl ?_
    refine ex_go (S := (42, [(4, .inl as), (0, gx_r 383), (1, .inl 0), (2, .inl 1), (3, .inl as)], [.inl 8, gx_r 399], t0, n, 0)) rfl (fun _ => rfl) rfl ?_
    refine ex_go (S := (43, [(4, .inl as), (0, gx_r 383), (1, .inl 0), (2, .inl 1), (3, .inl as)], [.inl 8, gx_r 399, .inl 8, gx_r 399], t0, n, 0)) rfl (fun _ => rfl) rfl ?_
    refine gx_ag (v := .inl y) (cb := fun c => Nat.beq c 0) rfl (fun _ => rfl) g0 rfl rfl ky (by first | decide | omega) rfl ?_
    refine ex_go (S := (46, [(4, .inl as), (0, gx_r 383), (1, .inl 0), (2, .inl 1), (3, .inl as)], [.inl as, .inl y, .inl 8, gx_r 399], t0, n, 0)) rfl (fun _ => rfl) rfl ?_
    refine gx_isub rfl (by first | decide | omega) (by first | decide | omega) rfl ?_
    refine gx_ap rfl (fun _ => rfl) g0 rfl rfl rfl (show 8 < 1035 from by omega) rfl (ai_in_h (by first | decide | omega) (by first | decide | omega) (by first | decide | omega)) rfl (fun t102 g102 k102 e102 => ?_)
    have k3 : ai_hv t102 399 7 = some (.inl x) := (e102 399 7 (by first | decide | omega)).trans kx
    refine ex_go (S := (49, [(4, .inl as), (0, gx_r 383), (1, .inl 0), (2, .inl 1), (3, .inl as)], [gx_r 383], t102, n, 0)) rfl (fun _ => rfl) rfl ?_
    refine gx_ref (c := 399) rfl g102 rfl rfl rfl rfl ?_
    refine ex_go (S := (53, [(4, .inl as), (0, gx_r 383), (1, .inl 0), (2, .inl 1), (3, .inl as)], [.inl 0, gx_r 399], t102, n, 0)) rfl (fun _ => rfl) rfl ?_
    refine ex_go (S := (55, [(4, .inl as), (0, gx_r 383), (1, .inl 0), (2, .inl 1), (3, .inl as)], [.inl 7, .inl 0, gx_r 399], t102, n, 0)) rfl (fun _ => rfl) rfl ?_
    refine ex_go (S := (56, [(4, .inl as), (0, gx_r 383), (1, .inl 0), (2, .inl 1), (3, .inl as)], [.inl 7, gx_r 399], t102, n, 0)) rfl (fun _ => rfl) rfl ?_
    refine ex_go (S := (57, [(4, .inl as), (0, gx_r 383), (1, .inl 0), (2, .inl 1), (3, .inl as)], [.inl 1, .inl 7, gx_r 399], t102, n, 0)) rfl (fun _ => rfl) rfl ?_
    refine ex_go (S := (58, [(4, .inl as), (0, gx_r 383), (1, .inl 0), (2, .inl 1), (3, .inl as)], [.inl 8, gx_r 399], t102, n, 0)) rfl (fun _ => rfl) rfl ?_
    refine ex_go (S := (59, [(4, .inl as), (0, gx_r 383), (1, .inl 0), (2, .inl 1), (3, .inl as)], [.inl 1, .inl 8, gx_r 399], t102, n, 0)) rfl (fun _ => rfl) rfl ?_
    refine ex_go (S := (60, [(4, .inl as), (0, gx_r 383), (1, .inl 0), (2, .inl 1), (3, .inl as)], [.inl 7, gx_r 399], t102, n, 0)) rfl (fun _ => rfl) rfl ?_
    refine ex_go (S := (61, [(4, .inl as), (0, gx_r 383), (1, .inl 0), (2, .inl 1), (3, .inl as)], [.inl 7, gx_r 399, .inl 7, gx_r 399], t102, n, 0)) rfl (fun _ => rfl) rfl ?_
    refine gx_ag (v := .inl x) (cb := fun c => Nat.beq c 0) rfl (fun _ => rfl) g102 rfl rfl k3 (by first | decide | omega) rfl ?_
    refine ex_go (S := (64, [(4, .inl as), (0, gx_r 383), (1, .inl 0), (2, .inl 1), (3, .inl as)], [.inl as, .inl x, .inl 7, gx_r 399], t102, n, 0)) rfl (fun _ => rfl) rfl ?_
    refine ex_iadd rfl (by first | decide | omega) rfl ?_
    refine gx_ap rfl (fun _ => rfl) g102 rfl rfl rfl (show 7 < 1035 from by omega) rfl (ai_in_h (by first | decide | omega) (by first | decide | omega) (by first | decide | omega)) rfl (fun t104 g104 k104 e104 => ?_)
    have k5 : ai_hv t104 399 8 = some (.inl (y - as)) := (e104 399 8 (by first | decide | omega)).trans k102
    refine ex_go (S := (67, [(4, .inl as), (0, gx_r 383), (1, .inl 0), (2, .inl 1), (3, .inl as)], [gx_r 383], t104, n, 0)) rfl (fun _ => rfl) rfl ?_
    refine gx_ref (c := 399) rfl g104 rfl rfl rfl rfl ?_
    refine ex_go (S := (71, [(4, .inl as), (0, gx_r 383), (1, .inl 0), (2, .inl 1), (3, .inl as)], [.inl 0, gx_r 399], t104, n, 0)) rfl (fun _ => rfl) rfl ?_
    refine ex_go (S := (73, [(4, .inl as), (0, gx_r 383), (1, .inl 0), (2, .inl 1), (3, .inl as)], [.inl 9, .inl 0, gx_r 399], t104, n, 0)) rfl (fun _ => rfl) rfl ?_
    refine ex_go (S := (74, [(4, .inl as), (0, gx_r 383), (1, .inl 0), (2, .inl 1), (3, .inl as)], [.inl 9, gx_r 399], t104, n, 0)) rfl (fun _ => rfl) rfl ?_
    refine ex_go (S := (75, [(4, .inl as), (0, gx_r 383), (1, .inl 0), (2, .inl 1), (3, .inl as)], [.inl 1, .inl 9, gx_r 399], t104, n, 0)) rfl (fun _ => rfl) rfl ?_
    refine ex_go (S := (76, [(4, .inl as), (0, gx_r 383), (1, .inl 0), (2, .inl 1), (3, .inl as)], [.inl 10, gx_r 399], t104, n, 0)) rfl (fun _ => rfl) rfl ?_
    refine ex_go (S := (77, [(4, .inl as), (0, gx_r 383), (1, .inl 0), (2, .inl 1), (3, .inl as)], [.inl 10, gx_r 399, .inl 10, gx_r 399], t104, n, 0)) rfl (fun _ => rfl) rfl ?_
    obtain ⟨m6, k7, m6b⟩ := gx_any (c := 399) (i := 10) g104 rfl rfl rfl
    refine gx_ag (v := .inl m6) (cb := fun c => Nat.beq c 0) rfl (fun _ => rfl) g104 rfl rfl k7 (by first | decide | omega) rfl ?_
    refine ex_go (S := (80, [(4, .inl as), (0, gx_r 383), (1, .inl 0), (2, .inl 1), (3, .inl as)], [.inl as, .inl m6, .inl 10, gx_r 399], t104, n, 0)) rfl (fun _ => rfl) rfl ?_
    refine gx_iaddw rfl rfl (fun z8 z8b => ?_)
    refine gx_ap rfl (fun _ => rfl) g104 rfl rfl rfl (show 10 < 1035 from by omega) rfl (gx_full (by first | decide | omega)) rfl (fun t109 g109 k109 e109 => ?_)
    have k10 : ai_hv t109 399 8 = some (.inl (y - as)) := (e109 399 8 (by first | decide | omega)).trans k5
    have k11 : ai_hv t109 399 7 = some (.inl (x + as)) := (e109 399 7 (by first | decide | omega)).trans k104
    refine ex_go (S := (83, [(4, .inl as), (0, gx_r 383), (1, .inl 0), (2, .inl 1), (3, .inl as)], [gx_r 383], t109, n, 0)) rfl (fun _ => rfl) rfl ?_
    refine gx_ref (c := 399) rfl g109 rfl rfl rfl rfl ?_
    refine ex_go (S := (87, [(4, .inl as), (0, gx_r 383), (1, .inl 0), (2, .inl 1), (3, .inl as)], [.inl 0, gx_r 399], t109, n, 0)) rfl (fun _ => rfl) rfl ?_
    refine ex_go (S := (89, [(4, .inl as), (0, gx_r 383), (1, .inl 0), (2, .inl 1), (3, .inl as)], [.inl 9, .inl 0, gx_r 399], t109, n, 0)) rfl (fun _ => rfl) rfl ?_
    refine ex_go (S := (90, [(4, .inl as), (0, gx_r 383), (1, .inl 0), (2, .inl 1), (3, .inl as)], [.inl 9, gx_r 399], t109, n, 0)) rfl (fun _ => rfl) rfl ?_
    refine ex_go (S := (91, [(4, .inl as), (0, gx_r 383), (1, .inl 0), (2, .inl 1), (3, .inl as)], [.inl 1, .inl 9, gx_r 399], t109, n, 0)) rfl (fun _ => rfl) rfl ?_
    refine ex_go (S := (92, [(4, .inl as), (0, gx_r 383), (1, .inl 0), (2, .inl 1), (3, .inl as)], [.inl 10, gx_r 399], t109, n, 0)) rfl (fun _ => rfl) rfl ?_
    refine ex_go (S := (93, [(4, .inl as), (0, gx_r 383), (1, .inl 0), (2, .inl 1), (3, .inl as)], [.inl 1, .inl 10, gx_r 399], t109, n, 0)) rfl (fun _ => rfl) rfl ?_
    refine ex_go (S := (94, [(4, .inl as), (0, gx_r 383), (1, .inl 0), (2, .inl 1), (3, .inl as)], [.inl 9, gx_r 399], t109, n, 0)) rfl (fun _ => rfl) rfl ?_
    refine ex_go (S := (95, [(4, .inl as), (0, gx_r 383), (1, .inl 0), (2, .inl 1), (3, .inl as)], [.inl 9, gx_r 399, .inl 9, gx_r 399], t109, n, 0)) rfl (fun _ => rfl) rfl ?_
    obtain ⟨m12, k13, m12b⟩ := gx_any (c := 399) (i := 9) g109 rfl rfl rfl
    refine gx_ag (v := .inl m12) (cb := fun c => Nat.beq c 0) rfl (fun _ => rfl) g109 rfl rfl k13 (by first | decide | omega) rfl ?_
    refine ex_go (S := (98, [(4, .inl as), (0, gx_r 383), (1, .inl 0), (2, .inl 1), (3, .inl as)], [.inl as, .inl m12, .inl 9, gx_r 399], t109, n, 0)) rfl (fun _ => rfl) rfl ?_
    refine gx_isubw rfl rfl (fun z14 z14b => ?_)
    refine gx_ap rfl (fun _ => rfl) g109 rfl rfl rfl (show 9 < 1035 from by omega) rfl (gx_full (by first | decide | omega)) rfl (fun t115 g115 k115 e115 => ?_)
    have k16 : ai_hv t115 399 8 = some (.inl (y - as)) := (e115 399 8 (by first | decide | omega)).trans k10
    have k17 : ai_hv t115 399 7 = some (.inl (x + as)) := (e115 399 7 (by first | decide | omega)).trans k11
    have k18 : ai_hv t115 399 10 = some (.inl z8) := (e115 399 10 (by first | decide | omega)).trans k109
    refine ex_go (S := (102, [(4, .inl as), (0, gx_r 383), (1, .inl 0), (2, .inl 1), (3, .inl as)], [.inl as], t115, n, 0)) rfl (fun _ => rfl) rfl ?_
    refine ex_ret (r := (some (.inl as), t115, n, 0)) rfl (fun _ => rfl) ?_
    exact ⟨_, rfl, as, t115, rfl, by omega, g115, px_E_two (b := 0) hE (fun c i h => (e115 c i (by first | decide | omega)).trans ((e109 c i (by first | decide | omega)).trans ((e104 c i (by first | decide | omega)).trans (e102 c i (by first | decide | omega))))) k17 k16 (by first | decide | omega), (fun c i h => (e115 c i (by first | decide | omega)).trans ((e109 c i (by first | decide | omega)).trans ((e104 c i (by first | decide | omega)).trans (e102 c i (by first | decide | omega)))))⟩
  · refine gx_2f (c := .le) rfl (by first | decide | omega) (by first | decide | omega) hc1 rfl ?_
    refine ex_go (S := (16, [(0, gx_r 383), (1, .inl 0), (2, .inl 1), (3, .inl as)], [gx_r 383], t0, n, 0)) rfl (fun _ => rfl) rfl ?_
    refine gx_ref (c := 399) rfl g0 rfl rfl rfl rfl ?_
    refine ex_go (S := (20, [(0, gx_r 383), (1, .inl 0), (2, .inl 1), (3, .inl as)], [.inl 0, gx_r 399], t0, n, 0)) rfl (fun _ => rfl) rfl ?_
    refine ex_go (S := (22, [(0, gx_r 383), (1, .inl 0), (2, .inl 1), (3, .inl as)], [.inl 7, .inl 0, gx_r 399], t0, n, 0)) rfl (fun _ => rfl) rfl ?_
    refine ex_go (S := (23, [(0, gx_r 383), (1, .inl 0), (2, .inl 1), (3, .inl as)], [.inl 7, gx_r 399], t0, n, 0)) rfl (fun _ => rfl) rfl ?_
    refine ex_go (S := (24, [(0, gx_r 383), (1, .inl 0), (2, .inl 1), (3, .inl as)], [.inl 1, .inl 7, gx_r 399], t0, n, 0)) rfl (fun _ => rfl) rfl ?_
    refine ex_go (S := (25, [(0, gx_r 383), (1, .inl 0), (2, .inl 1), (3, .inl as)], [.inl 8, gx_r 399], t0, n, 0)) rfl (fun _ => rfl) rfl ?_
    refine gx_ag (v := .inl y) (cb := fun c => Nat.beq c 0) rfl (fun _ => rfl) g0 rfl rfl ky (by first | decide | omega) rfl ?_
    refine ex_go (S := (30, [(0, gx_r 383), (1, .inl 0), (2, .inl 1), (3, .inl as)], [.inl y], t0, n, 0)) rfl (fun _ => rfl) rfl ?_
    refine ex_go (S := (32, [(4, .inl y), (0, gx_r 383), (1, .inl 0), (2, .inl 1), (3, .inl as)], [], t0, n, 0)) rfl (fun _ => rfl) rfl ?_
    refine ex_go (S := (33, [(4, .inl y), (0, gx_r 383), (1, .inl 0), (2, .inl 1), (3, .inl as)], [gx_r 383], t0, n, 0)) rfl (fun _ => rfl) rfl ?_
    refine gx_ref (c := 399) rfl g0 rfl rfl rfl rfl ?_
    refine ex_go (S := (37, [(4, .inl y), (0, gx_r 383), (1, .inl 0), (2, .inl 1), (3, .inl as)], [.inl 0, gx_r 399], t0, n, 0)) rfl (fun _ => rfl) rfl ?_
    refine ex_go (S := (39, [(4, .inl y), (0, gx_r 383), (1, .inl 0), (2, .inl 1), (3, .inl as)], [.inl 7, .inl 0, gx_r 399], t0, n, 0)) rfl (fun _ => rfl) rfl ?_
    refine ex_go (S := (40, [(4, .inl y), (0, gx_r 383), (1, .inl 0), (2, .inl 1), (3, .inl as)], [.inl 7, gx_r 399], t0, n, 0)) rfl (fun _ => rfl) rfl ?_
    refine ex_go (S := (41, [(4, .inl y), (0, gx_r 383), (1, .inl 0), (2, .inl 1), (3, .inl as)], [.inl 1, .inl 7, gx_r 399], t0, n, 0)) rfl (fun _ => rfl) rfl ?_
    refine ex_go (S := (42, [(4, .inl y), (0, gx_r 383), (1, .inl 0), (2, .inl 1), (3, .inl as)], [.inl 8, gx_r 399], t0, n, 0)) rfl (fun _ => rfl) rfl ?_
    refine ex_go (S := (43, [(4, .inl y), (0, gx_r 383), (1, .inl 0), (2, .inl 1), (3, .inl as)], [.inl 8, gx_r 399, .inl 8, gx_r 399], t0, n, 0)) rfl (fun _ => rfl) rfl ?_
    refine gx_ag (v := .inl y) (cb := fun c => Nat.beq c 0) rfl (fun _ => rfl) g0 rfl rfl ky (by first | decide | omega) rfl ?_
    refine ex_go (S := (46, [(4, .inl y), (0, gx_r 383), (1, .inl 0), (2, .inl 1), (3, .inl as)], [.inl y, .inl y, .inl 8, gx_r 399], t0, n, 0)) rfl (fun _ => rfl) rfl ?_
    refine gx_isub rfl (by first | decide | omega) (by first | decide | omega) rfl ?_
    refine gx_ap rfl (fun _ => rfl) g0 rfl rfl rfl (show 8 < 1035 from by omega) rfl (ai_in_h (by first | decide | omega) (by first | decide | omega) (by first | decide | omega)) rfl (fun t119 g119 k119 e119 => ?_)
    have k20 : ai_hv t119 399 7 = some (.inl x) := (e119 399 7 (by first | decide | omega)).trans kx
    refine ex_go (S := (49, [(4, .inl y), (0, gx_r 383), (1, .inl 0), (2, .inl 1), (3, .inl as)], [gx_r 383], t119, n, 0)) rfl (fun _ => rfl) rfl ?_
    refine gx_ref (c := 399) rfl g119 rfl rfl rfl rfl ?_
    refine ex_go (S := (53, [(4, .inl y), (0, gx_r 383), (1, .inl 0), (2, .inl 1), (3, .inl as)], [.inl 0, gx_r 399], t119, n, 0)) rfl (fun _ => rfl) rfl ?_
    refine ex_go (S := (55, [(4, .inl y), (0, gx_r 383), (1, .inl 0), (2, .inl 1), (3, .inl as)], [.inl 7, .inl 0, gx_r 399], t119, n, 0)) rfl (fun _ => rfl) rfl ?_
    refine ex_go (S := (56, [(4, .inl y), (0, gx_r 383), (1, .inl 0), (2, .inl 1), (3, .inl as)], [.inl 7, gx_r 399], t119, n, 0)) rfl (fun _ => rfl) rfl ?_
    refine ex_go (S := (57, [(4, .inl y), (0, gx_r 383), (1, .inl 0), (2, .inl 1), (3, .inl as)], [.inl 1, .inl 7, gx_r 399], t119, n, 0)) rfl (fun _ => rfl) rfl ?_
    refine ex_go (S := (58, [(4, .inl y), (0, gx_r 383), (1, .inl 0), (2, .inl 1), (3, .inl as)], [.inl 8, gx_r 399], t119, n, 0)) rfl (fun _ => rfl) rfl ?_
    refine ex_go (S := (59, [(4, .inl y), (0, gx_r 383), (1, .inl 0), (2, .inl 1), (3, .inl as)], [.inl 1, .inl 8, gx_r 399], t119, n, 0)) rfl (fun _ => rfl) rfl ?_
    refine ex_go (S := (60, [(4, .inl y), (0, gx_r 383), (1, .inl 0), (2, .inl 1), (3, .inl as)], [.inl 7, gx_r 399], t119, n, 0)) rfl (fun _ => rfl) rfl ?_
    refine ex_go (S := (61, [(4, .inl y), (0, gx_r 383), (1, .inl 0), (2, .inl 1), (3, .inl as)], [.inl 7, gx_r 399, .inl 7, gx_r 399], t119, n, 0)) rfl (fun _ => rfl) rfl ?_
    refine gx_ag (v := .inl x) (cb := fun c => Nat.beq c 0) rfl (fun _ => rfl) g119 rfl rfl k20 (by first | decide | omega) rfl ?_
    refine ex_go (S := (64, [(4, .inl y), (0, gx_r 383), (1, .inl 0), (2, .inl 1), (3, .inl as)], [.inl y, .inl x, .inl 7, gx_r 399], t119, n, 0)) rfl (fun _ => rfl) rfl ?_
    refine ex_iadd rfl (by first | decide | omega) rfl ?_
    refine gx_ap rfl (fun _ => rfl) g119 rfl rfl rfl (show 7 < 1035 from by omega) rfl (ai_in_h (by first | decide | omega) (by first | decide | omega) (by first | decide | omega)) rfl (fun t121 g121 k121 e121 => ?_)
    have k22 : ai_hv t121 399 8 = some (.inl (y - y)) := (e121 399 8 (by first | decide | omega)).trans k119
    refine ex_go (S := (67, [(4, .inl y), (0, gx_r 383), (1, .inl 0), (2, .inl 1), (3, .inl as)], [gx_r 383], t121, n, 0)) rfl (fun _ => rfl) rfl ?_
    refine gx_ref (c := 399) rfl g121 rfl rfl rfl rfl ?_
    refine ex_go (S := (71, [(4, .inl y), (0, gx_r 383), (1, .inl 0), (2, .inl 1), (3, .inl as)], [.inl 0, gx_r 399], t121, n, 0)) rfl (fun _ => rfl) rfl ?_
    refine ex_go (S := (73, [(4, .inl y), (0, gx_r 383), (1, .inl 0), (2, .inl 1), (3, .inl as)], [.inl 9, .inl 0, gx_r 399], t121, n, 0)) rfl (fun _ => rfl) rfl ?_
    refine ex_go (S := (74, [(4, .inl y), (0, gx_r 383), (1, .inl 0), (2, .inl 1), (3, .inl as)], [.inl 9, gx_r 399], t121, n, 0)) rfl (fun _ => rfl) rfl ?_
    refine ex_go (S := (75, [(4, .inl y), (0, gx_r 383), (1, .inl 0), (2, .inl 1), (3, .inl as)], [.inl 1, .inl 9, gx_r 399], t121, n, 0)) rfl (fun _ => rfl) rfl ?_
    refine ex_go (S := (76, [(4, .inl y), (0, gx_r 383), (1, .inl 0), (2, .inl 1), (3, .inl as)], [.inl 10, gx_r 399], t121, n, 0)) rfl (fun _ => rfl) rfl ?_
    refine ex_go (S := (77, [(4, .inl y), (0, gx_r 383), (1, .inl 0), (2, .inl 1), (3, .inl as)], [.inl 10, gx_r 399, .inl 10, gx_r 399], t121, n, 0)) rfl (fun _ => rfl) rfl ?_
    obtain ⟨m23, k24, m23b⟩ := gx_any (c := 399) (i := 10) g121 rfl rfl rfl
    refine gx_ag (v := .inl m23) (cb := fun c => Nat.beq c 0) rfl (fun _ => rfl) g121 rfl rfl k24 (by first | decide | omega) rfl ?_
    refine ex_go (S := (80, [(4, .inl y), (0, gx_r 383), (1, .inl 0), (2, .inl 1), (3, .inl as)], [.inl y, .inl m23, .inl 10, gx_r 399], t121, n, 0)) rfl (fun _ => rfl) rfl ?_
    refine gx_iaddw rfl rfl (fun z25 z25b => ?_)
    refine gx_ap rfl (fun _ => rfl) g121 rfl rfl rfl (show 10 < 1035 from by omega) rfl (gx_full (by first | decide | omega)) rfl (fun t126 g126 k126 e126 => ?_)
    have k27 : ai_hv t126 399 8 = some (.inl (y - y)) := (e126 399 8 (by first | decide | omega)).trans k22
    have k28 : ai_hv t126 399 7 = some (.inl (x + y)) := (e126 399 7 (by first | decide | omega)).trans k121
    refine ex_go (S := (83, [(4, .inl y), (0, gx_r 383), (1, .inl 0), (2, .inl 1), (3, .inl as)], [gx_r 383], t126, n, 0)) rfl (fun _ => rfl) rfl ?_
    refine gx_ref (c := 399) rfl g126 rfl rfl rfl rfl ?_
    refine ex_go (S := (87, [(4, .inl y), (0, gx_r 383), (1, .inl 0), (2, .inl 1), (3, .inl as)], [.inl 0, gx_r 399], t126, n, 0)) rfl (fun _ => rfl) rfl ?_
    refine ex_go (S := (89, [(4, .inl y), (0, gx_r 383), (1, .inl 0), (2, .inl 1), (3, .inl as)], [.inl 9, .inl 0, gx_r 399], t126, n, 0)) rfl (fun _ => rfl) rfl ?_
    refine ex_go (S := (90, [(4, .inl y), (0, gx_r 383), (1, .inl 0), (2, .inl 1), (3, .inl as)], [.inl 9, gx_r 399], t126, n, 0)) rfl (fun _ => rfl) rfl ?_
    refine ex_go (S := (91, [(4, .inl y), (0, gx_r 383), (1, .inl 0), (2, .inl 1), (3, .inl as)], [.inl 1, .inl 9, gx_r 399], t126, n, 0)) rfl (fun _ => rfl) rfl ?_
    refine ex_go (S := (92, [(4, .inl y), (0, gx_r 383), (1, .inl 0), (2, .inl 1), (3, .inl as)], [.inl 10, gx_r 399], t126, n, 0)) rfl (fun _ => rfl) rfl ?_
    refine ex_go (S := (93, [(4, .inl y), (0, gx_r 383), (1, .inl 0), (2, .inl 1), (3, .inl as)], [.inl 1, .inl 10, gx_r 399], t126, n, 0)) rfl (fun _ => rfl) rfl ?_
    refine ex_go (S := (94, [(4, .inl y), (0, gx_r 383), (1, .inl 0), (2, .inl 1), (3, .inl as)], [.inl 9, gx_r 399], t126, n, 0)) rfl (fun _ => rfl) rfl ?_
    refine ex_go (S := (95, [(4, .inl y), (0, gx_r 383), (1, .inl 0), (2, .inl 1), (3, .inl as)], [.inl 9, gx_r 399, .inl 9, gx_r 399], t126, n, 0)) rfl (fun _ => rfl) rfl ?_
    obtain ⟨m29, k30, m29b⟩ := gx_any (c := 399) (i := 9) g126 rfl rfl rfl
    refine gx_ag (v := .inl m29) (cb := fun c => Nat.beq c 0) rfl (fun _ => rfl) g126 rfl rfl k30 (by first | decide | omega) rfl ?_
    refine ex_go (S := (98, [(4, .inl y), (0, gx_r 383), (1, .inl 0), (2, .inl 1), (3, .inl as)], [.inl y, .inl m29, .inl 9, gx_r 399], t126, n, 0)) rfl (fun _ => rfl) rfl ?_
    refine gx_isubw rfl rfl (fun z31 z31b => ?_)
    refine gx_ap rfl (fun _ => rfl) g126 rfl rfl rfl (show 9 < 1035 from by omega) rfl (gx_full (by first | decide | omega)) rfl (fun t132 g132 k132 e132 => ?_)
    have k33 : ai_hv t132 399 8 = some (.inl (y - y)) := (e132 399 8 (by first | decide | omega)).trans k27
    have k34 : ai_hv t132 399 7 = some (.inl (x + y)) := (e132 399 7 (by first | decide | omega)).trans k28
    have k35 : ai_hv t132 399 10 = some (.inl z25) := (e132 399 10 (by first | decide | omega)).trans k126
    refine ex_go (S := (102, [(4, .inl y), (0, gx_r 383), (1, .inl 0), (2, .inl 1), (3, .inl as)], [.inl y], t132, n, 0)) rfl (fun _ => rfl) rfl ?_
    refine ex_ret (r := (some (.inl y), t132, n, 0)) rfl (fun _ => rfl) ?_
    exact ⟨_, rfl, y, t132, rfl, by omega, g132, px_E_two (b := 0) hE (fun c i h => (e132 c i (by first | decide | omega)).trans ((e126 c i (by first | decide | omega)).trans ((e121 c i (by first | decide | omega)).trans (e119 c i (by first | decide | omega))))) k34 k33 (by first | decide | omega), (fun c i h => (e132 c i (by first | decide | omega)).trans ((e126 c i (by first | decide | omega)).trans ((e121 c i (by first | decide | omega)).trans (e119 c i (by first | decide | omega)))))⟩
set_option maxRecDepth 100000 in
theorem pk_lends945_0 (d n : Nat) {t0 : en_H} {as : Nat} (g0 : ai_HG ah_G t0) (hE : ai_E t0) (has : as ≤ 999) : ∃ r, en_u (d + 1) 120 [gx_r 383, .inl 945, .inl 0, .inl as] t0 n = some r ∧ ∃ v t', r = (some (.inl v), t', n, 0) ∧ v < 4294967296 ∧ ai_HG ah_G t' ∧ ai_E t' ∧ (∀ c i, ¬ (c = 399 ∧ 945 ≤ i ∧ i < 1035) → ai_hv t' c i = ai_hv t0 c i) := by
  obtain ⟨x, y, kx, ky, hxy⟩ := hE.2.2.2.1 21 (by decide)
  refine en_u_ex rfl ?_
  show en_ex _ _ _ _ (0, [(0, gx_r 383), (1, .inl 945), (2, .inl 0), (3, .inl as)], [], t0, n, 0) _
  refine ex_go (S := (1, [(0, gx_r 383), (1, .inl 945), (2, .inl 0), (3, .inl as)], [.inl as], t0, n, 0)) rfl (fun _ => rfl) rfl ?_
  refine ex_go (S := (2, [(0, gx_r 383), (1, .inl 945), (2, .inl 0), (3, .inl as)], [gx_r 383, .inl as], t0, n, 0)) rfl (fun _ => rfl) rfl ?_
  refine gx_ref (c := 399) rfl g0 rfl rfl rfl rfl ?_
  refine ex_go (S := (6, [(0, gx_r 383), (1, .inl 945), (2, .inl 0), (3, .inl as)], [.inl 945, gx_r 399, .inl as], t0, n, 0)) rfl (fun _ => rfl) rfl ?_
  refine ex_go (S := (8, [(0, gx_r 383), (1, .inl 945), (2, .inl 0), (3, .inl as)], [.inl 7, .inl 945, gx_r 399, .inl as], t0, n, 0)) rfl (fun _ => rfl) rfl ?_
  refine ex_go (S := (9, [(0, gx_r 383), (1, .inl 945), (2, .inl 0), (3, .inl as)], [.inl 952, gx_r 399, .inl as], t0, n, 0)) rfl (fun _ => rfl) rfl ?_
  refine ex_go (S := (10, [(0, gx_r 383), (1, .inl 945), (2, .inl 0), (3, .inl as)], [.inl 0, .inl 952, gx_r 399, .inl as], t0, n, 0)) rfl (fun _ => rfl) rfl ?_
  refine ex_go (S := (11, [(0, gx_r 383), (1, .inl 945), (2, .inl 0), (3, .inl as)], [.inl 952, gx_r 399, .inl as], t0, n, 0)) rfl (fun _ => rfl) rfl ?_
  refine gx_ag (v := .inl x) (cb := fun c => Nat.beq c 0) rfl (fun _ => rfl) g0 rfl rfl kx (by first | decide | omega) rfl ?_
  by_cases hc1 : as ≤ x
  · refine gx_2t (c := .le) rfl (by first | decide | omega) (by first | decide | omega) hc1 rfl ?_
    refine ex_go (S := (30, [(0, gx_r 383), (1, .inl 945), (2, .inl 0), (3, .inl as)], [.inl as], t0, n, 0)) rfl (fun _ => rfl) rfl ?_
    refine ex_go (S := (32, [(4, .inl as), (0, gx_r 383), (1, .inl 945), (2, .inl 0), (3, .inl as)], [], t0, n, 0)) rfl (fun _ => rfl) rfl ?_
    refine ex_go (S := (33, [(4, .inl as), (0, gx_r 383), (1, .inl 945), (2, .inl 0), (3, .inl as)], [gx_r 383], t0, n, 0)) rfl (fun _ => rfl) rfl ?_
    refine gx_ref (c := 399) rfl g0 rfl rfl rfl rfl ?_
    refine ex_go (S := (37, [(4, .inl as), (0, gx_r 383), (1, .inl 945), (2, .inl 0), (3, .inl as)], [.inl 945, gx_r 399], t0, n, 0)) rfl (fun _ => rfl) rfl ?_
    refine ex_go (S := (39, [(4, .inl as), (0, gx_r 383), (1, .inl 945), (2, .inl 0), (3, .inl as)], [.inl 7, .inl 945, gx_r 399], t0, n, 0)) rfl (fun _ => rfl) rfl ?_
    refine ex_go (S := (40, [(4, .inl as), (0, gx_r 383), (1, .inl 945), (2, .inl 0), (3, .inl as)], [.inl 952, gx_r 399], t0, n, 0)) rfl (fun _ => rfl) rfl ?_
    refine ex_go (S := (41, [(4, .inl as), (0, gx_r 383), (1, .inl 945), (2, .inl 0), (3, .inl as)], [.inl 0, .inl 952, gx_r 399], t0, n, 0)) rfl (fun _ => rfl) rfl ?_
    refine ex_go (S := (42, [(4, .inl as), (0, gx_r 383), (1, .inl 945), (2, .inl 0), (3, .inl as)], [.inl 952, gx_r 399], t0, n, 0)) rfl (fun _ => rfl) rfl ?_
    refine ex_go (S := (43, [(4, .inl as), (0, gx_r 383), (1, .inl 945), (2, .inl 0), (3, .inl as)], [.inl 952, gx_r 399, .inl 952, gx_r 399], t0, n, 0)) rfl (fun _ => rfl) rfl ?_
    refine gx_ag (v := .inl x) (cb := fun c => Nat.beq c 0) rfl (fun _ => rfl) g0 rfl rfl kx (by first | decide | omega) rfl ?_
    refine ex_go (S := (46, [(4, .inl as), (0, gx_r 383), (1, .inl 945), (2, .inl 0), (3, .inl as)], [.inl as, .inl x, .inl 952, gx_r 399], t0, n, 0)) rfl (fun _ => rfl) rfl ?_
    refine gx_isub rfl (by first | decide | omega) (by first | decide | omega) rfl ?_
    refine gx_ap rfl (fun _ => rfl) g0 rfl rfl rfl (show 952 < 1035 from by omega) rfl (ai_in_h (by first | decide | omega) (by first | decide | omega) (by first | decide | omega)) rfl (fun t102 g102 k102 e102 => ?_)
    have k3 : ai_hv t102 399 953 = some (.inl y) := (e102 399 953 (by first | decide | omega)).trans ky
    refine ex_go (S := (49, [(4, .inl as), (0, gx_r 383), (1, .inl 945), (2, .inl 0), (3, .inl as)], [gx_r 383], t102, n, 0)) rfl (fun _ => rfl) rfl ?_
    refine gx_ref (c := 399) rfl g102 rfl rfl rfl rfl ?_
    refine ex_go (S := (53, [(4, .inl as), (0, gx_r 383), (1, .inl 945), (2, .inl 0), (3, .inl as)], [.inl 945, gx_r 399], t102, n, 0)) rfl (fun _ => rfl) rfl ?_
    refine ex_go (S := (55, [(4, .inl as), (0, gx_r 383), (1, .inl 945), (2, .inl 0), (3, .inl as)], [.inl 7, .inl 945, gx_r 399], t102, n, 0)) rfl (fun _ => rfl) rfl ?_
    refine ex_go (S := (56, [(4, .inl as), (0, gx_r 383), (1, .inl 945), (2, .inl 0), (3, .inl as)], [.inl 952, gx_r 399], t102, n, 0)) rfl (fun _ => rfl) rfl ?_
    refine ex_go (S := (57, [(4, .inl as), (0, gx_r 383), (1, .inl 945), (2, .inl 0), (3, .inl as)], [.inl 1, .inl 952, gx_r 399], t102, n, 0)) rfl (fun _ => rfl) rfl ?_
    refine ex_go (S := (58, [(4, .inl as), (0, gx_r 383), (1, .inl 945), (2, .inl 0), (3, .inl as)], [.inl 953, gx_r 399], t102, n, 0)) rfl (fun _ => rfl) rfl ?_
    refine ex_go (S := (59, [(4, .inl as), (0, gx_r 383), (1, .inl 945), (2, .inl 0), (3, .inl as)], [.inl 0, .inl 953, gx_r 399], t102, n, 0)) rfl (fun _ => rfl) rfl ?_
    refine ex_go (S := (60, [(4, .inl as), (0, gx_r 383), (1, .inl 945), (2, .inl 0), (3, .inl as)], [.inl 953, gx_r 399], t102, n, 0)) rfl (fun _ => rfl) rfl ?_
    refine ex_go (S := (61, [(4, .inl as), (0, gx_r 383), (1, .inl 945), (2, .inl 0), (3, .inl as)], [.inl 953, gx_r 399, .inl 953, gx_r 399], t102, n, 0)) rfl (fun _ => rfl) rfl ?_
    refine gx_ag (v := .inl y) (cb := fun c => Nat.beq c 0) rfl (fun _ => rfl) g102 rfl rfl k3 (by first | decide | omega) rfl ?_
    refine ex_go (S := (64, [(4, .inl as), (0, gx_r 383), (1, .inl 945), (2, .inl 0), (3, .inl as)], [.inl as, .inl y, .inl 953, gx_r 399], t102, n, 0)) rfl (fun _ => rfl) rfl ?_
    refine ex_iadd rfl (by first | decide | omega) rfl ?_
    refine gx_ap rfl (fun _ => rfl) g102 rfl rfl rfl (show 953 < 1035 from by omega) rfl (ai_in_h (by first | decide | omega) (by first | decide | omega) (by first | decide | omega)) rfl (fun t104 g104 k104 e104 => ?_)
    have k5 : ai_hv t104 399 952 = some (.inl (x - as)) := (e104 399 952 (by first | decide | omega)).trans k102
    refine ex_go (S := (67, [(4, .inl as), (0, gx_r 383), (1, .inl 945), (2, .inl 0), (3, .inl as)], [gx_r 383], t104, n, 0)) rfl (fun _ => rfl) rfl ?_
    refine gx_ref (c := 399) rfl g104 rfl rfl rfl rfl ?_
    refine ex_go (S := (71, [(4, .inl as), (0, gx_r 383), (1, .inl 945), (2, .inl 0), (3, .inl as)], [.inl 945, gx_r 399], t104, n, 0)) rfl (fun _ => rfl) rfl ?_
    refine ex_go (S := (73, [(4, .inl as), (0, gx_r 383), (1, .inl 945), (2, .inl 0), (3, .inl as)], [.inl 9, .inl 945, gx_r 399], t104, n, 0)) rfl (fun _ => rfl) rfl ?_
    refine ex_go (S := (74, [(4, .inl as), (0, gx_r 383), (1, .inl 945), (2, .inl 0), (3, .inl as)], [.inl 954, gx_r 399], t104, n, 0)) rfl (fun _ => rfl) rfl ?_
    refine ex_go (S := (75, [(4, .inl as), (0, gx_r 383), (1, .inl 945), (2, .inl 0), (3, .inl as)], [.inl 0, .inl 954, gx_r 399], t104, n, 0)) rfl (fun _ => rfl) rfl ?_
    refine ex_go (S := (76, [(4, .inl as), (0, gx_r 383), (1, .inl 945), (2, .inl 0), (3, .inl as)], [.inl 954, gx_r 399], t104, n, 0)) rfl (fun _ => rfl) rfl ?_
    refine ex_go (S := (77, [(4, .inl as), (0, gx_r 383), (1, .inl 945), (2, .inl 0), (3, .inl as)], [.inl 954, gx_r 399, .inl 954, gx_r 399], t104, n, 0)) rfl (fun _ => rfl) rfl ?_
    obtain ⟨m6, k7, m6b⟩ := gx_any (c := 399) (i := 954) g104 rfl rfl rfl
    refine gx_ag (v := .inl m6) (cb := fun c => Nat.beq c 0) rfl (fun _ => rfl) g104 rfl rfl k7 (by first | decide | omega) rfl ?_
    refine ex_go (S := (80, [(4, .inl as), (0, gx_r 383), (1, .inl 945), (2, .inl 0), (3, .inl as)], [.inl as, .inl m6, .inl 954, gx_r 399], t104, n, 0)) rfl (fun _ => rfl) rfl ?_
    refine gx_iaddw rfl rfl (fun z8 z8b => ?_)
    refine gx_ap rfl (fun _ => rfl) g104 rfl rfl rfl (show 954 < 1035 from by omega) rfl (gx_full (by first | decide | omega)) rfl (fun t109 g109 k109 e109 => ?_)
    have k10 : ai_hv t109 399 952 = some (.inl (x - as)) := (e109 399 952 (by first | decide | omega)).trans k5
    have k11 : ai_hv t109 399 953 = some (.inl (y + as)) := (e109 399 953 (by first | decide | omega)).trans k104
    refine ex_go (S := (83, [(4, .inl as), (0, gx_r 383), (1, .inl 945), (2, .inl 0), (3, .inl as)], [gx_r 383], t109, n, 0)) rfl (fun _ => rfl) rfl ?_
    refine gx_ref (c := 399) rfl g109 rfl rfl rfl rfl ?_
    refine ex_go (S := (87, [(4, .inl as), (0, gx_r 383), (1, .inl 945), (2, .inl 0), (3, .inl as)], [.inl 945, gx_r 399], t109, n, 0)) rfl (fun _ => rfl) rfl ?_
    refine ex_go (S := (89, [(4, .inl as), (0, gx_r 383), (1, .inl 945), (2, .inl 0), (3, .inl as)], [.inl 9, .inl 945, gx_r 399], t109, n, 0)) rfl (fun _ => rfl) rfl ?_
    refine ex_go (S := (90, [(4, .inl as), (0, gx_r 383), (1, .inl 945), (2, .inl 0), (3, .inl as)], [.inl 954, gx_r 399], t109, n, 0)) rfl (fun _ => rfl) rfl ?_
    refine ex_go (S := (91, [(4, .inl as), (0, gx_r 383), (1, .inl 945), (2, .inl 0), (3, .inl as)], [.inl 1, .inl 954, gx_r 399], t109, n, 0)) rfl (fun _ => rfl) rfl ?_
    refine ex_go (S := (92, [(4, .inl as), (0, gx_r 383), (1, .inl 945), (2, .inl 0), (3, .inl as)], [.inl 955, gx_r 399], t109, n, 0)) rfl (fun _ => rfl) rfl ?_
    refine ex_go (S := (93, [(4, .inl as), (0, gx_r 383), (1, .inl 945), (2, .inl 0), (3, .inl as)], [.inl 0, .inl 955, gx_r 399], t109, n, 0)) rfl (fun _ => rfl) rfl ?_
    refine ex_go (S := (94, [(4, .inl as), (0, gx_r 383), (1, .inl 945), (2, .inl 0), (3, .inl as)], [.inl 955, gx_r 399], t109, n, 0)) rfl (fun _ => rfl) rfl ?_
    refine ex_go (S := (95, [(4, .inl as), (0, gx_r 383), (1, .inl 945), (2, .inl 0), (3, .inl as)], [.inl 955, gx_r 399, .inl 955, gx_r 399], t109, n, 0)) rfl (fun _ => rfl) rfl ?_
    obtain ⟨m12, k13, m12b⟩ := gx_any (c := 399) (i := 955) g109 rfl rfl rfl
    refine gx_ag (v := .inl m12) (cb := fun c => Nat.beq c 0) rfl (fun _ => rfl) g109 rfl rfl k13 (by first | decide | omega) rfl ?_
    refine ex_go (S := (98, [(4, .inl as), (0, gx_r 383), (1, .inl 945), (2, .inl 0), (3, .inl as)], [.inl as, .inl m12, .inl 955, gx_r 399], t109, n, 0)) rfl (fun _ => rfl) rfl ?_
    refine gx_isubw rfl rfl (fun z14 z14b => ?_)
    refine gx_ap rfl (fun _ => rfl) g109 rfl rfl rfl (show 955 < 1035 from by omega) rfl (gx_full (by first | decide | omega)) rfl (fun t115 g115 k115 e115 => ?_)
    have k16 : ai_hv t115 399 952 = some (.inl (x - as)) := (e115 399 952 (by first | decide | omega)).trans k10
    have k17 : ai_hv t115 399 953 = some (.inl (y + as)) := (e115 399 953 (by first | decide | omega)).trans k11
    have k18 : ai_hv t115 399 954 = some (.inl z8) := (e115 399 954 (by first | decide | omega)).trans k109
    refine ex_go (S := (102, [(4, .inl as), (0, gx_r 383), (1, .inl 945), (2, .inl 0), (3, .inl as)], [.inl as], t115, n, 0)) rfl (fun _ => rfl) rfl ?_
    refine ex_ret (r := (some (.inl as), t115, n, 0)) rfl (fun _ => rfl) ?_
    exact ⟨_, rfl, as, t115, rfl, by omega, g115, px_E_two (b := 21) hE (fun c i h => (e115 c i (by first | decide | omega)).trans ((e109 c i (by first | decide | omega)).trans ((e104 c i (by first | decide | omega)).trans (e102 c i (by first | decide | omega))))) k16 k17 (by first | decide | omega), (fun c i h => (e115 c i (by first | decide | omega)).trans ((e109 c i (by first | decide | omega)).trans ((e104 c i (by first | decide | omega)).trans (e102 c i (by first | decide | omega)))))⟩
  · refine gx_2f (c := .le) rfl (by first | decide | omega) (by first | decide | omega) hc1 rfl ?_
    refine ex_go (S := (16, [(0, gx_r 383), (1, .inl 945), (2, .inl 0), (3, .inl as)], [gx_r 383], t0, n, 0)) rfl (fun _ => rfl) rfl ?_
    refine gx_ref (c := 399) rfl g0 rfl rfl rfl rfl ?_
    refine ex_go (S := (20, [(0, gx_r 383), (1, .inl 945), (2, .inl 0), (3, .inl as)], [.inl 945, gx_r 399], t0, n, 0)) rfl (fun _ => rfl) rfl ?_
    refine ex_go (S := (22, [(0, gx_r 383), (1, .inl 945), (2, .inl 0), (3, .inl as)], [.inl 7, .inl 945, gx_r 399], t0, n, 0)) rfl (fun _ => rfl) rfl ?_
    refine ex_go (S := (23, [(0, gx_r 383), (1, .inl 945), (2, .inl 0), (3, .inl as)], [.inl 952, gx_r 399], t0, n, 0)) rfl (fun _ => rfl) rfl ?_
    refine ex_go (S := (24, [(0, gx_r 383), (1, .inl 945), (2, .inl 0), (3, .inl as)], [.inl 0, .inl 952, gx_r 399], t0, n, 0)) rfl (fun _ => rfl) rfl ?_
    refine ex_go (S := (25, [(0, gx_r 383), (1, .inl 945), (2, .inl 0), (3, .inl as)], [.inl 952, gx_r 399], t0, n, 0)) rfl (fun _ => rfl) rfl ?_
    refine gx_ag (v := .inl x) (cb := fun c => Nat.beq c 0) rfl (fun _ => rfl) g0 rfl rfl kx (by first | decide | omega) rfl ?_
    refine ex_go (S := (30, [(0, gx_r 383), (1, .inl 945), (2, .inl 0), (3, .inl as)], [.inl x], t0, n, 0)) rfl (fun _ => rfl) rfl ?_
    refine ex_go (S := (32, [(4, .inl x), (0, gx_r 383), (1, .inl 945), (2, .inl 0), (3, .inl as)], [], t0, n, 0)) rfl (fun _ => rfl) rfl ?_
    refine ex_go (S := (33, [(4, .inl x), (0, gx_r 383), (1, .inl 945), (2, .inl 0), (3, .inl as)], [gx_r 383], t0, n, 0)) rfl (fun _ => rfl) rfl ?_
    refine gx_ref (c := 399) rfl g0 rfl rfl rfl rfl ?_
    refine ex_go (S := (37, [(4, .inl x), (0, gx_r 383), (1, .inl 945), (2, .inl 0), (3, .inl as)], [.inl 945, gx_r 399], t0, n, 0)) rfl (fun _ => rfl) rfl ?_
    refine ex_go (S := (39, [(4, .inl x), (0, gx_r 383), (1, .inl 945), (2, .inl 0), (3, .inl as)], [.inl 7, .inl 945, gx_r 399], t0, n, 0)) rfl (fun _ => rfl) rfl ?_
    refine ex_go (S := (40, [(4, .inl x), (0, gx_r 383), (1, .inl 945), (2, .inl 0), (3, .inl as)], [.inl 952, gx_r 399], t0, n, 0)) rfl (fun _ => rfl) rfl ?_
    refine ex_go (S := (41, [(4, .inl x), (0, gx_r 383), (1, .inl 945), (2, .inl 0), (3, .inl as)], [.inl 0, .inl 952, gx_r 399], t0, n, 0)) rfl (fun _ => rfl) rfl ?_
    refine ex_go (S := (42, [(4, .inl x), (0, gx_r 383), (1, .inl 945), (2, .inl 0), (3, .inl as)], [.inl 952, gx_r 399], t0, n, 0)) rfl (fun _ => rfl) rfl ?_
    refine ex_go (S := (43, [(4, .inl x), (0, gx_r 383), (1, .inl 945), (2, .inl 0), (3, .inl as)], [.inl 952, gx_r 399, .inl 952, gx_r 399], t0, n, 0)) rfl (fun _ => rfl) rfl ?_
    refine gx_ag (v := .inl x) (cb := fun c => Nat.beq c 0) rfl (fun _ => rfl) g0 rfl rfl kx (by first | decide | omega) rfl ?_
    refine ex_go (S := (46, [(4, .inl x), (0, gx_r 383), (1, .inl 945), (2, .inl 0), (3, .inl as)], [.inl x, .inl x, .inl 952, gx_r 399], t0, n, 0)) rfl (fun _ => rfl) rfl ?_
    refine gx_isub rfl (by first | decide | omega) (by first | decide | omega) rfl ?_
    refine gx_ap rfl (fun _ => rfl) g0 rfl rfl rfl (show 952 < 1035 from by omega) rfl (ai_in_h (by first | decide | omega) (by first | decide | omega) (by first | decide | omega)) rfl (fun t119 g119 k119 e119 => ?_)
    have k20 : ai_hv t119 399 953 = some (.inl y) := (e119 399 953 (by first | decide | omega)).trans ky
    refine ex_go (S := (49, [(4, .inl x), (0, gx_r 383), (1, .inl 945), (2, .inl 0), (3, .inl as)], [gx_r 383], t119, n, 0)) rfl (fun _ => rfl) rfl ?_
    refine gx_ref (c := 399) rfl g119 rfl rfl rfl rfl ?_
    refine ex_go (S := (53, [(4, .inl x), (0, gx_r 383), (1, .inl 945), (2, .inl 0), (3, .inl as)], [.inl 945, gx_r 399], t119, n, 0)) rfl (fun _ => rfl) rfl ?_
    refine ex_go (S := (55, [(4, .inl x), (0, gx_r 383), (1, .inl 945), (2, .inl 0), (3, .inl as)], [.inl 7, .inl 945, gx_r 399], t119, n, 0)) rfl (fun _ => rfl) rfl ?_
    refine ex_go (S := (56, [(4, .inl x), (0, gx_r 383), (1, .inl 945), (2, .inl 0), (3, .inl as)], [.inl 952, gx_r 399], t119, n, 0)) rfl (fun _ => rfl) rfl ?_
    refine ex_go (S := (57, [(4, .inl x), (0, gx_r 383), (1, .inl 945), (2, .inl 0), (3, .inl as)], [.inl 1, .inl 952, gx_r 399], t119, n, 0)) rfl (fun _ => rfl) rfl ?_
    refine ex_go (S := (58, [(4, .inl x), (0, gx_r 383), (1, .inl 945), (2, .inl 0), (3, .inl as)], [.inl 953, gx_r 399], t119, n, 0)) rfl (fun _ => rfl) rfl ?_
    refine ex_go (S := (59, [(4, .inl x), (0, gx_r 383), (1, .inl 945), (2, .inl 0), (3, .inl as)], [.inl 0, .inl 953, gx_r 399], t119, n, 0)) rfl (fun _ => rfl) rfl ?_
    refine ex_go (S := (60, [(4, .inl x), (0, gx_r 383), (1, .inl 945), (2, .inl 0), (3, .inl as)], [.inl 953, gx_r 399], t119, n, 0)) rfl (fun _ => rfl) rfl ?_
    refine ex_go (S := (61, [(4, .inl x), (0, gx_r 383), (1, .inl 945), (2, .inl 0), (3, .inl as)], [.inl 953, gx_r 399, .inl 953, gx_r 399], t119, n, 0)) rfl (fun _ => rfl) rfl ?_
    refine gx_ag (v := .inl y) (cb := fun c => Nat.beq c 0) rfl (fun _ => rfl) g119 rfl rfl k20 (by first | decide | omega) rfl ?_
    refine ex_go (S := (64, [(4, .inl x), (0, gx_r 383), (1, .inl 945), (2, .inl 0), (3, .inl as)], [.inl x, .inl y, .inl 953, gx_r 399], t119, n, 0)) rfl (fun _ => rfl) rfl ?_
    refine ex_iadd rfl (by first | decide | omega) rfl ?_
    refine gx_ap rfl (fun _ => rfl) g119 rfl rfl rfl (show 953 < 1035 from by omega) rfl (ai_in_h (by first | decide | omega) (by first | decide | omega) (by first | decide | omega)) rfl (fun t121 g121 k121 e121 => ?_)
    have k22 : ai_hv t121 399 952 = some (.inl (x - x)) := (e121 399 952 (by first | decide | omega)).trans k119
    refine ex_go (S := (67, [(4, .inl x), (0, gx_r 383), (1, .inl 945), (2, .inl 0), (3, .inl as)], [gx_r 383], t121, n, 0)) rfl (fun _ => rfl) rfl ?_
    refine gx_ref (c := 399) rfl g121 rfl rfl rfl rfl ?_
    refine ex_go (S := (71, [(4, .inl x), (0, gx_r 383), (1, .inl 945), (2, .inl 0), (3, .inl as)], [.inl 945, gx_r 399], t121, n, 0)) rfl (fun _ => rfl) rfl ?_
    refine ex_go (S := (73, [(4, .inl x), (0, gx_r 383), (1, .inl 945), (2, .inl 0), (3, .inl as)], [.inl 9, .inl 945, gx_r 399], t121, n, 0)) rfl (fun _ => rfl) rfl ?_
    refine ex_go (S := (74, [(4, .inl x), (0, gx_r 383), (1, .inl 945), (2, .inl 0), (3, .inl as)], [.inl 954, gx_r 399], t121, n, 0)) rfl (fun _ => rfl) rfl ?_
    refine ex_go (S := (75, [(4, .inl x), (0, gx_r 383), (1, .inl 945), (2, .inl 0), (3, .inl as)], [.inl 0, .inl 954, gx_r 399], t121, n, 0)) rfl (fun _ => rfl) rfl ?_
    refine ex_go (S := (76, [(4, .inl x), (0, gx_r 383), (1, .inl 945), (2, .inl 0), (3, .inl as)], [.inl 954, gx_r 399], t121, n, 0)) rfl (fun _ => rfl) rfl ?_
    refine ex_go (S := (77, [(4, .inl x), (0, gx_r 383), (1, .inl 945), (2, .inl 0), (3, .inl as)], [.inl 954, gx_r 399, .inl 954, gx_r 399], t121, n, 0)) rfl (fun _ => rfl) rfl ?_
    obtain ⟨m23, k24, m23b⟩ := gx_any (c := 399) (i := 954) g121 rfl rfl rfl
    refine gx_ag (v := .inl m23) (cb := fun c => Nat.beq c 0) rfl (fun _ => rfl) g121 rfl rfl k24 (by first | decide | omega) rfl ?_
    refine ex_go (S := (80, [(4, .inl x), (0, gx_r 383), (1, .inl 945), (2, .inl 0), (3, .inl as)], [.inl x, .inl m23, .inl 954, gx_r 399], t121, n, 0)) rfl (fun _ => rfl) rfl ?_
    refine gx_iaddw rfl rfl (fun z25 z25b => ?_)
    refine gx_ap rfl (fun _ => rfl) g121 rfl rfl rfl (show 954 < 1035 from by omega) rfl (gx_full (by first | decide | omega)) rfl (fun t126 g126 k126 e126 => ?_)
    have k27 : ai_hv t126 399 952 = some (.inl (x - x)) := (e126 399 952 (by first | decide | omega)).trans k22
    have k28 : ai_hv t126 399 953 = some (.inl (y + x)) := (e126 399 953 (by first | decide | omega)).trans k121
    refine ex_go (S := (83, [(4, .inl x), (0, gx_r 383), (1, .inl 945), (2, .inl 0), (3, .inl as)], [gx_r 383], t126, n, 0)) rfl (fun _ => rfl) rfl ?_
    refine gx_ref (c := 399) rfl g126 rfl rfl rfl rfl ?_
    refine ex_go (S := (87, [(4, .inl x), (0, gx_r 383), (1, .inl 945), (2, .inl 0), (3, .inl as)], [.inl 945, gx_r 399], t126, n, 0)) rfl (fun _ => rfl) rfl ?_
    refine ex_go (S := (89, [(4, .inl x), (0, gx_r 383), (1, .inl 945), (2, .inl 0), (3, .inl as)], [.inl 9, .inl 945, gx_r 399], t126, n, 0)) rfl (fun _ => rfl) rfl ?_
    refine ex_go (S := (90, [(4, .inl x), (0, gx_r 383), (1, .inl 945), (2, .inl 0), (3, .inl as)], [.inl 954, gx_r 399], t126, n, 0)) rfl (fun _ => rfl) rfl ?_
    refine ex_go (S := (91, [(4, .inl x), (0, gx_r 383), (1, .inl 945), (2, .inl 0), (3, .inl as)], [.inl 1, .inl 954, gx_r 399], t126, n, 0)) rfl (fun _ => rfl) rfl ?_
    refine ex_go (S := (92, [(4, .inl x), (0, gx_r 383), (1, .inl 945), (2, .inl 0), (3, .inl as)], [.inl 955, gx_r 399], t126, n, 0)) rfl (fun _ => rfl) rfl ?_
    refine ex_go (S := (93, [(4, .inl x), (0, gx_r 383), (1, .inl 945), (2, .inl 0), (3, .inl as)], [.inl 0, .inl 955, gx_r 399], t126, n, 0)) rfl (fun _ => rfl) rfl ?_
    refine ex_go (S := (94, [(4, .inl x), (0, gx_r 383), (1, .inl 945), (2, .inl 0), (3, .inl as)], [.inl 955, gx_r 399], t126, n, 0)) rfl (fun _ => rfl) rfl ?_
    refine ex_go (S := (95, [(4, .inl x), (0, gx_r 383), (1, .inl 945), (2, .inl 0), (3, .inl as)], [.inl 955, gx_r 399, .inl 955, gx_r 399], t126, n, 0)) rfl (fun _ => rfl) rfl ?_
    obtain ⟨m29, k30, m29b⟩ := gx_any (c := 399) (i := 955) g126 rfl rfl rfl
    refine gx_ag (v := .inl m29) (cb := fun c => Nat.beq c 0) rfl (fun _ => rfl) g126 rfl rfl k30 (by first | decide | omega) rfl ?_
    refine ex_go (S := (98, [(4, .inl x), (0, gx_r 383), (1, .inl 945), (2, .inl 0), (3, .inl as)], [.inl x, .inl m29, .inl 955, gx_r 399], t126, n, 0)) rfl (fun _ => rfl) rfl ?_
    refine gx_isubw rfl rfl (fun z31 z31b => ?_)
    refine gx_ap rfl (fun _ => rfl) g126 rfl rfl rfl (show 955 < 1035 from by omega) rfl (gx_full (by first | decide | omega)) rfl (fun t132 g132 k132 e132 => ?_)
    have k33 : ai_hv t132 399 952 = some (.inl (x - x)) := (e132 399 952 (by first | decide | omega)).trans k27
    have k34 : ai_hv t132 399 953 = some (.inl (y + x)) := (e132 399 953 (by first | decide | omega)).trans k28
    have k35 : ai_hv t132 399 954 = some (.inl z25) := (e132 399 954 (by first | decide | omega)).trans k126
    refine ex_go (S := (102, [(4, .inl x), (0, gx_r 383), (1, .inl 945), (2, .inl 0), (3, .inl as)], [.inl x], t132, n, 0)) rfl (fun _ => rfl) rfl ?_
    refine ex_ret (r := (some (.inl x), t132, n, 0)) rfl (fun _ => rfl) ?_
    exact ⟨_, rfl, x, t132, rfl, by omega, g132, px_E_two (b := 21) hE (fun c i h => (e132 c i (by first | decide | omega)).trans ((e126 c i (by first | decide | omega)).trans ((e121 c i (by first | decide | omega)).trans (e119 c i (by first | decide | omega))))) k33 k34 (by first | decide | omega), (fun c i h => (e132 c i (by first | decide | omega)).trans ((e126 c i (by first | decide | omega)).trans ((e121 c i (by first | decide | omega)).trans (e119 c i (by first | decide | omega)))))⟩
set_option maxRecDepth 100000 in
theorem pk_lends945_1 (d n : Nat) {t0 : en_H} {as : Nat} (g0 : ai_HG ah_G t0) (hE : ai_E t0) (has : as ≤ 999) : ∃ r, en_u (d + 1) 120 [gx_r 383, .inl 945, .inl 1, .inl as] t0 n = some r ∧ ∃ v t', r = (some (.inl v), t', n, 0) ∧ v < 4294967296 ∧ ai_HG ah_G t' ∧ ai_E t' ∧ (∀ c i, ¬ (c = 399 ∧ 945 ≤ i ∧ i < 1035) → ai_hv t' c i = ai_hv t0 c i) := by
  obtain ⟨x, y, kx, ky, hxy⟩ := hE.2.2.2.1 21 (by decide)
  refine en_u_ex rfl ?_
  show en_ex _ _ _ _ (0, [(0, gx_r 383), (1, .inl 945), (2, .inl 1), (3, .inl as)], [], t0, n, 0) _
  refine ex_go (S := (1, [(0, gx_r 383), (1, .inl 945), (2, .inl 1), (3, .inl as)], [.inl as], t0, n, 0)) rfl (fun _ => rfl) rfl ?_
  refine ex_go (S := (2, [(0, gx_r 383), (1, .inl 945), (2, .inl 1), (3, .inl as)], [gx_r 383, .inl as], t0, n, 0)) rfl (fun _ => rfl) rfl ?_
  refine gx_ref (c := 399) rfl g0 rfl rfl rfl rfl ?_
  refine ex_go (S := (6, [(0, gx_r 383), (1, .inl 945), (2, .inl 1), (3, .inl as)], [.inl 945, gx_r 399, .inl as], t0, n, 0)) rfl (fun _ => rfl) rfl ?_
  refine ex_go (S := (8, [(0, gx_r 383), (1, .inl 945), (2, .inl 1), (3, .inl as)], [.inl 7, .inl 945, gx_r 399, .inl as], t0, n, 0)) rfl (fun _ => rfl) rfl ?_
  refine ex_go (S := (9, [(0, gx_r 383), (1, .inl 945), (2, .inl 1), (3, .inl as)], [.inl 952, gx_r 399, .inl as], t0, n, 0)) rfl (fun _ => rfl) rfl ?_
  refine ex_go (S := (10, [(0, gx_r 383), (1, .inl 945), (2, .inl 1), (3, .inl as)], [.inl 1, .inl 952, gx_r 399, .inl as], t0, n, 0)) rfl (fun _ => rfl) rfl ?_
  refine ex_go (S := (11, [(0, gx_r 383), (1, .inl 945), (2, .inl 1), (3, .inl as)], [.inl 953, gx_r 399, .inl as], t0, n, 0)) rfl (fun _ => rfl) rfl ?_
  refine gx_ag (v := .inl y) (cb := fun c => Nat.beq c 0) rfl (fun _ => rfl) g0 rfl rfl ky (by first | decide | omega) rfl ?_
  by_cases hc1 : as ≤ y
  · refine gx_2t (c := .le) rfl (by first | decide | omega) (by first | decide | omega) hc1 rfl ?_
    refine ex_go (S := (30, [(0, gx_r 383), (1, .inl 945), (2, .inl 1), (3, .inl as)], [.inl as], t0, n, 0)) rfl (fun _ => rfl) rfl ?_
    refine ex_go (S := (32, [(4, .inl as), (0, gx_r 383), (1, .inl 945), (2, .inl 1), (3, .inl as)], [], t0, n, 0)) rfl (fun _ => rfl) rfl ?_
    refine ex_go (S := (33, [(4, .inl as), (0, gx_r 383), (1, .inl 945), (2, .inl 1), (3, .inl as)], [gx_r 383], t0, n, 0)) rfl (fun _ => rfl) rfl ?_
    refine gx_ref (c := 399) rfl g0 rfl rfl rfl rfl ?_
    refine ex_go (S := (37, [(4, .inl as), (0, gx_r 383), (1, .inl 945), (2, .inl 1), (3, .inl as)], [.inl 945, gx_r 399], t0, n, 0)) rfl (fun _ => rfl) rfl ?_
    refine ex_go (S := (39, [(4, .inl as), (0, gx_r 383), (1, .inl 945), (2, .inl 1), (3, .inl as)], [.inl 7, .inl 945, gx_r 399], t0, n, 0)) rfl (fun _ => rfl) rfl ?_
    refine ex_go (S := (40, [(4, .inl as), (0, gx_r 383), (1, .inl 945), (2, .inl 1), (3, .inl as)], [.inl 952, gx_r 399], t0, n, 0)) rfl (fun _ => rfl) rfl ?_
    refine ex_go (S := (41, [(4, .inl as), (0, gx_r 383), (1, .inl 945), (2, .inl 1), (3, .inl as)], [.inl 1, .inl 952, gx_r 399], t0, n, 0)) rfl (fun _ => rfl) rfl ?_
    refine ex_go (S := (42, [(4, .inl as), (0, gx_r 383), (1, .inl 945), (2, .inl 1), (3, .inl as)], [.inl 953, gx_r 399], t0, n, 0)) rfl (fun _ => rfl) rfl ?_
    refine ex_go (S := (43, [(4, .inl as), (0, gx_r 383), (1, .inl 945), (2, .inl 1), (3, .inl as)], [.inl 953, gx_r 399, .inl 953, gx_r 399], t0, n, 0)) rfl (fun _ => rfl) rfl ?_
    refine gx_ag (v := .inl y) (cb := fun c => Nat.beq c 0) rfl (fun _ => rfl) g0 rfl rfl ky (by first | decide | omega) rfl ?_
    refine ex_go (S := (46, [(4, .inl as), (0, gx_r 383), (1, .inl 945), (2, .inl 1), (3, .inl as)], [.inl as, .inl y, .inl 953, gx_r 399], t0, n, 0)) rfl (fun _ => rfl) rfl ?_
    refine gx_isub rfl (by first | decide | omega) (by first | decide | omega) rfl ?_
    refine gx_ap rfl (fun _ => rfl) g0 rfl rfl rfl (show 953 < 1035 from by omega) rfl (ai_in_h (by first | decide | omega) (by first | decide | omega) (by first | decide | omega)) rfl (fun t102 g102 k102 e102 => ?_)
    have k3 : ai_hv t102 399 952 = some (.inl x) := (e102 399 952 (by first | decide | omega)).trans kx
    refine ex_go (S := (49, [(4, .inl as), (0, gx_r 383), (1, .inl 945), (2, .inl 1), (3, .inl as)], [gx_r 383], t102, n, 0)) rfl (fun _ => rfl) rfl ?_
    refine gx_ref (c := 399) rfl g102 rfl rfl rfl rfl ?_
    refine ex_go (S := (53, [(4, .inl as), (0, gx_r 383), (1, .inl 945), (2, .inl 1), (3, .inl as)], [.inl 945, gx_r 399], t102, n, 0)) rfl (fun _ => rfl) rfl ?_
    refine ex_go (S := (55, [(4, .inl as), (0, gx_r 383), (1, .inl 945), (2, .inl 1), (3, .inl as)], [.inl 7, .inl 945, gx_r 399], t102, n, 0)) rfl (fun _ => rfl) rfl ?_
    refine ex_go (S := (56, [(4, .inl as), (0, gx_r 383), (1, .inl 945), (2, .inl 1), (3, .inl as)], [.inl 952, gx_r 399], t102, n, 0)) rfl (fun _ => rfl) rfl ?_
    refine ex_go (S := (57, [(4, .inl as), (0, gx_r 383), (1, .inl 945), (2, .inl 1), (3, .inl as)], [.inl 1, .inl 952, gx_r 399], t102, n, 0)) rfl (fun _ => rfl) rfl ?_
    refine ex_go (S := (58, [(4, .inl as), (0, gx_r 383), (1, .inl 945), (2, .inl 1), (3, .inl as)], [.inl 953, gx_r 399], t102, n, 0)) rfl (fun _ => rfl) rfl ?_
    refine ex_go (S := (59, [(4, .inl as), (0, gx_r 383), (1, .inl 945), (2, .inl 1), (3, .inl as)], [.inl 1, .inl 953, gx_r 399], t102, n, 0)) rfl (fun _ => rfl) rfl ?_
    refine ex_go (S := (60, [(4, .inl as), (0, gx_r 383), (1, .inl 945), (2, .inl 1), (3, .inl as)], [.inl 952, gx_r 399], t102, n, 0)) rfl (fun _ => rfl) rfl ?_
    refine ex_go (S := (61, [(4, .inl as), (0, gx_r 383), (1, .inl 945), (2, .inl 1), (3, .inl as)], [.inl 952, gx_r 399, .inl 952, gx_r 399], t102, n, 0)) rfl (fun _ => rfl) rfl ?_
    refine gx_ag (v := .inl x) (cb := fun c => Nat.beq c 0) rfl (fun _ => rfl) g102 rfl rfl k3 (by first | decide | omega) rfl ?_
    refine ex_go (S := (64, [(4, .inl as), (0, gx_r 383), (1, .inl 945), (2, .inl 1), (3, .inl as)], [.inl as, .inl x, .inl 952, gx_r 399], t102, n, 0)) rfl (fun _ => rfl) rfl ?_
    refine ex_iadd rfl (by first | decide | omega) rfl ?_
    refine gx_ap rfl (fun _ => rfl) g102 rfl rfl rfl (show 952 < 1035 from by omega) rfl (ai_in_h (by first | decide | omega) (by first | decide | omega) (by first | decide | omega)) rfl (fun t104 g104 k104 e104 => ?_)
    have k5 : ai_hv t104 399 953 = some (.inl (y - as)) := (e104 399 953 (by first | decide | omega)).trans k102
    refine ex_go (S := (67, [(4, .inl as), (0, gx_r 383), (1, .inl 945), (2, .inl 1), (3, .inl as)], [gx_r 383], t104, n, 0)) rfl (fun _ => rfl) rfl ?_
    refine gx_ref (c := 399) rfl g104 rfl rfl rfl rfl ?_
    refine ex_go (S := (71, [(4, .inl as), (0, gx_r 383), (1, .inl 945), (2, .inl 1), (3, .inl as)], [.inl 945, gx_r 399], t104, n, 0)) rfl (fun _ => rfl) rfl ?_
    refine ex_go (S := (73, [(4, .inl as), (0, gx_r 383), (1, .inl 945), (2, .inl 1), (3, .inl as)], [.inl 9, .inl 945, gx_r 399], t104, n, 0)) rfl (fun _ => rfl) rfl ?_
    refine ex_go (S := (74, [(4, .inl as), (0, gx_r 383), (1, .inl 945), (2, .inl 1), (3, .inl as)], [.inl 954, gx_r 399], t104, n, 0)) rfl (fun _ => rfl) rfl ?_
    refine ex_go (S := (75, [(4, .inl as), (0, gx_r 383), (1, .inl 945), (2, .inl 1), (3, .inl as)], [.inl 1, .inl 954, gx_r 399], t104, n, 0)) rfl (fun _ => rfl) rfl ?_
    refine ex_go (S := (76, [(4, .inl as), (0, gx_r 383), (1, .inl 945), (2, .inl 1), (3, .inl as)], [.inl 955, gx_r 399], t104, n, 0)) rfl (fun _ => rfl) rfl ?_
    refine ex_go (S := (77, [(4, .inl as), (0, gx_r 383), (1, .inl 945), (2, .inl 1), (3, .inl as)], [.inl 955, gx_r 399, .inl 955, gx_r 399], t104, n, 0)) rfl (fun _ => rfl) rfl ?_
    obtain ⟨m6, k7, m6b⟩ := gx_any (c := 399) (i := 955) g104 rfl rfl rfl
    refine gx_ag (v := .inl m6) (cb := fun c => Nat.beq c 0) rfl (fun _ => rfl) g104 rfl rfl k7 (by first | decide | omega) rfl ?_
    refine ex_go (S := (80, [(4, .inl as), (0, gx_r 383), (1, .inl 945), (2, .inl 1), (3, .inl as)], [.inl as, .inl m6, .inl 955, gx_r 399], t104, n, 0)) rfl (fun _ => rfl) rfl ?_
    refine gx_iaddw rfl rfl (fun z8 z8b => ?_)
    refine gx_ap rfl (fun _ => rfl) g104 rfl rfl rfl (show 955 < 1035 from by omega) rfl (gx_full (by first | decide | omega)) rfl (fun t109 g109 k109 e109 => ?_)
    have k10 : ai_hv t109 399 953 = some (.inl (y - as)) := (e109 399 953 (by first | decide | omega)).trans k5
    have k11 : ai_hv t109 399 952 = some (.inl (x + as)) := (e109 399 952 (by first | decide | omega)).trans k104
    refine ex_go (S := (83, [(4, .inl as), (0, gx_r 383), (1, .inl 945), (2, .inl 1), (3, .inl as)], [gx_r 383], t109, n, 0)) rfl (fun _ => rfl) rfl ?_
    refine gx_ref (c := 399) rfl g109 rfl rfl rfl rfl ?_
    refine ex_go (S := (87, [(4, .inl as), (0, gx_r 383), (1, .inl 945), (2, .inl 1), (3, .inl as)], [.inl 945, gx_r 399], t109, n, 0)) rfl (fun _ => rfl) rfl ?_
    refine ex_go (S := (89, [(4, .inl as), (0, gx_r 383), (1, .inl 945), (2, .inl 1), (3, .inl as)], [.inl 9, .inl 945, gx_r 399], t109, n, 0)) rfl (fun _ => rfl) rfl ?_
    refine ex_go (S := (90, [(4, .inl as), (0, gx_r 383), (1, .inl 945), (2, .inl 1), (3, .inl as)], [.inl 954, gx_r 399], t109, n, 0)) rfl (fun _ => rfl) rfl ?_
    refine ex_go (S := (91, [(4, .inl as), (0, gx_r 383), (1, .inl 945), (2, .inl 1), (3, .inl as)], [.inl 1, .inl 954, gx_r 399], t109, n, 0)) rfl (fun _ => rfl) rfl ?_
    refine ex_go (S := (92, [(4, .inl as), (0, gx_r 383), (1, .inl 945), (2, .inl 1), (3, .inl as)], [.inl 955, gx_r 399], t109, n, 0)) rfl (fun _ => rfl) rfl ?_
    refine ex_go (S := (93, [(4, .inl as), (0, gx_r 383), (1, .inl 945), (2, .inl 1), (3, .inl as)], [.inl 1, .inl 955, gx_r 399], t109, n, 0)) rfl (fun _ => rfl) rfl ?_
    refine ex_go (S := (94, [(4, .inl as), (0, gx_r 383), (1, .inl 945), (2, .inl 1), (3, .inl as)], [.inl 954, gx_r 399], t109, n, 0)) rfl (fun _ => rfl) rfl ?_
    refine ex_go (S := (95, [(4, .inl as), (0, gx_r 383), (1, .inl 945), (2, .inl 1), (3, .inl as)], [.inl 954, gx_r 399, .inl 954, gx_r 399], t109, n, 0)) rfl (fun _ => rfl) rfl ?_
    obtain ⟨m12, k13, m12b⟩ := gx_any (c := 399) (i := 954) g109 rfl rfl rfl
    refine gx_ag (v := .inl m12) (cb := fun c => Nat.beq c 0) rfl (fun _ => rfl) g109 rfl rfl k13 (by first | decide | omega) rfl ?_
    refine ex_go (S := (98, [(4, .inl as), (0, gx_r 383), (1, .inl 945), (2, .inl 1), (3, .inl as)], [.inl as, .inl m12, .inl 954, gx_r 399], t109, n, 0)) rfl (fun _ => rfl) rfl ?_
    refine gx_isubw rfl rfl (fun z14 z14b => ?_)
    refine gx_ap rfl (fun _ => rfl) g109 rfl rfl rfl (show 954 < 1035 from by omega) rfl (gx_full (by first | decide | omega)) rfl (fun t115 g115 k115 e115 => ?_)
    have k16 : ai_hv t115 399 953 = some (.inl (y - as)) := (e115 399 953 (by first | decide | omega)).trans k10
    have k17 : ai_hv t115 399 952 = some (.inl (x + as)) := (e115 399 952 (by first | decide | omega)).trans k11
    have k18 : ai_hv t115 399 955 = some (.inl z8) := (e115 399 955 (by first | decide | omega)).trans k109
    refine ex_go (S := (102, [(4, .inl as), (0, gx_r 383), (1, .inl 945), (2, .inl 1), (3, .inl as)], [.inl as], t115, n, 0)) rfl (fun _ => rfl) rfl ?_
    refine ex_ret (r := (some (.inl as), t115, n, 0)) rfl (fun _ => rfl) ?_
    exact ⟨_, rfl, as, t115, rfl, by omega, g115, px_E_two (b := 21) hE (fun c i h => (e115 c i (by first | decide | omega)).trans ((e109 c i (by first | decide | omega)).trans ((e104 c i (by first | decide | omega)).trans (e102 c i (by first | decide | omega))))) k17 k16 (by first | decide | omega), (fun c i h => (e115 c i (by first | decide | omega)).trans ((e109 c i (by first | decide | omega)).trans ((e104 c i (by first | decide | omega)).trans (e102 c i (by first | decide | omega)))))⟩
  · refine gx_2f (c := .le) rfl (by first | decide | omega) (by first | decide | omega) hc1 rfl ?_
    refine ex_go (S := (16, [(0, gx_r 383), (1, .inl 945), (2, .inl 1), (3, .inl as)], [gx_r 383], t0, n, 0)) rfl (fun _ => rfl) rfl ?_
    refine gx_ref (c := 399) rfl g0 rfl rfl rfl rfl ?_
    refine ex_go (S := (20, [(0, gx_r 383), (1, .inl 945), (2, .inl 1), (3, .inl as)], [.inl 945, gx_r 399], t0, n, 0)) rfl (fun _ => rfl) rfl ?_
    refine ex_go (S := (22, [(0, gx_r 383), (1, .inl 945), (2, .inl 1), (3, .inl as)], [.inl 7, .inl 945, gx_r 399], t0, n, 0)) rfl (fun _ => rfl) rfl ?_
    refine ex_go (S := (23, [(0, gx_r 383), (1, .inl 945), (2, .inl 1), (3, .inl as)], [.inl 952, gx_r 399], t0, n, 0)) rfl (fun _ => rfl) rfl ?_
    refine ex_go (S := (24, [(0, gx_r 383), (1, .inl 945), (2, .inl 1), (3, .inl as)], [.inl 1, .inl 952, gx_r 399], t0, n, 0)) rfl (fun _ => rfl) rfl ?_
    refine ex_go (S := (25, [(0, gx_r 383), (1, .inl 945), (2, .inl 1), (3, .inl as)], [.inl 953, gx_r 399], t0, n, 0)) rfl (fun _ => rfl) rfl ?_
    refine gx_ag (v := .inl y) (cb := fun c => Nat.beq c 0) rfl (fun _ => rfl) g0 rfl rfl ky (by first | decide | omega) rfl ?_
    refine ex_go (S := (30, [(0, gx_r 383), (1, .inl 945), (2, .inl 1), (3, .inl as)], [.inl y], t0, n, 0)) rfl (fun _ => rfl) rfl ?_
    refine ex_go (S := (32, [(4, .inl y), (0, gx_r 383), (1, .inl 945), (2, .inl 1), (3, .inl as)], [], t0, n, 0)) rfl (fun _ => rfl) rfl ?_
    refine ex_go (S := (33, [(4, .inl y), (0, gx_r 383), (1, .inl 945), (2, .inl 1), (3, .inl as)], [gx_r 383], t0, n, 0)) rfl (fun _ => rfl) rfl ?_
    refine gx_ref (c := 399) rfl g0 rfl rfl rfl rfl ?_
    refine ex_go (S := (37, [(4, .inl y), (0, gx_r 383), (1, .inl 945), (2, .inl 1), (3, .inl as)], [.inl 945, gx_r 399], t0, n, 0)) rfl (fun _ => rfl) rfl ?_
    refine ex_go (S := (39, [(4, .inl y), (0, gx_r 383), (1, .inl 945), (2, .inl 1), (3, .inl as)], [.inl 7, .inl 945, gx_r 399], t0, n, 0)) rfl (fun _ => rfl) rfl ?_
    refine ex_go (S := (40, [(4, .inl y), (0, gx_r 383), (1, .inl 945), (2, .inl 1), (3, .inl as)], [.inl 952, gx_r 399], t0, n, 0)) rfl (fun _ => rfl) rfl ?_
    refine ex_go (S := (41, [(4, .inl y), (0, gx_r 383), (1, .inl 945), (2, .inl 1), (3, .inl as)], [.inl 1, .inl 952, gx_r 399], t0, n, 0)) rfl (fun _ => rfl) rfl ?_
    refine ex_go (S := (42, [(4, .inl y), (0, gx_r 383), (1, .inl 945), (2, .inl 1), (3, .inl as)], [.inl 953, gx_r 399], t0, n, 0)) rfl (fun _ => rfl) rfl ?_
    refine ex_go (S := (43, [(4, .inl y), (0, gx_r 383), (1, .inl 945), (2, .inl 1), (3, .inl as)], [.inl 953, gx_r 399, .inl 953, gx_r 399], t0, n, 0)) rfl (fun _ => rfl) rfl ?_
    refine gx_ag (v := .inl y) (cb := fun c => Nat.beq c 0) rfl (fun _ => rfl) g0 rfl rfl ky (by first | decide | omega) rfl ?_
    refine ex_go (S := (46, [(4, .inl y), (0, gx_r 383), (1, .inl 945), (2, .inl 1), (3, .inl as)], [.inl y, .inl y, .inl 953, gx_r 399], t0, n, 0)) rfl (fun _ => rfl) rfl ?_
    refine gx_isub rfl (by first | decide | omega) (by first | decide | omega) rfl ?_
    refine gx_ap rfl (fun _ => rfl) g0 rfl rfl rfl (show 953 < 1035 from by omega) rfl (ai_in_h (by first | decide | omega) (by first | decide | omega) (by first | decide | omega)) rfl (fun t119 g119 k119 e119 => ?_)
    have k20 : ai_hv t119 399 952 = some (.inl x) := (e119 399 952 (by first | decide | omega)).trans kx
    refine ex_go (S := (49, [(4, .inl y), (0, gx_r 383), (1, .inl 945), (2, .inl 1), (3, .inl as)], [gx_r 383], t119, n, 0)) rfl (fun _ => rfl) rfl ?_
    refine gx_ref (c := 399) rfl g119 rfl rfl rfl rfl ?_
    refine ex_go (S := (53, [(4, .inl y), (0, gx_r 383), (1, .inl 945), (2, .inl 1), (3, .inl as)], [.inl 945, gx_r 399], t119, n, 0)) rfl (fun _ => rfl) rfl ?_
    refine ex_go (S := (55, [(4, .inl y), (0, gx_r 383), (1, .inl 945), (2, .inl 1), (3, .inl as)], [.inl 7, .inl 945, gx_r 399], t119, n, 0)) rfl (fun _ => rfl) rfl ?_
    refine ex_go (S := (56, [(4, .inl y), (0, gx_r 383), (1, .inl 945), (2, .inl 1), (3, .inl as)], [.inl 952, gx_r 399], t119, n, 0)) rfl (fun _ => rfl) rfl ?_
    refine ex_go (S := (57, [(4, .inl y), (0, gx_r 383), (1, .inl 945), (2, .inl 1), (3, .inl as)], [.inl 1, .inl 952, gx_r 399], t119, n, 0)) rfl (fun _ => rfl) rfl ?_
    refine ex_go (S := (58, [(4, .inl y), (0, gx_r 383), (1, .inl 945), (2, .inl 1), (3, .inl as)], [.inl 953, gx_r 399], t119, n, 0)) rfl (fun _ => rfl) rfl ?_
    refine ex_go (S := (59, [(4, .inl y), (0, gx_r 383), (1, .inl 945), (2, .inl 1), (3, .inl as)], [.inl 1, .inl 953, gx_r 399], t119, n, 0)) rfl (fun _ => rfl) rfl ?_
    refine ex_go (S := (60, [(4, .inl y), (0, gx_r 383), (1, .inl 945), (2, .inl 1), (3, .inl as)], [.inl 952, gx_r 399], t119, n, 0)) rfl (fun _ => rfl) rfl ?_
    refine ex_go (S := (61, [(4, .inl y), (0, gx_r 383), (1, .inl 945), (2, .inl 1), (3, .inl as)], [.inl 952, gx_r 399, .inl 952, gx_r 399], t119, n, 0)) rfl (fun _ => rfl) rfl ?_
    refine gx_ag (v := .inl x) (cb := fun c => Nat.beq c 0) rfl (fun _ => rfl) g119 rfl rfl k20 (by first | decide | omega) rfl ?_
    refine ex_go (S := (64, [(4, .inl y), (0, gx_r 383), (1, .inl 945), (2, .inl 1), (3, .inl as)], [.inl y, .inl x, .inl 952, gx_r 399], t119, n, 0)) rfl (fun _ => rfl) rfl ?_
    refine ex_iadd rfl (by first | decide | omega) rfl ?_
    refine gx_ap rfl (fun _ => rfl) g119 rfl rfl rfl (show 952 < 1035 from by omega) rfl (ai_in_h (by first | decide | omega) (by first | decide | omega) (by first | decide | omega)) rfl (fun t121 g121 k121 e121 => ?_)
    have k22 : ai_hv t121 399 953 = some (.inl (y - y)) := (e121 399 953 (by first | decide | omega)).trans k119
    refine ex_go (S := (67, [(4, .inl y), (0, gx_r 383), (1, .inl 945), (2, .inl 1), (3, .inl as)], [gx_r 383], t121, n, 0)) rfl (fun _ => rfl) rfl ?_
    refine gx_ref (c := 399) rfl g121 rfl rfl rfl rfl ?_
    refine ex_go (S := (71, [(4, .inl y), (0, gx_r 383), (1, .inl 945), (2, .inl 1), (3, .inl as)], [.inl 945, gx_r 399], t121, n, 0)) rfl (fun _ => rfl) rfl ?_
    refine ex_go (S := (73, [(4, .inl y), (0, gx_r 383), (1, .inl 945), (2, .inl 1), (3, .inl as)], [.inl 9, .inl 945, gx_r 399], t121, n, 0)) rfl (fun _ => rfl) rfl ?_
    refine ex_go (S := (74, [(4, .inl y), (0, gx_r 383), (1, .inl 945), (2, .inl 1), (3, .inl as)], [.inl 954, gx_r 399], t121, n, 0)) rfl (fun _ => rfl) rfl ?_
    refine ex_go (S := (75, [(4, .inl y), (0, gx_r 383), (1, .inl 945), (2, .inl 1), (3, .inl as)], [.inl 1, .inl 954, gx_r 399], t121, n, 0)) rfl (fun _ => rfl) rfl ?_
    refine ex_go (S := (76, [(4, .inl y), (0, gx_r 383), (1, .inl 945), (2, .inl 1), (3, .inl as)], [.inl 955, gx_r 399], t121, n, 0)) rfl (fun _ => rfl) rfl ?_
    refine ex_go (S := (77, [(4, .inl y), (0, gx_r 383), (1, .inl 945), (2, .inl 1), (3, .inl as)], [.inl 955, gx_r 399, .inl 955, gx_r 399], t121, n, 0)) rfl (fun _ => rfl) rfl ?_
    obtain ⟨m23, k24, m23b⟩ := gx_any (c := 399) (i := 955) g121 rfl rfl rfl
    refine gx_ag (v := .inl m23) (cb := fun c => Nat.beq c 0) rfl (fun _ => rfl) g121 rfl rfl k24 (by first | decide | omega) rfl ?_
    refine ex_go (S := (80, [(4, .inl y), (0, gx_r 383), (1, .inl 945), (2, .inl 1), (3, .inl as)], [.inl y, .inl m23, .inl 955, gx_r 399], t121, n, 0)) rfl (fun _ => rfl) rfl ?_
    refine gx_iaddw rfl rfl (fun z25 z25b => ?_)
    refine gx_ap rfl (fun _ => rfl) g121 rfl rfl rfl (show 955 < 1035 from by omega) rfl (gx_full (by first | decide | omega)) rfl (fun t126 g126 k126 e126 => ?_)
    have k27 : ai_hv t126 399 953 = some (.inl (y - y)) := (e126 399 953 (by first | decide | omega)).trans k22
    have k28 : ai_hv t126 399 952 = some (.inl (x + y)) := (e126 399 952 (by first | decide | omega)).trans k121
    refine ex_go (S := (83, [(4, .inl y), (0, gx_r 383), (1, .inl 945), (2, .inl 1), (3, .inl as)], [gx_r 383], t126, n, 0)) rfl (fun _ => rfl) rfl ?_
    refine gx_ref (c := 399) rfl g126 rfl rfl rfl rfl ?_
    refine ex_go (S := (87, [(4, .inl y), (0, gx_r 383), (1, .inl 945), (2, .inl 1), (3, .inl as)], [.inl 945, gx_r 399], t126, n, 0)) rfl (fun _ => rfl) rfl ?_
    refine ex_go (S := (89, [(4, .inl y), (0, gx_r 383), (1, .inl 945), (2, .inl 1), (3, .inl as)], [.inl 9, .inl 945, gx_r 399], t126, n, 0)) rfl (fun _ => rfl) rfl ?_
    refine ex_go (S := (90, [(4, .inl y), (0, gx_r 383), (1, .inl 945), (2, .inl 1), (3, .inl as)], [.inl 954, gx_r 399], t126, n, 0)) rfl (fun _ => rfl) rfl ?_
    refine ex_go (S := (91, [(4, .inl y), (0, gx_r 383), (1, .inl 945), (2, .inl 1), (3, .inl as)], [.inl 1, .inl 954, gx_r 399], t126, n, 0)) rfl (fun _ => rfl) rfl ?_
    refine ex_go (S := (92, [(4, .inl y), (0, gx_r 383), (1, .inl 945), (2, .inl 1), (3, .inl as)], [.inl 955, gx_r 399], t126, n, 0)) rfl (fun _ => rfl) rfl ?_
    refine ex_go (S := (93, [(4, .inl y), (0, gx_r 383), (1, .inl 945), (2, .inl 1), (3, .inl as)], [.inl 1, .inl 955, gx_r 399], t126, n, 0)) rfl (fun _ => rfl) rfl ?_
    refine ex_go (S := (94, [(4, .inl y), (0, gx_r 383), (1, .inl 945), (2, .inl 1), (3, .inl as)], [.inl 954, gx_r 399], t126, n, 0)) rfl (fun _ => rfl) rfl ?_
    refine ex_go (S := (95, [(4, .inl y), (0, gx_r 383), (1, .inl 945), (2, .inl 1), (3, .inl as)], [.inl 954, gx_r 399, .inl 954, gx_r 399], t126, n, 0)) rfl (fun _ => rfl) rfl ?_
    obtain ⟨m29, k30, m29b⟩ := gx_any (c := 399) (i := 954) g126 rfl rfl rfl
    refine gx_ag (v := .inl m29) (cb := fun c => Nat.beq c 0) rfl (fun _ => rfl) g126 rfl rfl k30 (by first | decide | omega) rfl ?_
    refine ex_go (S := (98, [(4, .inl y), (0, gx_r 383), (1, .inl 945), (2, .inl 1), (3, .inl as)], [.inl y, .inl m29, .inl 954, gx_r 399], t126, n, 0)) rfl (fun _ => rfl) rfl ?_
    refine gx_isubw rfl rfl (fun z31 z31b => ?_)
    refine gx_ap rfl (fun _ => rfl) g126 rfl rfl rfl (show 954 < 1035 from by omega) rfl (gx_full (by first | decide | omega)) rfl (fun t132 g132 k132 e132 => ?_)
    have k33 : ai_hv t132 399 953 = some (.inl (y - y)) := (e132 399 953 (by first | decide | omega)).trans k27
    have k34 : ai_hv t132 399 952 = some (.inl (x + y)) := (e132 399 952 (by first | decide | omega)).trans k28
    have k35 : ai_hv t132 399 955 = some (.inl z25) := (e132 399 955 (by first | decide | omega)).trans k126
    refine ex_go (S := (102, [(4, .inl y), (0, gx_r 383), (1, .inl 945), (2, .inl 1), (3, .inl as)], [.inl y], t132, n, 0)) rfl (fun _ => rfl) rfl ?_
    refine ex_ret (r := (some (.inl y), t132, n, 0)) rfl (fun _ => rfl) ?_
    exact ⟨_, rfl, y, t132, rfl, by omega, g132, px_E_two (b := 21) hE (fun c i h => (e132 c i (by first | decide | omega)).trans ((e126 c i (by first | decide | omega)).trans ((e121 c i (by first | decide | omega)).trans (e119 c i (by first | decide | omega))))) k34 k33 (by first | decide | omega), (fun c i h => (e132 c i (by first | decide | omega)).trans ((e126 c i (by first | decide | omega)).trans ((e121 c i (by first | decide | omega)).trans (e119 c i (by first | decide | omega)))))⟩
end PKB
