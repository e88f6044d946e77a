section SSU
theorem pa_l191 (d n : Nat) {t0 : en_H} {w : Nat → Nat → Nat} {x s : Nat} {Q : en_O → Prop} (g0 : ai_HG ah_G t0) (hw : WS w) (hX : CX t0 191 w) (hx : x < 64) (hs : s < 201) (hQ : ∀ cl, en_ld cl 3 = some (.inl (jmp (w 0 0) (w 0 1) (w 1) s x)) → en_ex none (en_u d) (en_code 128) (fun _ => false) (37, cl, [], t0, n, 0) Q) : ∀ j i cl, i + j = 16 → en_ld cl 0 = some (gx_r 191) → en_ld cl 2 = some (.inl s) → en_ld cl 3 = some (.inl (jmp (w 0 0) (w 0 1) (w 1) (s % 2 ^ i) x)) → en_ld cl 4 = some (.inl i) → en_ex none (en_u d) (en_code 128) (fun _ => false) (5, cl, [], t0, n, 0) Q := by
  intro j
  induction j with
  | zero =>
    intro i cl hi l0 l2 l3 l4
    have hi : i = 16 := by omega
    subst hi
    rw [Nat.mod_eq_of_lt (show s < 2 ^ 16 from Nat.lt_of_lt_of_le hs (by decide))] at l3
    refine gx_ld (i := 4) (d := 0) (v := .inl 16) rfl (fun _ => rfl) l4 rfl rfl ?_
    refine ex_go (S := (9, cl, [.inl 16, .inl 16], t0, n, 0)) rfl (fun _ => rfl) rfl ?_
    refine ex_go (S := (37, cl, [], t0, n, 0)) rfl (fun _ => rfl) rfl ?_
    exact hQ _ l3
  | succ j ih =>
    intro i cl hi l0 l2 l3 l4
    have hjl := jmp_lt (F := w 1) (j := x) hw.1.1 hw.1.2.1 hx (s % 2 ^ i)
    refine gx_ld (i := 4) (d := 0) (v := .inl i) rfl (fun _ => rfl) l4 rfl rfl ?_
    refine ex_go (S := (9, cl, [.inl 16, .inl i], t0, n, 0)) rfl (fun _ => rfl) rfl ?_
    refine gx_2f (c := .ge) rfl (by first | decide | omega) (by first | decide | omega) (show ¬ (16 ≤ i) from by omega) rfl ?_
    refine gx_ld (i := 2) (d := 0) (v := .inl s) rfl (fun _ => rfl) l2 rfl rfl ?_
    refine gx_ld (i := 4) (d := 0) (v := .inl i) rfl (fun _ => rfl) l4 rfl rfl ?_
    refine ex_go (S := (16, cl, [.inl ((nI s >>> (nI i &&& 31)).toBitVec.toNat)], t0, n, 0)) rfl (fun _ => rfl) rfl ?_
    refine ex_go (S := (17, cl, [.inl 1, .inl ((nI s >>> (nI i &&& 31)).toBitVec.toNat)], t0, n, 0)) rfl (fun _ => rfl) rfl ?_
    refine ex_go (S := (18, cl, [.inl ((nI ((nI s >>> (nI i &&& 31)).toBitVec.toNat) &&& nI 1).toBitVec.toNat)], t0, n, 0)) rfl (fun _ => rfl) rfl ?_
    rw [wh_bit s hs i (by first | decide | omega)]
    rcases Nat.mod_two_eq_zero_or_one (s / 2 ^ i) with hb | hb
    · rw [hb]
      refine ex_go (S := (31, cl, [], t0, n, 0)) rfl (fun _ => rfl) rfl ?_
      refine gx_incS (i := 4) (a := i) (x := 1) rfl (fun _ => rfl) l4 (by first | decide | omega) rfl (fun l21 hl21 ml21 => ?_)
      have l21_0 : en_ld l21 0 = some (gx_r 191) := ml21 0 _ l0 rfl
      have l21_2 : en_ld l21 2 = some (.inl s) := ml21 2 _ l2 rfl
      have l21_3 : en_ld l21 3 = some (.inl (jmp (w 0 0) (w 0 1) (w 1) (s % 2 ^ i) x)) := ml21 3 _ l3 rfl
      refine ex_go (S := (5, l21, [], t0, n, 0)) rfl (fun _ => rfl) rfl ?_
      exact ih (i + 1) _ (by first | decide | omega) l21_0 l21_2 (by rw [wh_step, if_pos hb]; exact l21_3) hl21
    · rw [hb]
      refine ex_go (S := (21, cl, [], t0, n, 0)) rfl (fun _ => rfl) rfl ?_
      refine gx_ld (i := 0) (d := 2) (v := gx_r 191) rfl (fun _ => rfl) l0 rfl rfl ?_
      refine gxo_ref (a := 191) (c := 240) rfl g0 rfl rfl rfl rfl rfl ?_
      refine gx_ld (i := 4) (d := 0) (v := .inl i) rfl (fun _ => rfl) l4 rfl rfl ?_
      refine gx_ag (v := gx_r (241 + i)) (cb := fun c => Nat.ble 4 c && Nat.ble c 7) rfl (fun _ => rfl) g0 rfl rfl (hX.2.1 i (by first | decide | omega)) (by first | decide | omega) rfl ?_
      refine gx_ld (i := 3) (d := 0) (v := .inl (jmp (w 0 0) (w 0 1) (w 1) (s % 2 ^ i) x)) rfl (fun _ => rfl) l3 rfl rfl ?_
      refine gx_ag (v := .inl (jmp (w 0 0) (w 0 1) (w 1) (2 ^ i) (jmp (w 0 0) (w 0 1) (w 1) (s % 2 ^ i) x))) (cb := fun c => Nat.beq c 0) rfl (fun _ => rfl) g0 (jmG191 (by first | decide | omega)) rfl (hX.2.2.1 i (by first | decide | omega) _ hjl) (by first | decide | omega) rfl ?_
      refine gx_sto (i := 3) (d := 0) rfl (fun _ => rfl) rfl rfl (fun l22 hl22 ml22 => ?_)
      have l22_0 : en_ld l22 0 = some (gx_r 191) := ml22 0 _ l0 rfl
      have l22_2 : en_ld l22 2 = some (.inl s) := ml22 2 _ l2 rfl
      have l22_4 : en_ld l22 4 = some (.inl i) := ml22 4 _ l4 rfl
      refine gx_incS (i := 4) (a := i) (x := 1) rfl (fun _ => rfl) l22_4 (by first | decide | omega) rfl (fun l23 hl23 ml23 => ?_)
      have l23_0 : en_ld l23 0 = some (gx_r 191) := ml23 0 _ l22_0 rfl
      have l23_2 : en_ld l23 2 = some (.inl s) := ml23 2 _ l22_2 rfl
      have l23_3 : en_ld l23 3 = some (.inl (jmp (w 0 0) (w 0 1) (w 1) (2 ^ i) (jmp (w 0 0) (w 0 1) (w 1) (s % 2 ^ i) x))) := ml23 3 _ hl22 rfl
      refine ex_go (S := (5, l23, [], t0, n, 0)) rfl (fun _ => rfl) rfl ?_
      exact ih (i + 1) _ (by first | decide | omega) l23_0 l23_2 (by rw [wh_step, if_neg (by rw [hb]; decide)]; exact l23_3) hl23
theorem sc_after191 (d n : Nat) {t0 : en_H} {w : Nat → Nat → Nat} {x s : Nat} (g0 : ai_HG ah_G t0) (hw : WS w) (hX : CX t0 191 w) (hx : x < 64) (hs : s < 201) : ∃ r, en_u (d + 1) 128 [gx_r 191, .inl x, .inl s] t0 n = some r ∧ r = (some (.inl (jmp (w 0 0) (w 0 1) (w 1) s x)), t0, n, 0) := by
  refine en_u_ex rfl ?_
  show en_ex _ _ _ _ (0, [(0, gx_r 191), (1, .inl x), (2, .inl s)], [], t0, n, 0) _
  refine ex_go (S := (1, [(0, gx_r 191), (1, .inl x), (2, .inl s)], [.inl x], t0, n, 0)) rfl (fun _ => rfl) rfl ?_
  refine ex_go (S := (2, [(3, .inl x), (0, gx_r 191), (1, .inl x), (2, .inl s)], [], t0, n, 0)) rfl (fun _ => rfl) rfl ?_
  refine ex_go (S := (3, [(3, .inl x), (0, gx_r 191), (1, .inl x), (2, .inl s)], [.inl 0], t0, n, 0)) rfl (fun _ => rfl) rfl ?_
  refine ex_go (S := (5, [(4, .inl 0), (3, .inl x), (0, gx_r 191), (1, .inl x), (2, .inl s)], [], t0, n, 0)) rfl (fun _ => rfl) rfl ?_
  refine pa_l191 d n g0 hw hX hx hs (fun cl l3 => ?_) 16 0 _ (by first | decide | omega) rfl rfl (show en_ld [(4, .inl 0), (3, .inl x), (0, gx_r 191), (1, .inl x), (2, .inl s)] 3 = some (.inl (jmp (w 0 0) (w 0 1) (w 1) (s % 2 ^ 0) x)) from by rw [Nat.pow_zero, Nat.mod_one]; rfl) rfl
  refine gx_ld (i := 3) (d := 0) (v := .inl (jmp (w 0 0) (w 0 1) (w 1) s x)) rfl (fun _ => rfl) l3 rfl rfl ?_
  refine ex_ret (r := (some (.inl (jmp (w 0 0) (w 0 1) (w 1) s x)), t0, n, 0)) rfl (fun _ => rfl) ?_
  exact ⟨_, rfl, rfl⟩
theorem pa_l257 (d n : Nat) {t0 : en_H} {w : Nat → Nat → Nat} {x s : Nat} {Q : en_O → Prop} (g0 : ai_HG ah_G t0) (hw : WS w) (hX : CX t0 257 w) (hx : x < 64) (hs : s < 201) (hQ : ∀ cl, en_ld cl 3 = some (.inl (jmp (w 0 0) (w 0 1) (w 1) s x)) → en_ex none (en_u d) (en_code 128) (fun _ => false) (37, cl, [], t0, n, 0) Q) : ∀ j i cl, i + j = 16 → en_ld cl 0 = some (gx_r 257) → en_ld cl 2 = some (.inl s) → en_ld cl 3 = some (.inl (jmp (w 0 0) (w 0 1) (w 1) (s % 2 ^ i) x)) → en_ld cl 4 = some (.inl i) → en_ex none (en_u d) (en_code 128) (fun _ => false) (5, cl, [], t0, n, 0) Q := by
  intro j
  induction j with
  | zero =>
    intro i cl hi l0 l2 l3 l4
    have hi : i = 16 := by omega
    subst hi
    rw [Nat.mod_eq_of_lt (show s < 2 ^ 16 from Nat.lt_of_lt_of_le hs (by decide))] at l3
    refine gx_ld (i := 4) (d := 0) (v := .inl 16) rfl (fun _ => rfl) l4 rfl rfl ?_
    refine ex_go (S := (9, cl, [.inl 16, .inl 16], t0, n, 0)) rfl (fun _ => rfl) rfl ?_
    refine ex_go (S := (37, cl, [], t0, n, 0)) rfl (fun _ => rfl) rfl ?_
    exact hQ _ l3
  | succ j ih =>
    intro i cl hi l0 l2 l3 l4
    have hjl := jmp_lt (F := w 1) (j := x) hw.1.1 hw.1.2.1 hx (s % 2 ^ i)
    refine gx_ld (i := 4) (d := 0) (v := .inl i) rfl (fun _ => rfl) l4 rfl rfl ?_
    refine ex_go (S := (9, cl, [.inl 16, .inl i], t0, n, 0)) rfl (fun _ => rfl) rfl ?_
    refine gx_2f (c := .ge) rfl (by first | decide | omega) (by first | decide | omega) (show ¬ (16 ≤ i) from by omega) rfl ?_
    refine gx_ld (i := 2) (d := 0) (v := .inl s) rfl (fun _ => rfl) l2 rfl rfl ?_
    refine gx_ld (i := 4) (d := 0) (v := .inl i) rfl (fun _ => rfl) l4 rfl rfl ?_
    refine ex_go (S := (16, cl, [.inl ((nI s >>> (nI i &&& 31)).toBitVec.toNat)], t0, n, 0)) rfl (fun _ => rfl) rfl ?_
    refine ex_go (S := (17, cl, [.inl 1, .inl ((nI s >>> (nI i &&& 31)).toBitVec.toNat)], t0, n, 0)) rfl (fun _ => rfl) rfl ?_
    refine ex_go (S := (18, cl, [.inl ((nI ((nI s >>> (nI i &&& 31)).toBitVec.toNat) &&& nI 1).toBitVec.toNat)], t0, n, 0)) rfl (fun _ => rfl) rfl ?_
    rw [wh_bit s hs i (by first | decide | omega)]
    rcases Nat.mod_two_eq_zero_or_one (s / 2 ^ i) with hb | hb
    · rw [hb]
      refine ex_go (S := (31, cl, [], t0, n, 0)) rfl (fun _ => rfl) rfl ?_
      refine gx_incS (i := 4) (a := i) (x := 1) rfl (fun _ => rfl) l4 (by first | decide | omega) rfl (fun l21 hl21 ml21 => ?_)
      have l21_0 : en_ld l21 0 = some (gx_r 257) := ml21 0 _ l0 rfl
      have l21_2 : en_ld l21 2 = some (.inl s) := ml21 2 _ l2 rfl
      have l21_3 : en_ld l21 3 = some (.inl (jmp (w 0 0) (w 0 1) (w 1) (s % 2 ^ i) x)) := ml21 3 _ l3 rfl
      refine ex_go (S := (5, l21, [], t0, n, 0)) rfl (fun _ => rfl) rfl ?_
      exact ih (i + 1) _ (by first | decide | omega) l21_0 l21_2 (by rw [wh_step, if_pos hb]; exact l21_3) hl21
    · rw [hb]
      refine ex_go (S := (21, cl, [], t0, n, 0)) rfl (fun _ => rfl) rfl ?_
      refine gx_ld (i := 0) (d := 2) (v := gx_r 257) rfl (fun _ => rfl) l0 rfl rfl ?_
      refine gxo_ref (a := 257) (c := 306) rfl g0 rfl rfl rfl rfl rfl ?_
      refine gx_ld (i := 4) (d := 0) (v := .inl i) rfl (fun _ => rfl) l4 rfl rfl ?_
      refine gx_ag (v := gx_r (307 + i)) (cb := fun c => Nat.ble 4 c && Nat.ble c 7) rfl (fun _ => rfl) g0 rfl rfl (hX.2.1 i (by first | decide | omega)) (by first | decide | omega) rfl ?_
      refine gx_ld (i := 3) (d := 0) (v := .inl (jmp (w 0 0) (w 0 1) (w 1) (s % 2 ^ i) x)) rfl (fun _ => rfl) l3 rfl rfl ?_
      refine gx_ag (v := .inl (jmp (w 0 0) (w 0 1) (w 1) (2 ^ i) (jmp (w 0 0) (w 0 1) (w 1) (s % 2 ^ i) x))) (cb := fun c => Nat.beq c 0) rfl (fun _ => rfl) g0 (jmG257 (by first | decide | omega)) rfl (hX.2.2.1 i (by first | decide | omega) _ hjl) (by first | decide | omega) rfl ?_
      refine gx_sto (i := 3) (d := 0) rfl (fun _ => rfl) rfl rfl (fun l22 hl22 ml22 => ?_)
      have l22_0 : en_ld l22 0 = some (gx_r 257) := ml22 0 _ l0 rfl
      have l22_2 : en_ld l22 2 = some (.inl s) := ml22 2 _ l2 rfl
      have l22_4 : en_ld l22 4 = some (.inl i) := ml22 4 _ l4 rfl
      refine gx_incS (i := 4) (a := i) (x := 1) rfl (fun _ => rfl) l22_4 (by first | decide | omega) rfl (fun l23 hl23 ml23 => ?_)
      have l23_0 : en_ld l23 0 = some (gx_r 257) := ml23 0 _ l22_0 rfl
      have l23_2 : en_ld l23 2 = some (.inl s) := ml23 2 _ l22_2 rfl
      have l23_3 : en_ld l23 3 = some (.inl (jmp (w 0 0) (w 0 1) (w 1) (2 ^ i) (jmp (w 0 0) (w 0 1) (w 1) (s % 2 ^ i) x))) := ml23 3 _ hl22 rfl
      refine ex_go (S := (5, l23, [], t0, n, 0)) rfl (fun _ => rfl) rfl ?_
      exact ih (i + 1) _ (by first | decide | omega) l23_0 l23_2 (by rw [wh_step, if_neg (by rw [hb]; decide)]; exact l23_3) hl23
theorem sc_after257 (d n : Nat) {t0 : en_H} {w : Nat → Nat → Nat} {x s : Nat} (g0 : ai_HG ah_G t0) (hw : WS w) (hX : CX t0 257 w) (hx : x < 64) (hs : s < 201) : ∃ r, en_u (d + 1) 128 [gx_r 257, .inl x, .inl s] t0 n = some r ∧ r = (some (.inl (jmp (w 0 0) (w 0 1) (w 1) s x)), t0, n, 0) := by
  refine en_u_ex rfl ?_
  show en_ex _ _ _ _ (0, [(0, gx_r 257), (1, .inl x), (2, .inl s)], [], t0, n, 0) _
  refine ex_go (S := (1, [(0, gx_r 257), (1, .inl x), (2, .inl s)], [.inl x], t0, n, 0)) rfl (fun _ => rfl) rfl ?_
  refine ex_go (S := (2, [(3, .inl x), (0, gx_r 257), (1, .inl x), (2, .inl s)], [], t0, n, 0)) rfl (fun _ => rfl) rfl ?_
  refine ex_go (S := (3, [(3, .inl x), (0, gx_r 257), (1, .inl x), (2, .inl s)], [.inl 0], t0, n, 0)) rfl (fun _ => rfl) rfl ?_
  refine ex_go (S := (5, [(4, .inl 0), (3, .inl x), (0, gx_r 257), (1, .inl x), (2, .inl s)], [], t0, n, 0)) rfl (fun _ => rfl) rfl ?_
  refine pa_l257 d n g0 hw hX hx hs (fun cl l3 => ?_) 16 0 _ (by first | decide | omega) rfl rfl (show en_ld [(4, .inl 0), (3, .inl x), (0, gx_r 257), (1, .inl x), (2, .inl s)] 3 = some (.inl (jmp (w 0 0) (w 0 1) (w 1) (s % 2 ^ 0) x)) from by rw [Nat.pow_zero, Nat.mod_one]; rfl) rfl
  refine gx_ld (i := 3) (d := 0) (v := .inl (jmp (w 0 0) (w 0 1) (w 1) s x)) rfl (fun _ => rfl) l3 rfl rfl ?_
  refine ex_ret (r := (some (.inl (jmp (w 0 0) (w 0 1) (w 1) s x)), t0, n, 0)) rfl (fun _ => rfl) ?_
  exact ⟨_, rfl, rfl⟩
theorem sc_where191 (d n : Nat) {t0 : en_H} {w : Nat → Nat → Nat} {L : List Nat} {σ : Nat → Nat} {x y : Nat} (g0 : ai_HG ah_G t0) (hC : CW t0 191 w L) (hw : WS w) (hX : CX t0 191 w) (k10 : ai_hv t0 0 10 = some (gx_r 191)) (hS : SC t0 8 (w 0 2) (w 0 4) σ) (hσ : ∀ i, i < w 0 2 → σ (1 + i) < 64) (hx : x < 4294967296) (hy : y < 4294967296) : ∃ r, en_u (d + 3) 54 [gx_r 0, .inl x, .inl y] t0 n = some r ∧ ∃ v, r = (some (.inl v), t0, n, 0) ∧ ((x < w 0 2 ∧ y ≤ 200) → v = jmp (w 0 0) (w 0 1) (w 1) y (σ (1 + x))) ∧ (¬ (x < w 0 2 ∧ y ≤ 200) → v = 4294967295) := by
  have hT := hw.1.2.2.1
  refine en_u_ex (d := d + 2) rfl ?_
  show en_ex _ _ _ _ (0, [(0, gx_r 0), (1, .inl x), (2, .inl y)], [], t0, n, 0) _
  refine ex_go (S := (1, [(0, gx_r 0), (1, .inl x), (2, .inl y)], [gx_r 0], t0, n, 0)) rfl (fun _ => rfl) rfl ?_
  refine gxo_get (a := 0) rfl g0 rfl rfl k10 rfl ?_
  refine gxo_ref (a := 191) (c := 194) rfl g0 rfl rfl rfl rfl rfl ?_
  refine ex_go (S := (8, [(0, gx_r 0), (1, .inl x), (2, .inl y)], [.inl x, gx_r 194], t0, n, 0)) rfl (fun _ => rfl) rfl ?_
  obtain ⟨_, r121, b121, rfl, hb121, hi121⟩ := pz_holds194 (d + 1) n (x := x) (K := w 0 2) g0 (by first | decide | omega) hC.1.2.2.2.1 (by first | decide | omega)
  refine gx_callo (a := 194) rfl rfl g0 rfl rfl rfl r121 rfl ?_
  show en_ex _ _ _ _ (11, [(0, gx_r 0), (1, .inl x), (2, .inl y)], [.inl b121], t0, n, 0) _
  by_cases hc22 : b121 = 0
  · refine gx_1t (c := .eq) rfl (by first | decide | omega) hc22 rfl ?_
    refine ex_go (S := (26, [(0, gx_r 0), (1, .inl x), (2, .inl y)], [.inl 4294967295], t0, n, 0)) rfl (fun _ => rfl) rfl ?_
    refine ex_ret (r := (some (.inl 4294967295), t0, n, 0)) rfl (fun _ => rfl) ?_
    exact ⟨_, rfl, _, rfl, (fun c9 => by omega), (fun _ => rfl)⟩
  · refine gx_1f (c := .eq) rfl (by first | decide | omega) hc22 rfl ?_
    refine ex_go (S := (15, [(0, gx_r 0), (1, .inl x), (2, .inl y)], [.inl y], t0, n, 0)) rfl (fun _ => rfl) rfl ?_
    refine ex_go (S := (16, [(0, gx_r 0), (1, .inl x), (2, .inl y)], [.inl 0, .inl y], t0, n, 0)) rfl (fun _ => rfl) rfl ?_
    refine ex_go (S := (19, [(0, gx_r 0), (1, .inl x), (2, .inl y)], [.inl 200, .inl 0, .inl y], t0, n, 0)) rfl (fun _ => rfl) rfl ?_
    obtain ⟨_, r23, b24, rfl, b24b, q25⟩ := pz_isWithin (d + 1) n (t0 := t0) (x := y) (lo := 0) (hi := 200) (by first | decide | omega) (by first | decide | omega) (by first | decide | omega)
    refine ex_stat rfl rfl rfl rfl rfl r23 (Nat.le_refl _) rfl ?_
    show en_ex _ _ _ _ (22, [(0, gx_r 0), (1, .inl x), (2, .inl y)], [.inl b24], t0, n, 0) _
    by_cases hc26 : b24 ≠ 0
    · refine gx_1t (c := .ne) rfl (by first | decide | omega) hc26 rfl ?_
      refine ex_go (S := (28, [(0, gx_r 0), (1, .inl x), (2, .inl y)], [gx_r 0], t0, n, 0)) rfl (fun _ => rfl) rfl ?_
      refine gxo_get (a := 0) rfl g0 rfl rfl k10 rfl ?_
      refine ex_go (S := (32, [(0, gx_r 0), (1, .inl x), (2, .inl y)], [gx_r 0, gx_r 191], t0, n, 0)) rfl (fun _ => rfl) rfl ?_
      refine gxo_ref (a := 0) (c := 8) rfl g0 rfl rfl rfl rfl rfl ?_
      refine gxo_ref (a := 8) (c := 9) rfl g0 rfl rfl rfl rfl rfl ?_
      refine ex_go (S := (39, [(0, gx_r 0), (1, .inl x), (2, .inl y)], [.inl x, gx_r 9, gx_r 191], t0, n, 0)) rfl (fun _ => rfl) rfl ?_
      have k27 := hS.2.1 x (by first | decide | omega)
      have hk27 := hσ x (by first | decide | omega)
      refine gx_ag (v := .inl (σ (1 + x))) (cb := fun c => Nat.beq c 0) rfl (fun _ => rfl) g0 rfl rfl k27 (by first | decide | omega) rfl ?_
      refine ex_go (S := (41, [(0, gx_r 0), (1, .inl x), (2, .inl y)], [.inl y, .inl (σ (1 + x)), gx_r 191], t0, n, 0)) rfl (fun _ => rfl) rfl ?_
      obtain ⟨_, r28, rfl⟩ := sc_after191 (d + 1) n (x := σ (1 + x)) (s := y) g0 hw hX (by first | decide | omega) (by first | decide | omega)
      refine gx_callo (a := 191) rfl rfl g0 rfl rfl rfl r28 rfl ?_
      show en_ex _ _ _ _ (44, [(0, gx_r 0), (1, .inl x), (2, .inl y)], [.inl (jmp (w 0 0) (w 0 1) (w 1) y (σ (1 + x)))], t0, n, 0) _
      refine ex_ret (r := (some (.inl (jmp (w 0 0) (w 0 1) (w 1) y (σ (1 + x)))), t0, n, 0)) rfl (fun _ => rfl) ?_
      exact ⟨_, rfl, _, rfl, (fun _ => rfl), (fun c9 => absurd ⟨by omega, by omega⟩ c9)⟩
    · refine gx_1f (c := .ne) rfl (by first | decide | omega) hc26 rfl ?_
      refine ex_go (S := (26, [(0, gx_r 0), (1, .inl x), (2, .inl y)], [.inl 4294967295], t0, n, 0)) rfl (fun _ => rfl) rfl ?_
      refine ex_ret (r := (some (.inl 4294967295), t0, n, 0)) rfl (fun _ => rfl) ?_
      exact ⟨_, rfl, _, rfl, (fun c9 => by omega), (fun _ => rfl)⟩
theorem sc_where257 (d n : Nat) {t0 : en_H} {w : Nat → Nat → Nat} {L : List Nat} {σ : Nat → Nat} {x y : Nat} (g0 : ai_HG ah_G t0) (hC : CW t0 257 w L) (hw : WS w) (hX : CX t0 257 w) (k10 : ai_hv t0 0 10 = some (gx_r 257)) (hS : SC t0 8 (w 0 2) (w 0 4) σ) (hσ : ∀ i, i < w 0 2 → σ (1 + i) < 64) (hx : x < 4294967296) (hy : y < 4294967296) : ∃ r, en_u (d + 3) 54 [gx_r 0, .inl x, .inl y] t0 n = some r ∧ ∃ v, r = (some (.inl v), t0, n, 0) ∧ ((x < w 0 2 ∧ y ≤ 200) → v = jmp (w 0 0) (w 0 1) (w 1) y (σ (1 + x))) ∧ (¬ (x < w 0 2 ∧ y ≤ 200) → v = 4294967295) := by
  have hT := hw.1.2.2.1
  refine en_u_ex (d := d + 2) rfl ?_
  show en_ex _ _ _ _ (0, [(0, gx_r 0), (1, .inl x), (2, .inl y)], [], t0, n, 0) _
  refine ex_go (S := (1, [(0, gx_r 0), (1, .inl x), (2, .inl y)], [gx_r 0], t0, n, 0)) rfl (fun _ => rfl) rfl ?_
  refine gxo_get (a := 0) rfl g0 rfl rfl k10 rfl ?_
  refine gxo_ref (a := 257) (c := 260) rfl g0 rfl rfl rfl rfl rfl ?_
  refine ex_go (S := (8, [(0, gx_r 0), (1, .inl x), (2, .inl y)], [.inl x, gx_r 260], t0, n, 0)) rfl (fun _ => rfl) rfl ?_
  obtain ⟨_, r121, b121, rfl, hb121, hi121⟩ := pz_holds260 (d + 1) n (x := x) (K := w 0 2) g0 (by first | decide | omega) hC.1.2.2.2.1 (by first | decide | omega)
  refine gx_callo (a := 260) rfl rfl g0 rfl rfl rfl r121 rfl ?_
  show en_ex _ _ _ _ (11, [(0, gx_r 0), (1, .inl x), (2, .inl y)], [.inl b121], t0, n, 0) _
  by_cases hc22 : b121 = 0
  · refine gx_1t (c := .eq) rfl (by first | decide | omega) hc22 rfl ?_
    refine ex_go (S := (26, [(0, gx_r 0), (1, .inl x), (2, .inl y)], [.inl 4294967295], t0, n, 0)) rfl (fun _ => rfl) rfl ?_
    refine ex_ret (r := (some (.inl 4294967295), t0, n, 0)) rfl (fun _ => rfl) ?_
    exact ⟨_, rfl, _, rfl, (fun c9 => by omega), (fun _ => rfl)⟩
  · refine gx_1f (c := .eq) rfl (by first | decide | omega) hc22 rfl ?_
    refine ex_go (S := (15, [(0, gx_r 0), (1, .inl x), (2, .inl y)], [.inl y], t0, n, 0)) rfl (fun _ => rfl) rfl ?_
    refine ex_go (S := (16, [(0, gx_r 0), (1, .inl x), (2, .inl y)], [.inl 0, .inl y], t0, n, 0)) rfl (fun _ => rfl) rfl ?_
    refine ex_go (S := (19, [(0, gx_r 0), (1, .inl x), (2, .inl y)], [.inl 200, .inl 0, .inl y], t0, n, 0)) rfl (fun _ => rfl) rfl ?_
    obtain ⟨_, r23, b24, rfl, b24b, q25⟩ := pz_isWithin (d + 1) n (t0 := t0) (x := y) (lo := 0) (hi := 200) (by first | decide | omega) (by first | decide | omega) (by first | decide | omega)
    refine ex_stat rfl rfl rfl rfl rfl r23 (Nat.le_refl _) rfl ?_
    show en_ex _ _ _ _ (22, [(0, gx_r 0), (1, .inl x), (2, .inl y)], [.inl b24], t0, n, 0) _
    by_cases hc26 : b24 ≠ 0
    · refine gx_1t (c := .ne) rfl (by first | decide | omega) hc26 rfl ?_
      refine ex_go (S := (28, [(0, gx_r 0), (1, .inl x), (2, .inl y)], [gx_r 0], t0, n, 0)) rfl (fun _ => rfl) rfl ?_
      refine gxo_get (a := 0) rfl g0 rfl rfl k10 rfl ?_
      refine ex_go (S := (32, [(0, gx_r 0), (1, .inl x), (2, .inl y)], [gx_r 0, gx_r 257], t0, n, 0)) rfl (fun _ => rfl) rfl ?_
      refine gxo_ref (a := 0) (c := 8) rfl g0 rfl rfl rfl rfl rfl ?_
      refine gxo_ref (a := 8) (c := 9) rfl g0 rfl rfl rfl rfl rfl ?_
      refine ex_go (S := (39, [(0, gx_r 0), (1, .inl x), (2, .inl y)], [.inl x, gx_r 9, gx_r 257], t0, n, 0)) rfl (fun _ => rfl) rfl ?_
      have k27 := hS.2.1 x (by first | decide | omega)
      have hk27 := hσ x (by first | decide | omega)
      refine gx_ag (v := .inl (σ (1 + x))) (cb := fun c => Nat.beq c 0) rfl (fun _ => rfl) g0 rfl rfl k27 (by first | decide | omega) rfl ?_
      refine ex_go (S := (41, [(0, gx_r 0), (1, .inl x), (2, .inl y)], [.inl y, .inl (σ (1 + x)), gx_r 257], t0, n, 0)) rfl (fun _ => rfl) rfl ?_
      obtain ⟨_, r28, rfl⟩ := sc_after257 (d + 1) n (x := σ (1 + x)) (s := y) g0 hw hX (by first | decide | omega) (by first | decide | omega)
      refine gx_callo (a := 257) rfl rfl g0 rfl rfl rfl r28 rfl ?_
      show en_ex _ _ _ _ (44, [(0, gx_r 0), (1, .inl x), (2, .inl y)], [.inl (jmp (w 0 0) (w 0 1) (w 1) y (σ (1 + x)))], t0, n, 0) _
      refine ex_ret (r := (some (.inl (jmp (w 0 0) (w 0 1) (w 1) y (σ (1 + x)))), t0, n, 0)) rfl (fun _ => rfl) ?_
      exact ⟨_, rfl, _, rfl, (fun _ => rfl), (fun c9 => absurd ⟨by omega, by omega⟩ c9)⟩
    · refine gx_1f (c := .ne) rfl (by first | decide | omega) hc26 rfl ?_
      refine ex_go (S := (26, [(0, gx_r 0), (1, .inl x), (2, .inl y)], [.inl 4294967295], t0, n, 0)) rfl (fun _ => rfl) rfl ?_
      refine ex_ret (r := (some (.inl 4294967295), t0, n, 0)) rfl (fun _ => rfl) ?_
      exact ⟨_, rfl, _, rfl, (fun c9 => by omega), (fun _ => rfl)⟩
theorem sr_where (d n : Nat) {t0 : en_H} {w : Nat → Nat → Nat} {L : List Nat} {σ : Nat → Nat} {x y : Nat} (g0 : ai_HG ah_G t0) (hR : RW t0 w L) (hS : blk t0 0 σ) (hσ : ∀ i, i < w 0 2 → σ (1 + i) < 64) (hx : x < 4294967296) (hy : y < 4294967296) : ∃ r, en_u (d + 5) 55 [gx_r 383, .inl x, .inl y] t0 n = some r ∧ ∃ v t', r = (some (.inl v), t', n, 0) ∧ ((x < w 0 2 ∧ y ≤ 200) → v = jmp (w 0 0) (w 0 1) (w 1) y (σ (1 + x))) ∧ (¬ (x < w 0 2 ∧ y ≤ 200) → v = 4294967295) := by
  have hT := hR.2.1.2.2.1
  refine en_u_ex (d := d + 4) rfl ?_
  show en_ex _ _ _ _ (0, [(0, gx_r 383), (1, .inl x), (2, .inl y)], [], t0, n, 0) _
  refine ex_go (S := (1, [(0, gx_r 383), (1, .inl x), (2, .inl y)], [gx_r 383], t0, n, 0)) rfl (fun _ => rfl) rfl ?_
  refine ex_go (S := (2, [(0, gx_r 383), (1, .inl x), (2, .inl y)], [.inl 0, gx_r 383], t0, n, 0)) rfl (fun _ => rfl) rfl ?_
  refine gx_put rfl g0 rfl rfl (ai_in_h (by first | decide | omega) (by first | decide | omega) (by first | decide | omega)) rfl (fun t121 g121 k121 e121 => ?_)
  refine ex_go (S := (6, [(0, gx_r 383), (1, .inl x), (2, .inl y)], [gx_r 383], t121, n, 0)) rfl (fun _ => rfl) rfl ?_
  refine ex_go (S := (7, [(0, gx_r 383), (1, .inl x), (2, .inl y)], [.inl x, gx_r 383], t121, n, 0)) rfl (fun _ => rfl) rfl ?_
  obtain ⟨_, r122, b122, rfl, hb122, hi122⟩ := sr_isThing (d + 2) n (c := x) (K := w 0 2) g121 (by first | decide | omega) ((e121 389 2 (by first | decide | omega)).trans ((hR.1 2 (by first | decide | omega)))) (by first | decide | omega)
  refine gx_call1 rfl rfl g121 rfl rfl r122 rfl ?_
  show en_ex _ _ _ _ (10, [(0, gx_r 383), (1, .inl x), (2, .inl y)], [.inl b122], t121, n, 0) _
  by_cases hc23 : b122 = 0
  · refine gx_1t (c := .eq) rfl (by first | decide | omega) hc23 rfl ?_
    refine ex_go (S := (41, [(0, gx_r 383), (1, .inl x), (2, .inl y)], [.inl 4294967295], t121, n, 0)) rfl (fun _ => rfl) rfl ?_
    refine ex_ret (r := (some (.inl 4294967295), t121, n, 0)) rfl (fun _ => rfl) ?_
    exact ⟨_, rfl, _, _, rfl, (fun c9 => by omega), (fun _ => rfl)⟩
  · refine gx_1f (c := .eq) rfl (by first | decide | omega) hc23 rfl ?_
    refine ex_go (S := (14, [(0, gx_r 383), (1, .inl x), (2, .inl y)], [.inl y], t121, n, 0)) rfl (fun _ => rfl) rfl ?_
    refine ex_go (S := (15, [(0, gx_r 383), (1, .inl x), (2, .inl y)], [.inl 0, .inl y], t121, n, 0)) rfl (fun _ => rfl) rfl ?_
    refine ex_go (S := (18, [(0, gx_r 383), (1, .inl x), (2, .inl y)], [.inl 200, .inl 0, .inl y], t121, n, 0)) rfl (fun _ => rfl) rfl ?_
    obtain ⟨_, r24, b25, rfl, b25b, q26⟩ := pz_within (d + 3) n (t0 := t121) (x := y) (lo := 0) (hi := 200) (by first | decide | omega) (by first | decide | omega) (by first | decide | omega)
    refine ex_stat rfl rfl rfl rfl rfl r24 (Nat.le_refl _) rfl ?_
    show en_ex _ _ _ _ (21, [(0, gx_r 383), (1, .inl x), (2, .inl y)], [.inl b25], t121, n, 0) _
    by_cases hc27 : b25 = 0
    · refine gx_1t (c := .eq) rfl (by first | decide | omega) hc27 rfl ?_
      refine ex_go (S := (41, [(0, gx_r 383), (1, .inl x), (2, .inl y)], [.inl 4294967295], t121, n, 0)) rfl (fun _ => rfl) rfl ?_
      refine ex_ret (r := (some (.inl 4294967295), t121, n, 0)) rfl (fun _ => rfl) ?_
      exact ⟨_, rfl, _, _, rfl, (fun c9 => by omega), (fun _ => rfl)⟩
    · refine gx_1f (c := .eq) rfl (by first | decide | omega) hc27 rfl ?_
      refine ex_go (S := (25, [(0, gx_r 383), (1, .inl x), (2, .inl y)], [gx_r 383], t121, n, 0)) rfl (fun _ => rfl) rfl ?_
      refine ex_go (S := (26, [(0, gx_r 383), (1, .inl x), (2, .inl y)], [gx_r 383, gx_r 383], t121, n, 0)) rfl (fun _ => rfl) rfl ?_
      refine gx_ref (c := 399) rfl g121 rfl rfl rfl rfl ?_
      refine ex_go (S := (30, [(0, gx_r 383), (1, .inl x), (2, .inl y)], [.inl 1, gx_r 399, gx_r 383], t121, n, 0)) rfl (fun _ => rfl) rfl ?_
      refine ex_go (S := (31, [(0, gx_r 383), (1, .inl x), (2, .inl y)], [.inl x, .inl 1, gx_r 399, gx_r 383], t121, n, 0)) rfl (fun _ => rfl) rfl ?_
      refine ex_iadd rfl (by first | decide | omega) rfl ?_
      have k28 : ai_hv t121 399 (1 + x) = some (.inl (σ (1 + x))) := by
        have h9 := hS (1 + x) (by first | decide | omega)
        rw [Nat.zero_add] at h9
        exact (e121 399 (1 + x) (by first | decide | omega)).trans (h9)
      have hk28 := hσ x (by first | decide | omega)
      refine gx_ag (v := .inl (σ (1 + x))) (cb := fun c => Nat.beq c 0) rfl (fun _ => rfl) g121 rfl rfl k28 (by first | decide | omega) rfl ?_
      refine ex_go (S := (34, [(0, gx_r 383), (1, .inl x), (2, .inl y)], [.inl y, .inl (σ (1 + x)), gx_r 383], t121, n, 0)) rfl (fun _ => rfl) rfl ?_
      obtain ⟨_, r29, rfl⟩ := sr_placeBehind d n (p := σ (1 + x)) (s := y) g121 (RW_keep hR (fun i hi => e121 389 i (by first | decide | omega)) (fun c i hc _ => e121 c i (by first | decide | omega))) (by first | decide | omega) (by first | decide | omega)
      refine gx_call1 rfl rfl g121 rfl rfl r29 rfl ?_
      show en_ex _ _ _ _ (37, [(0, gx_r 383), (1, .inl x), (2, .inl y)], [.inl (jmp (w 0 0) (w 0 1) (w 1) y (σ (1 + x)))], t121, n, 0) _
      refine ex_go (S := (41, [(0, gx_r 383), (1, .inl x), (2, .inl y)], [.inl (jmp (w 0 0) (w 0 1) (w 1) y (σ (1 + x)))], t121, n, 0)) rfl (fun _ => rfl) rfl ?_
      refine ex_ret (r := (some (.inl (jmp (w 0 0) (w 0 1) (w 1) y (σ (1 + x)))), t121, n, 0)) rfl (fun _ => rfl) ?_
      exact ⟨_, rfl, _, _, rfl, (fun _ => rfl), (fun c9 => absurd ⟨by omega, by omega⟩ c9)⟩
/-- after how many steps two are at one place -/
noncomputable def mtf (w : Nat → Nat → Nat) : Nat → Nat → Nat → Nat → Nat
  | 0, k, a, b => if a = b then k else 4294967295
  | f + 1, k, a, b => if a = b then k else mtf w f (k + 1) (fto w a) (fto w b)
theorem mtf_eq {w : Nat → Nat → Nat} {f k a b : Nat} (h : a = b) : mtf w f k a b = k := by
  cases f with
  | zero => show (if a = b then k else _) = k; rw [if_pos h]
  | succ f => show (if a = b then k else _) = k; rw [if_pos h]
theorem mtf_z {w : Nat → Nat → Nat} {k a b : Nat} (h : ¬ a = b) : mtf w 0 k a b = 4294967295 := by
  show (if a = b then k else _) = _
  rw [if_neg h]
theorem mtf_s {w : Nat → Nat → Nat} {f k a b : Nat} (h : ¬ a = b) : mtf w (f + 1) k a b = mtf w f (k + 1) (fto w a) (fto w b) := by
  show (if a = b then k else _) = _
  rw [if_neg h]
theorem sc_two191 (d n : Nat) {t0 : en_H} {w : Nat → Nat → Nat} {L : List Nat} {x y : Nat} (g0 : ai_HG ah_G t0) (hC : CW t0 191 w L) (hw : WS w) (k10 : ai_hv t0 0 10 = some (gx_r 191)) (hx : x < 4294967296) (hy : y < 4294967296) : ∃ r, en_u (d + 2) 130 [gx_r 0, .inl x, .inl y] t0 n = some r ∧ ∃ b, r = (some (.inl b), t0, n, 0) ∧ b ≤ 1 ∧ (b = 1 ↔ x < w 0 2 ∧ y < w 0 2 ∧ ¬ x = y) := by
  have hT := hw.1.2.2.1
  refine en_u_ex (d := d + 1) rfl ?_
  show en_ex _ _ _ _ (0, [(0, gx_r 0), (1, .inl x), (2, .inl y)], [], t0, n, 0) _
  refine ex_go (S := (1, [(0, gx_r 0), (1, .inl x), (2, .inl y)], [gx_r 0], t0, n, 0)) rfl (fun _ => rfl) rfl ?_
  refine gxo_get (a := 0) rfl g0 rfl rfl k10 rfl ?_
  refine gxo_ref (a := 191) (c := 194) rfl g0 rfl rfl rfl rfl rfl ?_
  refine ex_go (S := (8, [(0, gx_r 0), (1, .inl x), (2, .inl y)], [.inl x, gx_r 194], t0, n, 0)) rfl (fun _ => rfl) rfl ?_
  obtain ⟨_, r121, b121, rfl, hb121, hi121⟩ := pz_holds194 (d) n (x := x) (K := w 0 2) g0 (by first | decide | omega) hC.1.2.2.2.1 (by first | decide | omega)
  refine gx_callo (a := 194) rfl rfl g0 rfl rfl rfl r121 rfl ?_
  show en_ex _ _ _ _ (11, [(0, gx_r 0), (1, .inl x), (2, .inl y)], [.inl b121], t0, n, 0) _
  by_cases hc22 : b121 = 0
  · refine gx_1t (c := .eq) rfl (by first | decide | omega) hc22 rfl ?_
    refine ex_go (S := (38, [(0, gx_r 0), (1, .inl x), (2, .inl y)], [.inl 0], t0, n, 0)) rfl (fun _ => rfl) rfl ?_
    refine ex_ret (r := (some (.inl 0), t0, n, 0)) rfl (fun _ => rfl) ?_
    exact ⟨_, rfl, 0, rfl, by decide, by omega⟩
  · refine gx_1f (c := .eq) rfl (by first | decide | omega) hc22 rfl ?_
    refine ex_go (S := (15, [(0, gx_r 0), (1, .inl x), (2, .inl y)], [gx_r 0], t0, n, 0)) rfl (fun _ => rfl) rfl ?_
    refine gxo_get (a := 0) rfl g0 rfl rfl k10 rfl ?_
    refine gxo_ref (a := 191) (c := 194) rfl g0 rfl rfl rfl rfl rfl ?_
    refine ex_go (S := (22, [(0, gx_r 0), (1, .inl x), (2, .inl y)], [.inl y, gx_r 194], t0, n, 0)) rfl (fun _ => rfl) rfl ?_
    obtain ⟨_, r123, b123, rfl, hb123, hi123⟩ := pz_holds194 (d) n (x := y) (K := w 0 2) g0 (by first | decide | omega) hC.1.2.2.2.1 (by first | decide | omega)
    refine gx_callo (a := 194) rfl rfl g0 rfl rfl rfl r123 rfl ?_
    show en_ex _ _ _ _ (25, [(0, gx_r 0), (1, .inl x), (2, .inl y)], [.inl b123], t0, n, 0) _
    by_cases hc24 : b123 = 0
    · refine gx_1t (c := .eq) rfl (by first | decide | omega) hc24 rfl ?_
      refine ex_go (S := (38, [(0, gx_r 0), (1, .inl x), (2, .inl y)], [.inl 0], t0, n, 0)) rfl (fun _ => rfl) rfl ?_
      refine ex_ret (r := (some (.inl 0), t0, n, 0)) rfl (fun _ => rfl) ?_
      exact ⟨_, rfl, 0, rfl, by decide, by omega⟩
    · refine gx_1f (c := .eq) rfl (by first | decide | omega) hc24 rfl ?_
      refine ex_go (S := (29, [(0, gx_r 0), (1, .inl x), (2, .inl y)], [.inl x], t0, n, 0)) rfl (fun _ => rfl) rfl ?_
      refine ex_go (S := (30, [(0, gx_r 0), (1, .inl x), (2, .inl y)], [.inl y, .inl x], t0, n, 0)) rfl (fun _ => rfl) rfl ?_
      by_cases hc25 : x = y
      · refine gx_2t (c := .eq) rfl (by first | decide | omega) (by first | decide | omega) hc25 rfl ?_
        refine ex_go (S := (38, [(0, gx_r 0), (1, .inl x), (2, .inl y)], [.inl 0], t0, n, 0)) rfl (fun _ => rfl) rfl ?_
        refine ex_ret (r := (some (.inl 0), t0, n, 0)) rfl (fun _ => rfl) ?_
        exact ⟨_, rfl, 0, rfl, by decide, by omega⟩
      · refine gx_2f (c := .eq) rfl (by first | decide | omega) (by first | decide | omega) hc25 rfl ?_
        refine ex_go (S := (34, [(0, gx_r 0), (1, .inl x), (2, .inl y)], [.inl 1], t0, n, 0)) rfl (fun _ => rfl) rfl ?_
        refine ex_go (S := (38, [(0, gx_r 0), (1, .inl x), (2, .inl y)], [.inl 1], t0, n, 0)) rfl (fun _ => rfl) rfl ?_
        refine ex_ret (r := (some (.inl 1), t0, n, 0)) rfl (fun _ => rfl) ?_
        exact ⟨_, rfl, 1, rfl, by decide, by omega⟩
theorem sc_two257 (d n : Nat) {t0 : en_H} {w : Nat → Nat → Nat} {L : List Nat} {x y : Nat} (g0 : ai_HG ah_G t0) (hC : CW t0 257 w L) (hw : WS w) (k10 : ai_hv t0 0 10 = some (gx_r 257)) (hx : x < 4294967296) (hy : y < 4294967296) : ∃ r, en_u (d + 2) 130 [gx_r 0, .inl x, .inl y] t0 n = some r ∧ ∃ b, r = (some (.inl b), t0, n, 0) ∧ b ≤ 1 ∧ (b = 1 ↔ x < w 0 2 ∧ y < w 0 2 ∧ ¬ x = y) := by
  have hT := hw.1.2.2.1
  refine en_u_ex (d := d + 1) rfl ?_
  show en_ex _ _ _ _ (0, [(0, gx_r 0), (1, .inl x), (2, .inl y)], [], t0, n, 0) _
  refine ex_go (S := (1, [(0, gx_r 0), (1, .inl x), (2, .inl y)], [gx_r 0], t0, n, 0)) rfl (fun _ => rfl) rfl ?_
  refine gxo_get (a := 0) rfl g0 rfl rfl k10 rfl ?_
  refine gxo_ref (a := 257) (c := 260) rfl g0 rfl rfl rfl rfl rfl ?_
  refine ex_go (S := (8, [(0, gx_r 0), (1, .inl x), (2, .inl y)], [.inl x, gx_r 260], t0, n, 0)) rfl (fun _ => rfl) rfl ?_
  obtain ⟨_, r121, b121, rfl, hb121, hi121⟩ := pz_holds260 (d) n (x := x) (K := w 0 2) g0 (by first | decide | omega) hC.1.2.2.2.1 (by first | decide | omega)
  refine gx_callo (a := 260) rfl rfl g0 rfl rfl rfl r121 rfl ?_
  show en_ex _ _ _ _ (11, [(0, gx_r 0), (1, .inl x), (2, .inl y)], [.inl b121], t0, n, 0) _
  by_cases hc22 : b121 = 0
  · refine gx_1t (c := .eq) rfl (by first | decide | omega) hc22 rfl ?_
    refine ex_go (S := (38, [(0, gx_r 0), (1, .inl x), (2, .inl y)], [.inl 0], t0, n, 0)) rfl (fun _ => rfl) rfl ?_
    refine ex_ret (r := (some (.inl 0), t0, n, 0)) rfl (fun _ => rfl) ?_
    exact ⟨_, rfl, 0, rfl, by decide, by omega⟩
  · refine gx_1f (c := .eq) rfl (by first | decide | omega) hc22 rfl ?_
    refine ex_go (S := (15, [(0, gx_r 0), (1, .inl x), (2, .inl y)], [gx_r 0], t0, n, 0)) rfl (fun _ => rfl) rfl ?_
    refine gxo_get (a := 0) rfl g0 rfl rfl k10 rfl ?_
    refine gxo_ref (a := 257) (c := 260) rfl g0 rfl rfl rfl rfl rfl ?_
    refine ex_go (S := (22, [(0, gx_r 0), (1, .inl x), (2, .inl y)], [.inl y, gx_r 260], t0, n, 0)) rfl (fun _ => rfl) rfl ?_
    obtain ⟨_, r123, b123, rfl, hb123, hi123⟩ := pz_holds260 (d) n (x := y) (K := w 0 2) g0 (by first | decide | omega) hC.1.2.2.2.1 (by first | decide | omega)
    refine gx_callo (a := 260) rfl rfl g0 rfl rfl rfl r123 rfl ?_
    show en_ex _ _ _ _ (25, [(0, gx_r 0), (1, .inl x), (2, .inl y)], [.inl b123], t0, n, 0) _
    by_cases hc24 : b123 = 0
    · refine gx_1t (c := .eq) rfl (by first | decide | omega) hc24 rfl ?_
      refine ex_go (S := (38, [(0, gx_r 0), (1, .inl x), (2, .inl y)], [.inl 0], t0, n, 0)) rfl (fun _ => rfl) rfl ?_
      refine ex_ret (r := (some (.inl 0), t0, n, 0)) rfl (fun _ => rfl) ?_
      exact ⟨_, rfl, 0, rfl, by decide, by omega⟩
    · refine gx_1f (c := .eq) rfl (by first | decide | omega) hc24 rfl ?_
      refine ex_go (S := (29, [(0, gx_r 0), (1, .inl x), (2, .inl y)], [.inl x], t0, n, 0)) rfl (fun _ => rfl) rfl ?_
      refine ex_go (S := (30, [(0, gx_r 0), (1, .inl x), (2, .inl y)], [.inl y, .inl x], t0, n, 0)) rfl (fun _ => rfl) rfl ?_
      by_cases hc25 : x = y
      · refine gx_2t (c := .eq) rfl (by first | decide | omega) (by first | decide | omega) hc25 rfl ?_
        refine ex_go (S := (38, [(0, gx_r 0), (1, .inl x), (2, .inl y)], [.inl 0], t0, n, 0)) rfl (fun _ => rfl) rfl ?_
        refine ex_ret (r := (some (.inl 0), t0, n, 0)) rfl (fun _ => rfl) ?_
        exact ⟨_, rfl, 0, rfl, by decide, by omega⟩
      · refine gx_2f (c := .eq) rfl (by first | decide | omega) (by first | decide | omega) hc25 rfl ?_
        refine ex_go (S := (34, [(0, gx_r 0), (1, .inl x), (2, .inl y)], [.inl 1], t0, n, 0)) rfl (fun _ => rfl) rfl ?_
        refine ex_go (S := (38, [(0, gx_r 0), (1, .inl x), (2, .inl y)], [.inl 1], t0, n, 0)) rfl (fun _ => rfl) rfl ?_
        refine ex_ret (r := (some (.inl 1), t0, n, 0)) rfl (fun _ => rfl) ?_
        exact ⟨_, rfl, 1, rfl, by decide, by omega⟩
theorem mt_l191 (d n : Nat) {t0 : en_H} {w : Nat → Nat → Nat} {L : List Nat} {v0 : Nat} {Q : en_O → Prop} (g0 : ai_HG ah_G t0) (hC : CW t0 191 w L) (hw : WS w) (k10 : ai_hv t0 0 10 = some (gx_r 191)) (hQ : Q (.inl (some (.inl v0), t0, n, 0))) : ∀ j k a b cl, k + j = 200 → a < 64 → b < 64 → mtf w j k a b = v0 → en_ld cl 0 = some (gx_r 0) → en_ld cl 3 = some (.inl a) → en_ld cl 4 = some (.inl b) → en_ld cl 5 = some (.inl k) → en_ex none (en_u (d + 2)) (en_code 56) (fun _ => false) (35, cl, [], t0, n, 0) Q := by
  intro j
  induction j with
  | zero =>
    intro k a b cl hk ha hb hv l0 l3 l4 l5
    have fa := (hC.2.1 a ha).2
    have fb := (hC.2.1 b hb).2
    have ga := fto_lt hw ha
    have gb := fto_lt hw hb
    have hk : k = 200 := by omega
    subst hk
    refine gx_ld (i := 5) (d := 0) (v := .inl 200) rfl (fun _ => rfl) l5 rfl rfl ?_
    refine ex_go (S := (40, cl, [.inl 200, .inl 200], t0, n, 0)) rfl (fun _ => rfl) rfl ?_
    refine ex_go (S := (43, cl, [], t0, n, 0)) rfl (fun _ => rfl) rfl ?_
    refine gx_ld (i := 3) (d := 0) (v := .inl a) rfl (fun _ => rfl) l3 rfl rfl ?_
    refine gx_ld (i := 4) (d := 0) (v := .inl b) rfl (fun _ => rfl) l4 rfl rfl ?_
    by_cases hab : a = b
    · rw [mtf_eq hab] at hv
      refine gx_2f (c := .ne) rfl (by first | decide | omega) (by first | decide | omega) (show ¬ (a ≠ b) from fun z => z hab) rfl ?_
      refine gx_ld (i := 5) (d := 0) (v := .inl 200) rfl (fun _ => rfl) l5 rfl rfl ?_
      refine ex_ret (r := (some (.inl 200), t0, n, 0)) rfl (fun _ => rfl) ?_
      rw [hv]
      exact hQ
    · rw [mtf_z hab] at hv
      refine gx_2t (c := .ne) rfl (by first | decide | omega) (by first | decide | omega) (show a ≠ b from hab) rfl ?_
      refine gx_ld (i := 0) (d := 2) (v := gx_r 0) rfl (fun _ => rfl) l0 rfl rfl ?_
      refine gxo_get (a := 0) rfl g0 rfl rfl k10 rfl ?_
      refine gxo_ref (a := 191) (c := 193) rfl g0 rfl rfl rfl rfl rfl ?_
      refine gx_ld (i := 3) (d := 0) (v := .inl a) rfl (fun _ => rfl) l3 rfl rfl ?_
      refine gx_ag (v := .inl (fto w a)) (cb := fun c => Nat.beq c 0) rfl (fun _ => rfl) g0 rfl rfl fa (by first | decide | omega) rfl ?_
      refine gx_sto (i := 3) (d := 0) rfl (fun _ => rfl) rfl rfl (fun l21 hl21 ml21 => ?_)
      have l21_0 : en_ld l21 0 = some (gx_r 0) := ml21 0 _ l0 rfl
      have l21_4 : en_ld l21 4 = some (.inl b) := ml21 4 _ l4 rfl
      have l21_5 : en_ld l21 5 = some (.inl 200) := ml21 5 _ l5 rfl
      refine gx_ld (i := 0) (d := 2) (v := gx_r 0) rfl (fun _ => rfl) l21_0 rfl rfl ?_
      refine gxo_get (a := 0) rfl g0 rfl rfl k10 rfl ?_
      refine gxo_ref (a := 191) (c := 193) rfl g0 rfl rfl rfl rfl rfl ?_
      refine gx_ld (i := 4) (d := 0) (v := .inl b) rfl (fun _ => rfl) l21_4 rfl rfl ?_
      refine gx_ag (v := .inl (fto w b)) (cb := fun c => Nat.beq c 0) rfl (fun _ => rfl) g0 rfl rfl fb (by first | decide | omega) rfl ?_
      refine gx_sto (i := 4) (d := 0) rfl (fun _ => rfl) rfl rfl (fun l22 hl22 ml22 => ?_)
      have l22_0 : en_ld l22 0 = some (gx_r 0) := ml22 0 _ l21_0 rfl
      have l22_5 : en_ld l22 5 = some (.inl 200) := ml22 5 _ l21_5 rfl
      have l22_3 : en_ld l22 3 = some (.inl (fto w a)) := ml22 3 _ hl21 rfl
      refine gx_incS (i := 5) (a := 200) (x := 1) rfl (fun _ => rfl) l22_5 (by first | decide | omega) rfl (fun l23 hl23 ml23 => ?_)
      have l23_0 : en_ld l23 0 = some (gx_r 0) := ml23 0 _ l22_0 rfl
      have l23_3 : en_ld l23 3 = some (.inl (fto w a)) := ml23 3 _ l22_3 rfl
      have l23_4 : en_ld l23 4 = some (.inl (fto w b)) := ml23 4 _ hl22 rfl
      refine ex_go (S := (35, l23, [], t0, n, 0)) rfl (fun _ => rfl) rfl ?_
      refine gx_ld (i := 5) (d := 0) (v := .inl 201) rfl (fun _ => rfl) hl23 rfl rfl ?_
      refine ex_go (S := (40, l23, [.inl 200, .inl 201], t0, n, 0)) rfl (fun _ => rfl) rfl ?_
      refine ex_go (S := (80, l23, [], t0, n, 0)) rfl (fun _ => rfl) rfl ?_
      refine ex_go (S := (81, l23, [.inl 4294967295], t0, n, 0)) rfl (fun _ => rfl) rfl ?_
      refine ex_ret (r := (some (.inl 4294967295), t0, n, 0)) rfl (fun _ => rfl) ?_
      rw [hv]
      exact hQ
  | succ j ih =>
    intro k a b cl hk ha hb hv l0 l3 l4 l5
    have fa := (hC.2.1 a ha).2
    have fb := (hC.2.1 b hb).2
    have ga := fto_lt hw ha
    have gb := fto_lt hw hb
    refine gx_ld (i := 5) (d := 0) (v := .inl k) rfl (fun _ => rfl) l5 rfl rfl ?_
    refine ex_go (S := (40, cl, [.inl 200, .inl k], t0, n, 0)) rfl (fun _ => rfl) rfl ?_
    refine gx_2f (c := .gt) rfl (by first | decide | omega) (by first | decide | omega) (show ¬ (200 < k) from by omega) rfl ?_
    refine gx_ld (i := 3) (d := 0) (v := .inl a) rfl (fun _ => rfl) l3 rfl rfl ?_
    refine gx_ld (i := 4) (d := 0) (v := .inl b) rfl (fun _ => rfl) l4 rfl rfl ?_
    by_cases hab : a = b
    · rw [mtf_eq hab] at hv
      refine gx_2f (c := .ne) rfl (by first | decide | omega) (by first | decide | omega) (show ¬ (a ≠ b) from fun z => z hab) rfl ?_
      refine gx_ld (i := 5) (d := 0) (v := .inl k) rfl (fun _ => rfl) l5 rfl rfl ?_
      refine ex_ret (r := (some (.inl k), t0, n, 0)) rfl (fun _ => rfl) ?_
      rw [hv]
      exact hQ
    · refine gx_2t (c := .ne) rfl (by first | decide | omega) (by first | decide | omega) (show a ≠ b from hab) rfl ?_
      refine gx_ld (i := 0) (d := 2) (v := gx_r 0) rfl (fun _ => rfl) l0 rfl rfl ?_
      refine gxo_get (a := 0) rfl g0 rfl rfl k10 rfl ?_
      refine gxo_ref (a := 191) (c := 193) rfl g0 rfl rfl rfl rfl rfl ?_
      refine gx_ld (i := 3) (d := 0) (v := .inl a) rfl (fun _ => rfl) l3 rfl rfl ?_
      refine gx_ag (v := .inl (fto w a)) (cb := fun c => Nat.beq c 0) rfl (fun _ => rfl) g0 rfl rfl fa (by first | decide | omega) rfl ?_
      refine gx_sto (i := 3) (d := 0) rfl (fun _ => rfl) rfl rfl (fun l21 hl21 ml21 => ?_)
      have l21_0 : en_ld l21 0 = some (gx_r 0) := ml21 0 _ l0 rfl
      have l21_4 : en_ld l21 4 = some (.inl b) := ml21 4 _ l4 rfl
      have l21_5 : en_ld l21 5 = some (.inl k) := ml21 5 _ l5 rfl
      refine gx_ld (i := 0) (d := 2) (v := gx_r 0) rfl (fun _ => rfl) l21_0 rfl rfl ?_
      refine gxo_get (a := 0) rfl g0 rfl rfl k10 rfl ?_
      refine gxo_ref (a := 191) (c := 193) rfl g0 rfl rfl rfl rfl rfl ?_
      refine gx_ld (i := 4) (d := 0) (v := .inl b) rfl (fun _ => rfl) l21_4 rfl rfl ?_
      refine gx_ag (v := .inl (fto w b)) (cb := fun c => Nat.beq c 0) rfl (fun _ => rfl) g0 rfl rfl fb (by first | decide | omega) rfl ?_
      refine gx_sto (i := 4) (d := 0) rfl (fun _ => rfl) rfl rfl (fun l22 hl22 ml22 => ?_)
      have l22_0 : en_ld l22 0 = some (gx_r 0) := ml22 0 _ l21_0 rfl
      have l22_5 : en_ld l22 5 = some (.inl k) := ml22 5 _ l21_5 rfl
      have l22_3 : en_ld l22 3 = some (.inl (fto w a)) := ml22 3 _ hl21 rfl
      refine gx_incS (i := 5) (a := k) (x := 1) rfl (fun _ => rfl) l22_5 (by first | decide | omega) rfl (fun l23 hl23 ml23 => ?_)
      have l23_0 : en_ld l23 0 = some (gx_r 0) := ml23 0 _ l22_0 rfl
      have l23_3 : en_ld l23 3 = some (.inl (fto w a)) := ml23 3 _ l22_3 rfl
      have l23_4 : en_ld l23 4 = some (.inl (fto w b)) := ml23 4 _ hl22 rfl
      refine ex_go (S := (35, l23, [], t0, n, 0)) rfl (fun _ => rfl) rfl ?_
      exact ih (k + 1) _ _ _ (by first | decide | omega) ga gb (by rw [← mtf_s hab]; exact hv) l23_0 l23_3 l23_4 hl23
theorem sc_meet191 (d n : Nat) {t0 : en_H} {w : Nat → Nat → Nat} {L : List Nat} {σ : Nat → Nat} {x y : Nat} (g0 : ai_HG ah_G t0) (hC : CW t0 191 w L) (hw : WS w) (k10 : ai_hv t0 0 10 = some (gx_r 191)) (hS : SC t0 8 (w 0 2) (w 0 4) σ) (hσ : ∀ i, i < w 0 2 → σ (1 + i) < 64) (hx : x < 4294967296) (hy : y < 4294967296) : ∃ r, en_u (d + 3) 56 [gx_r 0, .inl x, .inl y] t0 n = some r ∧ ∃ v, r = (some (.inl v), t0, n, 0) ∧ ((x < w 0 2 ∧ y < w 0 2 ∧ ¬ x = y) → v = mtf w 200 0 (σ (1 + x)) (σ (1 + y))) ∧ (¬ (x < w 0 2 ∧ y < w 0 2 ∧ ¬ x = y) → v = 4294967295) := by
  have hT := hw.1.2.2.1
  refine en_u_ex (d := d + 2) rfl ?_
  show en_ex _ _ _ _ (0, [(0, gx_r 0), (1, .inl x), (2, .inl y)], [], t0, n, 0) _
  refine ex_go (S := (1, [(0, gx_r 0), (1, .inl x), (2, .inl y)], [gx_r 0], t0, n, 0)) rfl (fun _ => rfl) rfl ?_
  refine ex_go (S := (2, [(0, gx_r 0), (1, .inl x), (2, .inl y)], [.inl x, gx_r 0], t0, n, 0)) rfl (fun _ => rfl) rfl ?_
  refine ex_go (S := (3, [(0, gx_r 0), (1, .inl x), (2, .inl y)], [.inl y, .inl x, gx_r 0], t0, n, 0)) rfl (fun _ => rfl) rfl ?_
  obtain ⟨_, r121, b121, rfl, hb121, hi121⟩ := sc_two191 d n (x := x) (y := y) g0 hC hw k10 hx hy
  refine gx_callo (a := 0) rfl rfl g0 rfl rfl rfl r121 rfl ?_
  show en_ex _ _ _ _ (6, [(0, gx_r 0), (1, .inl x), (2, .inl y)], [.inl b121], t0, n, 0) _
  by_cases hc22 : b121 ≠ 0
  · refine gx_1t (c := .ne) rfl (by first | decide | omega) hc22 rfl ?_
    have h3 := hi121.mp (by first | decide | omega)
    refine ex_go (S := (12, [(0, gx_r 0), (1, .inl x), (2, .inl y)], [gx_r 0], t0, n, 0)) rfl (fun _ => rfl) rfl ?_
    refine gxo_ref (a := 0) (c := 8) rfl g0 rfl rfl rfl rfl rfl ?_
    refine gxo_ref (a := 8) (c := 9) rfl g0 rfl rfl rfl rfl rfl ?_
    refine ex_go (S := (19, [(0, gx_r 0), (1, .inl x), (2, .inl y)], [.inl x, gx_r 9], t0, n, 0)) rfl (fun _ => rfl) rfl ?_
    have k23 := hS.2.1 x (by first | decide | omega)
    have hk23 := hσ x (by first | decide | omega)
    refine gx_ag (v := .inl (σ (1 + x))) (cb := fun c => Nat.beq c 0) rfl (fun _ => rfl) g0 rfl rfl k23 (by first | decide | omega) rfl ?_
    refine ex_go (S := (21, [(3, .inl (σ (1 + x))), (0, gx_r 0), (1, .inl x), (2, .inl y)], [], t0, n, 0)) rfl (fun _ => rfl) rfl ?_
    refine ex_go (S := (22, [(3, .inl (σ (1 + x))), (0, gx_r 0), (1, .inl x), (2, .inl y)], [gx_r 0], t0, n, 0)) rfl (fun _ => rfl) rfl ?_
    refine gxo_ref (a := 0) (c := 8) rfl g0 rfl rfl rfl rfl rfl ?_
    refine gxo_ref (a := 8) (c := 9) rfl g0 rfl rfl rfl rfl rfl ?_
    refine ex_go (S := (29, [(3, .inl (σ (1 + x))), (0, gx_r 0), (1, .inl x), (2, .inl y)], [.inl y, gx_r 9], t0, n, 0)) rfl (fun _ => rfl) rfl ?_
    have k24 := hS.2.1 y (by first | decide | omega)
    have hk24 := hσ y (by first | decide | omega)
    refine gx_ag (v := .inl (σ (1 + y))) (cb := fun c => Nat.beq c 0) rfl (fun _ => rfl) g0 rfl rfl k24 (by first | decide | omega) rfl ?_
    refine ex_go (S := (32, [(4, .inl (σ (1 + y))), (3, .inl (σ (1 + x))), (0, gx_r 0), (1, .inl x), (2, .inl y)], [], t0, n, 0)) rfl (fun _ => rfl) rfl ?_
    refine ex_go (S := (33, [(4, .inl (σ (1 + y))), (3, .inl (σ (1 + x))), (0, gx_r 0), (1, .inl x), (2, .inl y)], [.inl 0], t0, n, 0)) rfl (fun _ => rfl) rfl ?_
    refine ex_go (S := (35, [(5, .inl 0), (4, .inl (σ (1 + y))), (3, .inl (σ (1 + x))), (0, gx_r 0), (1, .inl x), (2, .inl y)], [], t0, n, 0)) rfl (fun _ => rfl) rfl ?_
    exact mt_l191 d n g0 hC hw k10 ⟨_, rfl, _, rfl, (fun _ => rfl), (fun c9 => absurd (hi121.mp (by first | decide | omega)) c9)⟩ 200 0 _ _ _ (by first | decide | omega) (by first | decide | omega) (by first | decide | omega) rfl rfl rfl rfl rfl
  · refine gx_1f (c := .ne) rfl (by first | decide | omega) hc22 rfl ?_
    refine ex_go (S := (10, [(0, gx_r 0), (1, .inl x), (2, .inl y)], [.inl 4294967295], t0, n, 0)) rfl (fun _ => rfl) rfl ?_
    refine ex_ret (r := (some (.inl 4294967295), t0, n, 0)) rfl (fun _ => rfl) ?_
    exact ⟨_, rfl, _, rfl, (fun c9 => absurd (hi121.mpr c9) (by first | decide | omega)), (fun _ => rfl)⟩
theorem mt_l257 (d n : Nat) {t0 : en_H} {w : Nat → Nat → Nat} {L : List Nat} {v0 : Nat} {Q : en_O → Prop} (g0 : ai_HG ah_G t0) (hC : CW t0 257 w L) (hw : WS w) (k10 : ai_hv t0 0 10 = some (gx_r 257)) (hQ : Q (.inl (some (.inl v0), t0, n, 0))) : ∀ j k a b cl, k + j = 200 → a < 64 → b < 64 → mtf w j k a b = v0 → en_ld cl 0 = some (gx_r 0) → en_ld cl 3 = some (.inl a) → en_ld cl 4 = some (.inl b) → en_ld cl 5 = some (.inl k) → en_ex none (en_u (d + 2)) (en_code 56) (fun _ => false) (35, cl, [], t0, n, 0) Q := by
  intro j
  induction j with
  | zero =>
    intro k a b cl hk ha hb hv l0 l3 l4 l5
    have fa := (hC.2.1 a ha).2
    have fb := (hC.2.1 b hb).2
    have ga := fto_lt hw ha
    have gb := fto_lt hw hb
    have hk : k = 200 := by omega
    subst hk
    refine gx_ld (i := 5) (d := 0) (v := .inl 200) rfl (fun _ => rfl) l5 rfl rfl ?_
    refine ex_go (S := (40, cl, [.inl 200, .inl 200], t0, n, 0)) rfl (fun _ => rfl) rfl ?_
    refine ex_go (S := (43, cl, [], t0, n, 0)) rfl (fun _ => rfl) rfl ?_
    refine gx_ld (i := 3) (d := 0) (v := .inl a) rfl (fun _ => rfl) l3 rfl rfl ?_
    refine gx_ld (i := 4) (d := 0) (v := .inl b) rfl (fun _ => rfl) l4 rfl rfl ?_
    by_cases hab : a = b
    · rw [mtf_eq hab] at hv
      refine gx_2f (c := .ne) rfl (by first | decide | omega) (by first | decide | omega) (show ¬ (a ≠ b) from fun z => z hab) rfl ?_
      refine gx_ld (i := 5) (d := 0) (v := .inl 200) rfl (fun _ => rfl) l5 rfl rfl ?_
      refine ex_ret (r := (some (.inl 200), t0, n, 0)) rfl (fun _ => rfl) ?_
      rw [hv]
      exact hQ
    · rw [mtf_z hab] at hv
      refine gx_2t (c := .ne) rfl (by first | decide | omega) (by first | decide | omega) (show a ≠ b from hab) rfl ?_
      refine gx_ld (i := 0) (d := 2) (v := gx_r 0) rfl (fun _ => rfl) l0 rfl rfl ?_
      refine gxo_get (a := 0) rfl g0 rfl rfl k10 rfl ?_
      refine gxo_ref (a := 257) (c := 259) rfl g0 rfl rfl rfl rfl rfl ?_
      refine gx_ld (i := 3) (d := 0) (v := .inl a) rfl (fun _ => rfl) l3 rfl rfl ?_
      refine gx_ag (v := .inl (fto w a)) (cb := fun c => Nat.beq c 0) rfl (fun _ => rfl) g0 rfl rfl fa (by first | decide | omega) rfl ?_
      refine gx_sto (i := 3) (d := 0) rfl (fun _ => rfl) rfl rfl (fun l21 hl21 ml21 => ?_)
      have l21_0 : en_ld l21 0 = some (gx_r 0) := ml21 0 _ l0 rfl
      have l21_4 : en_ld l21 4 = some (.inl b) := ml21 4 _ l4 rfl
      have l21_5 : en_ld l21 5 = some (.inl 200) := ml21 5 _ l5 rfl
      refine gx_ld (i := 0) (d := 2) (v := gx_r 0) rfl (fun _ => rfl) l21_0 rfl rfl ?_
      refine gxo_get (a := 0) rfl g0 rfl rfl k10 rfl ?_
      refine gxo_ref (a := 257) (c := 259) rfl g0 rfl rfl rfl rfl rfl ?_
      refine gx_ld (i := 4) (d := 0) (v := .inl b) rfl (fun _ => rfl) l21_4 rfl rfl ?_
      refine gx_ag (v := .inl (fto w b)) (cb := fun c => Nat.beq c 0) rfl (fun _ => rfl) g0 rfl rfl fb (by first | decide | omega) rfl ?_
      refine gx_sto (i := 4) (d := 0) rfl (fun _ => rfl) rfl rfl (fun l22 hl22 ml22 => ?_)
      have l22_0 : en_ld l22 0 = some (gx_r 0) := ml22 0 _ l21_0 rfl
      have l22_5 : en_ld l22 5 = some (.inl 200) := ml22 5 _ l21_5 rfl
      have l22_3 : en_ld l22 3 = some (.inl (fto w a)) := ml22 3 _ hl21 rfl
      refine gx_incS (i := 5) (a := 200) (x := 1) rfl (fun _ => rfl) l22_5 (by first | decide | omega) rfl (fun l23 hl23 ml23 => ?_)
      have l23_0 : en_ld l23 0 = some (gx_r 0) := ml23 0 _ l22_0 rfl
      have l23_3 : en_ld l23 3 = some (.inl (fto w a)) := ml23 3 _ l22_3 rfl
      have l23_4 : en_ld l23 4 = some (.inl (fto w b)) := ml23 4 _ hl22 rfl
      refine ex_go (S := (35, l23, [], t0, n, 0)) rfl (fun _ => rfl) rfl ?_
      refine gx_ld (i := 5) (d := 0) (v := .inl 201) rfl (fun _ => rfl) hl23 rfl rfl ?_
      refine ex_go (S := (40, l23, [.inl 200, .inl 201], t0, n, 0)) rfl (fun _ => rfl) rfl ?_
      refine ex_go (S := (80, l23, [], t0, n, 0)) rfl (fun _ => rfl) rfl ?_
      refine ex_go (S := (81, l23, [.inl 4294967295], t0, n, 0)) rfl (fun _ => rfl) rfl ?_
      refine ex_ret (r := (some (.inl 4294967295), t0, n, 0)) rfl (fun _ => rfl) ?_
      rw [hv]
      exact hQ
  | succ j ih =>
    intro k a b cl hk ha hb hv l0 l3 l4 l5
    have fa := (hC.2.1 a ha).2
    have fb := (hC.2.1 b hb).2
    have ga := fto_lt hw ha
    have gb := fto_lt hw hb
    refine gx_ld (i := 5) (d := 0) (v := .inl k) rfl (fun _ => rfl) l5 rfl rfl ?_
    refine ex_go (S := (40, cl, [.inl 200, .inl k], t0, n, 0)) rfl (fun _ => rfl) rfl ?_
    refine gx_2f (c := .gt) rfl (by first | decide | omega) (by first | decide | omega) (show ¬ (200 < k) from by omega) rfl ?_
    refine gx_ld (i := 3) (d := 0) (v := .inl a) rfl (fun _ => rfl) l3 rfl rfl ?_
    refine gx_ld (i := 4) (d := 0) (v := .inl b) rfl (fun _ => rfl) l4 rfl rfl ?_
    by_cases hab : a = b
    · rw [mtf_eq hab] at hv
      refine gx_2f (c := .ne) rfl (by first | decide | omega) (by first | decide | omega) (show ¬ (a ≠ b) from fun z => z hab) rfl ?_
      refine gx_ld (i := 5) (d := 0) (v := .inl k) rfl (fun _ => rfl) l5 rfl rfl ?_
      refine ex_ret (r := (some (.inl k), t0, n, 0)) rfl (fun _ => rfl) ?_
      rw [hv]
      exact hQ
    · refine gx_2t (c := .ne) rfl (by first | decide | omega) (by first | decide | omega) (show a ≠ b from hab) rfl ?_
      refine gx_ld (i := 0) (d := 2) (v := gx_r 0) rfl (fun _ => rfl) l0 rfl rfl ?_
      refine gxo_get (a := 0) rfl g0 rfl rfl k10 rfl ?_
      refine gxo_ref (a := 257) (c := 259) rfl g0 rfl rfl rfl rfl rfl ?_
      refine gx_ld (i := 3) (d := 0) (v := .inl a) rfl (fun _ => rfl) l3 rfl rfl ?_
      refine gx_ag (v := .inl (fto w a)) (cb := fun c => Nat.beq c 0) rfl (fun _ => rfl) g0 rfl rfl fa (by first | decide | omega) rfl ?_
      refine gx_sto (i := 3) (d := 0) rfl (fun _ => rfl) rfl rfl (fun l21 hl21 ml21 => ?_)
      have l21_0 : en_ld l21 0 = some (gx_r 0) := ml21 0 _ l0 rfl
      have l21_4 : en_ld l21 4 = some (.inl b) := ml21 4 _ l4 rfl
      have l21_5 : en_ld l21 5 = some (.inl k) := ml21 5 _ l5 rfl
      refine gx_ld (i := 0) (d := 2) (v := gx_r 0) rfl (fun _ => rfl) l21_0 rfl rfl ?_
      refine gxo_get (a := 0) rfl g0 rfl rfl k10 rfl ?_
      refine gxo_ref (a := 257) (c := 259) rfl g0 rfl rfl rfl rfl rfl ?_
      refine gx_ld (i := 4) (d := 0) (v := .inl b) rfl (fun _ => rfl) l21_4 rfl rfl ?_
      refine gx_ag (v := .inl (fto w b)) (cb := fun c => Nat.beq c 0) rfl (fun _ => rfl) g0 rfl rfl fb (by first | decide | omega) rfl ?_
      refine gx_sto (i := 4) (d := 0) rfl (fun _ => rfl) rfl rfl (fun l22 hl22 ml22 => ?_)
      have l22_0 : en_ld l22 0 = some (gx_r 0) := ml22 0 _ l21_0 rfl
      have l22_5 : en_ld l22 5 = some (.inl k) := ml22 5 _ l21_5 rfl
      have l22_3 : en_ld l22 3 = some (.inl (fto w a)) := ml22 3 _ hl21 rfl
      refine gx_incS (i := 5) (a := k) (x := 1) rfl (fun _ => rfl) l22_5 (by first | decide | omega) rfl (fun l23 hl23 ml23 => ?_)
      have l23_0 : en_ld l23 0 = some (gx_r 0) := ml23 0 _ l22_0 rfl
      have l23_3 : en_ld l23 3 = some (.inl (fto w a)) := ml23 3 _ l22_3 rfl
      have l23_4 : en_ld l23 4 = some (.inl (fto w b)) := ml23 4 _ hl22 rfl
      refine ex_go (S := (35, l23, [], t0, n, 0)) rfl (fun _ => rfl) rfl ?_
      exact ih (k + 1) _ _ _ (by first | decide | omega) ga gb (by rw [← mtf_s hab]; exact hv) l23_0 l23_3 l23_4 hl23
theorem sc_meet257 (d n : Nat) {t0 : en_H} {w : Nat → Nat → Nat} {L : List Nat} {σ : Nat → Nat} {x y : Nat} (g0 : ai_HG ah_G t0) (hC : CW t0 257 w L) (hw : WS w) (k10 : ai_hv t0 0 10 = some (gx_r 257)) (hS : SC t0 8 (w 0 2) (w 0 4) σ) (hσ : ∀ i, i < w 0 2 → σ (1 + i) < 64) (hx : x < 4294967296) (hy : y < 4294967296) : ∃ r, en_u (d + 3) 56 [gx_r 0, .inl x, .inl y] t0 n = some r ∧ ∃ v, r = (some (.inl v), t0, n, 0) ∧ ((x < w 0 2 ∧ y < w 0 2 ∧ ¬ x = y) → v = mtf w 200 0 (σ (1 + x)) (σ (1 + y))) ∧ (¬ (x < w 0 2 ∧ y < w 0 2 ∧ ¬ x = y) → v = 4294967295) := by
  have hT := hw.1.2.2.1
  refine en_u_ex (d := d + 2) rfl ?_
  show en_ex _ _ _ _ (0, [(0, gx_r 0), (1, .inl x), (2, .inl y)], [], t0, n, 0) _
  refine ex_go (S := (1, [(0, gx_r 0), (1, .inl x), (2, .inl y)], [gx_r 0], t0, n, 0)) rfl (fun _ => rfl) rfl ?_
  refine ex_go (S := (2, [(0, gx_r 0), (1, .inl x), (2, .inl y)], [.inl x, gx_r 0], t0, n, 0)) rfl (fun _ => rfl) rfl ?_
  refine ex_go (S := (3, [(0, gx_r 0), (1, .inl x), (2, .inl y)], [.inl y, .inl x, gx_r 0], t0, n, 0)) rfl (fun _ => rfl) rfl ?_
  obtain ⟨_, r121, b121, rfl, hb121, hi121⟩ := sc_two257 d n (x := x) (y := y) g0 hC hw k10 hx hy
  refine gx_callo (a := 0) rfl rfl g0 rfl rfl rfl r121 rfl ?_
  show en_ex _ _ _ _ (6, [(0, gx_r 0), (1, .inl x), (2, .inl y)], [.inl b121], t0, n, 0) _
  by_cases hc22 : b121 ≠ 0
  · refine gx_1t (c := .ne) rfl (by first | decide | omega) hc22 rfl ?_
    have h3 := hi121.mp (by first | decide | omega)
    refine ex_go (S := (12, [(0, gx_r 0), (1, .inl x), (2, .inl y)], [gx_r 0], t0, n, 0)) rfl (fun _ => rfl) rfl ?_
    refine gxo_ref (a := 0) (c := 8) rfl g0 rfl rfl rfl rfl rfl ?_
    refine gxo_ref (a := 8) (c := 9) rfl g0 rfl rfl rfl rfl rfl ?_
    refine ex_go (S := (19, [(0, gx_r 0), (1, .inl x), (2, .inl y)], [.inl x, gx_r 9], t0, n, 0)) rfl (fun _ => rfl) rfl ?_
    have k23 := hS.2.1 x (by first | decide | omega)
    have hk23 := hσ x (by first | decide | omega)
    refine gx_ag (v := .inl (σ (1 + x))) (cb := fun c => Nat.beq c 0) rfl (fun _ => rfl) g0 rfl rfl k23 (by first | decide | omega) rfl ?_
    refine ex_go (S := (21, [(3, .inl (σ (1 + x))), (0, gx_r 0), (1, .inl x), (2, .inl y)], [], t0, n, 0)) rfl (fun _ => rfl) rfl ?_
    refine ex_go (S := (22, [(3, .inl (σ (1 + x))), (0, gx_r 0), (1, .inl x), (2, .inl y)], [gx_r 0], t0, n, 0)) rfl (fun _ => rfl) rfl ?_
    refine gxo_ref (a := 0) (c := 8) rfl g0 rfl rfl rfl rfl rfl ?_
    refine gxo_ref (a := 8) (c := 9) rfl g0 rfl rfl rfl rfl rfl ?_
    refine ex_go (S := (29, [(3, .inl (σ (1 + x))), (0, gx_r 0), (1, .inl x), (2, .inl y)], [.inl y, gx_r 9], t0, n, 0)) rfl (fun _ => rfl) rfl ?_
    have k24 := hS.2.1 y (by first | decide | omega)
    have hk24 := hσ y (by first | decide | omega)
    refine gx_ag (v := .inl (σ (1 + y))) (cb := fun c => Nat.beq c 0) rfl (fun _ => rfl) g0 rfl rfl k24 (by first | decide | omega) rfl ?_
    refine ex_go (S := (32, [(4, .inl (σ (1 + y))), (3, .inl (σ (1 + x))), (0, gx_r 0), (1, .inl x), (2, .inl y)], [], t0, n, 0)) rfl (fun _ => rfl) rfl ?_
    refine ex_go (S := (33, [(4, .inl (σ (1 + y))), (3, .inl (σ (1 + x))), (0, gx_r 0), (1, .inl x), (2, .inl y)], [.inl 0], t0, n, 0)) rfl (fun _ => rfl) rfl ?_
    refine ex_go (S := (35, [(5, .inl 0), (4, .inl (σ (1 + y))), (3, .inl (σ (1 + x))), (0, gx_r 0), (1, .inl x), (2, .inl y)], [], t0, n, 0)) rfl (fun _ => rfl) rfl ?_
    exact mt_l257 d n g0 hC hw k10 ⟨_, rfl, _, rfl, (fun _ => rfl), (fun c9 => absurd (hi121.mp (by first | decide | omega)) c9)⟩ 200 0 _ _ _ (by first | decide | omega) (by first | decide | omega) (by first | decide | omega) rfl rfl rfl rfl rfl
  · refine gx_1f (c := .ne) rfl (by first | decide | omega) hc22 rfl ?_
    refine ex_go (S := (10, [(0, gx_r 0), (1, .inl x), (2, .inl y)], [.inl 4294967295], t0, n, 0)) rfl (fun _ => rfl) rfl ?_
    refine ex_ret (r := (some (.inl 4294967295), t0, n, 0)) rfl (fun _ => rfl) ?_
    exact ⟨_, rfl, _, rfl, (fun c9 => absurd (hi121.mpr c9) (by first | decide | omega)), (fun _ => rfl)⟩
theorem mr_l (d n : Nat) {t0 : en_H} {w : Nat → Nat → Nat} {L : List Nat} {v0 : Nat} {Q : en_O → Prop} (g0 : ai_HG ah_G t0) (hR : RW t0 w L) (hQ : Q (.inl (some (.inl v0), t0, n, 0))) : ∀ j k a b cl, k + j = 200 → a < 64 → b < 64 → mtf w j k a b = v0 → en_ld cl 0 = some (gx_r 383) → en_ld cl 3 = some (.inl a) → en_ld cl 4 = some (.inl b) → en_ld cl 5 = some (.inl k) → en_ex none (en_u (d + 3)) (en_code 57) (fun _ => false) (50, cl, [], t0, n, 0) Q := by
  intro j
  induction j with
  | zero =>
    intro k a b cl hk ha hb hv l0 l3 l4 l5
    have ga := fto_lt (WS_of hR) ha
    have gb := fto_lt (WS_of hR) hb
    have hk : k = 200 := by omega
    subst hk
    refine gx_ld (i := 3) (d := 0) (v := .inl a) rfl (fun _ => rfl) l3 rfl rfl ?_
    refine gx_ld (i := 4) (d := 0) (v := .inl b) rfl (fun _ => rfl) l4 rfl rfl ?_
    by_cases hab : a = b
    · rw [mtf_eq hab] at hv
      refine gx_2t (c := .eq) rfl (by first | decide | omega) (by first | decide | omega) (show a = b from hab) rfl ?_
      refine gx_ld (i := 3) (d := 0) (v := .inl a) rfl (fun _ => rfl) l3 rfl rfl ?_
      refine gx_ld (i := 4) (d := 0) (v := .inl b) rfl (fun _ => rfl) l4 rfl rfl ?_
      refine gx_2f (c := .ne) rfl (by first | decide | omega) (by first | decide | omega) (show ¬ (a ≠ b) from by omega) rfl ?_
      refine gx_ld (i := 5) (d := 0) (v := .inl 200) rfl (fun _ => rfl) l5 rfl rfl ?_
      refine ex_go (S := (96, cl, [.inl 200], t0, n, 0)) rfl (fun _ => rfl) rfl ?_
      refine ex_ret (r := (some (.inl 200), t0, n, 0)) rfl (fun _ => rfl) ?_
      rw [hv]
      exact hQ
    · rw [mtf_z hab] at hv
      refine gx_2f (c := .eq) rfl (by first | decide | omega) (by first | decide | omega) (show ¬ (a = b) from hab) rfl ?_
      refine gx_ld (i := 5) (d := 0) (v := .inl 200) rfl (fun _ => rfl) l5 rfl rfl ?_
      refine ex_go (S := (61, cl, [.inl 200, .inl 200], t0, n, 0)) rfl (fun _ => rfl) rfl ?_
      refine ex_go (S := (84, cl, [], t0, n, 0)) rfl (fun _ => rfl) rfl ?_
      refine gx_ld (i := 3) (d := 0) (v := .inl a) rfl (fun _ => rfl) l3 rfl rfl ?_
      refine gx_ld (i := 4) (d := 0) (v := .inl b) rfl (fun _ => rfl) l4 rfl rfl ?_
      refine gx_2t (c := .ne) rfl (by first | decide | omega) (by first | decide | omega) (show a ≠ b from by omega) rfl ?_
      refine ex_go (S := (96, cl, [.inl 4294967295], t0, n, 0)) rfl (fun _ => rfl) rfl ?_
      refine ex_ret (r := (some (.inl 4294967295), t0, n, 0)) rfl (fun _ => rfl) ?_
      rw [hv]
      exact hQ
  | succ j ih =>
    intro k a b cl hk ha hb hv l0 l3 l4 l5
    have ga := fto_lt (WS_of hR) ha
    have gb := fto_lt (WS_of hR) hb
    refine gx_ld (i := 3) (d := 0) (v := .inl a) rfl (fun _ => rfl) l3 rfl rfl ?_
    refine gx_ld (i := 4) (d := 0) (v := .inl b) rfl (fun _ => rfl) l4 rfl rfl ?_
    by_cases hab : a = b
    · rw [mtf_eq hab] at hv
      refine gx_2t (c := .eq) rfl (by first | decide | omega) (by first | decide | omega) (show a = b from hab) rfl ?_
      refine gx_ld (i := 3) (d := 0) (v := .inl a) rfl (fun _ => rfl) l3 rfl rfl ?_
      refine gx_ld (i := 4) (d := 0) (v := .inl b) rfl (fun _ => rfl) l4 rfl rfl ?_
      refine gx_2f (c := .ne) rfl (by first | decide | omega) (by first | decide | omega) (show ¬ (a ≠ b) from by omega) rfl ?_
      refine gx_ld (i := 5) (d := 0) (v := .inl k) rfl (fun _ => rfl) l5 rfl rfl ?_
      refine ex_go (S := (96, cl, [.inl k], t0, n, 0)) rfl (fun _ => rfl) rfl ?_
      refine ex_ret (r := (some (.inl k), t0, n, 0)) rfl (fun _ => rfl) ?_
      rw [hv]
      exact hQ
    · refine gx_2f (c := .eq) rfl (by first | decide | omega) (by first | decide | omega) (show ¬ (a = b) from hab) rfl ?_
      refine gx_ld (i := 5) (d := 0) (v := .inl k) rfl (fun _ => rfl) l5 rfl rfl ?_
      refine ex_go (S := (61, cl, [.inl 200, .inl k], t0, n, 0)) rfl (fun _ => rfl) rfl ?_
      refine gx_2f (c := .ge) rfl (by first | decide | omega) (by first | decide | omega) (show ¬ (200 ≤ k) from by omega) rfl ?_
      refine gx_ld (i := 0) (d := 2) (v := gx_r 383) rfl (fun _ => rfl) l0 rfl rfl ?_
      refine gx_ld (i := 3) (d := 0) (v := .inl a) rfl (fun _ => rfl) l3 rfl rfl ?_
      obtain ⟨_, r21, rfl⟩ := sr_flowsTo d n (p := a) g0 hR ha
      refine gx_call1 rfl rfl g0 rfl rfl r21 rfl ?_
      show en_ex _ _ _ _ (69, cl, [.inl (fto w a)], t0, n, 0) _
      refine gx_sto (i := 3) (d := 0) rfl (fun _ => rfl) rfl rfl (fun l22 hl22 ml22 => ?_)
      have l22_0 : en_ld l22 0 = some (gx_r 383) := ml22 0 _ l0 rfl
      have l22_4 : en_ld l22 4 = some (.inl b) := ml22 4 _ l4 rfl
      have l22_5 : en_ld l22 5 = some (.inl k) := ml22 5 _ l5 rfl
      refine gx_ld (i := 0) (d := 2) (v := gx_r 383) rfl (fun _ => rfl) l22_0 rfl rfl ?_
      refine gx_ld (i := 4) (d := 0) (v := .inl b) rfl (fun _ => rfl) l22_4 rfl rfl ?_
      obtain ⟨_, r23, rfl⟩ := sr_flowsTo d n (p := b) g0 hR hb
      refine gx_call1 rfl rfl g0 rfl rfl r23 rfl ?_
      show en_ex _ _ _ _ (76, l22, [.inl (fto w b)], t0, n, 0) _
      refine gx_sto (i := 4) (d := 0) rfl (fun _ => rfl) rfl rfl (fun l24 hl24 ml24 => ?_)
      have l24_0 : en_ld l24 0 = some (gx_r 383) := ml24 0 _ l22_0 rfl
      have l24_5 : en_ld l24 5 = some (.inl k) := ml24 5 _ l22_5 rfl
      have l24_3 : en_ld l24 3 = some (.inl (fto w a)) := ml24 3 _ hl22 rfl
      refine gx_incS (i := 5) (a := k) (x := 1) rfl (fun _ => rfl) l24_5 (by first | decide | omega) rfl (fun l25 hl25 ml25 => ?_)
      have l25_0 : en_ld l25 0 = some (gx_r 383) := ml25 0 _ l24_0 rfl
      have l25_3 : en_ld l25 3 = some (.inl (fto w a)) := ml25 3 _ l24_3 rfl
      have l25_4 : en_ld l25 4 = some (.inl (fto w b)) := ml25 4 _ hl24 rfl
      refine ex_go (S := (50, l25, [], t0, n, 0)) rfl (fun _ => rfl) rfl ?_
      exact ih (k + 1) _ _ _ (by first | decide | omega) ga gb (by rw [← mtf_s hab]; exact hv) l25_0 l25_3 l25_4 hl25
theorem sr_meet (d n : Nat) {t0 : en_H} {w : Nat → Nat → Nat} {L : List Nat} {σ : Nat → Nat} {x y : Nat} (g0 : ai_HG ah_G t0) (hR : RW t0 w L) (hS : blk t0 0 σ) (hσ : ∀ i, i < w 0 2 → σ (1 + i) < 64) (hx : x < 4294967296) (hy : y < 4294967296) : ∃ r, en_u (d + 4) 57 [gx_r 383, .inl x, .inl y] t0 n = some r ∧ ∃ v t', r = (some (.inl v), t', n, 0) ∧ ((x < w 0 2 ∧ y < w 0 2 ∧ ¬ x = y) → v = mtf w 200 0 (σ (1 + x)) (σ (1 + y))) ∧ (¬ (x < w 0 2 ∧ y < w 0 2 ∧ ¬ x = y) → v = 4294967295) := by
  have hT := hR.2.1.2.2.1
  refine en_u_ex (d := d + 3) rfl ?_
  show en_ex _ _ _ _ (0, [(0, gx_r 383), (1, .inl x), (2, .inl y)], [], t0, n, 0) _
  refine ex_go (S := (1, [(0, gx_r 383), (1, .inl x), (2, .inl y)], [gx_r 383], t0, n, 0)) rfl (fun _ => rfl) rfl ?_
  refine ex_go (S := (2, [(0, gx_r 383), (1, .inl x), (2, .inl y)], [.inl 0, gx_r 383], t0, n, 0)) rfl (fun _ => rfl) rfl ?_
  refine gx_put rfl g0 rfl rfl (ai_in_h (by first | decide | omega) (by first | decide | omega) (by first | decide | omega)) rfl (fun t121 g121 k121 e121 => ?_)
  refine ex_go (S := (6, [(0, gx_r 383), (1, .inl x), (2, .inl y)], [gx_r 383], t121, n, 0)) rfl (fun _ => rfl) rfl ?_
  refine ex_go (S := (7, [(0, gx_r 383), (1, .inl x), (2, .inl y)], [.inl x, gx_r 383], t121, n, 0)) rfl (fun _ => rfl) rfl ?_
  obtain ⟨_, r122, b122, rfl, hb122, hi122⟩ := sr_isThing (d + 1) n (c := x) (K := w 0 2) g121 (by first | decide | omega) ((e121 389 2 (by first | decide | omega)).trans ((hR.1 2 (by first | decide | omega)))) (by first | decide | omega)
  refine gx_call1 rfl rfl g121 rfl rfl r122 rfl ?_
  show en_ex _ _ _ _ (10, [(0, gx_r 383), (1, .inl x), (2, .inl y)], [.inl b122], t121, n, 0) _
  by_cases hc23 : b122 = 0
  · refine gx_1t (c := .eq) rfl (by first | decide | omega) hc23 rfl ?_
    refine ex_go (S := (27, [(0, gx_r 383), (1, .inl x), (2, .inl y)], [.inl 4294967295], t121, n, 0)) rfl (fun _ => rfl) rfl ?_
    refine ex_ret (r := (some (.inl 4294967295), t121, n, 0)) rfl (fun _ => rfl) ?_
    exact ⟨_, rfl, _, _, rfl, (fun c9 => by omega), (fun _ => rfl)⟩
  · refine gx_1f (c := .eq) rfl (by first | decide | omega) hc23 rfl ?_
    refine ex_go (S := (14, [(0, gx_r 383), (1, .inl x), (2, .inl y)], [gx_r 383], t121, n, 0)) rfl (fun _ => rfl) rfl ?_
    refine ex_go (S := (15, [(0, gx_r 383), (1, .inl x), (2, .inl y)], [.inl y, gx_r 383], t121, n, 0)) rfl (fun _ => rfl) rfl ?_
    obtain ⟨_, r124, b124, rfl, hb124, hi124⟩ := sr_isThing (d + 1) n (c := y) (K := w 0 2) g121 (by first | decide | omega) ((e121 389 2 (by first | decide | omega)).trans ((hR.1 2 (by first | decide | omega)))) (by first | decide | omega)
    refine gx_call1 rfl rfl g121 rfl rfl r124 rfl ?_
    show en_ex _ _ _ _ (18, [(0, gx_r 383), (1, .inl x), (2, .inl y)], [.inl b124], t121, n, 0) _
    by_cases hc25 : b124 = 0
    · refine gx_1t (c := .eq) rfl (by first | decide | omega) hc25 rfl ?_
      refine ex_go (S := (27, [(0, gx_r 383), (1, .inl x), (2, .inl y)], [.inl 4294967295], t121, n, 0)) rfl (fun _ => rfl) rfl ?_
      refine ex_ret (r := (some (.inl 4294967295), t121, n, 0)) rfl (fun _ => rfl) ?_
      exact ⟨_, rfl, _, _, rfl, (fun c9 => by omega), (fun _ => rfl)⟩
    · refine gx_1f (c := .eq) rfl (by first | decide | omega) hc25 rfl ?_
      refine ex_go (S := (22, [(0, gx_r 383), (1, .inl x), (2, .inl y)], [.inl x], t121, n, 0)) rfl (fun _ => rfl) rfl ?_
      refine ex_go (S := (23, [(0, gx_r 383), (1, .inl x), (2, .inl y)], [.inl y, .inl x], t121, n, 0)) rfl (fun _ => rfl) rfl ?_
      by_cases hc26 : x ≠ y
      · refine gx_2t (c := .ne) rfl (by first | decide | omega) (by first | decide | omega) hc26 rfl ?_
        refine ex_go (S := (29, [(0, gx_r 383), (1, .inl x), (2, .inl y)], [gx_r 383], t121, n, 0)) rfl (fun _ => rfl) rfl ?_
        refine gx_ref (c := 399) rfl g121 rfl rfl rfl rfl ?_
        refine ex_go (S := (33, [(0, gx_r 383), (1, .inl x), (2, .inl y)], [.inl 1, gx_r 399], t121, n, 0)) rfl (fun _ => rfl) rfl ?_
        refine ex_go (S := (34, [(0, gx_r 383), (1, .inl x), (2, .inl y)], [.inl x, .inl 1, gx_r 399], t121, n, 0)) rfl (fun _ => rfl) rfl ?_
        refine ex_iadd rfl (by first | decide | omega) rfl ?_
        have k27 : ai_hv t121 399 (1 + x) = some (.inl (σ (1 + x))) := by
          have h9 := hS (1 + x) (by first | decide | omega)
          rw [Nat.zero_add] at h9
          exact (e121 399 (1 + x) (by first | decide | omega)).trans (h9)
        have hk27 := hσ x (by first | decide | omega)
        refine gx_ag (v := .inl (σ (1 + x))) (cb := fun c => Nat.beq c 0) rfl (fun _ => rfl) g121 rfl rfl k27 (by first | decide | omega) rfl ?_
        refine ex_go (S := (37, [(3, .inl (σ (1 + x))), (0, gx_r 383), (1, .inl x), (2, .inl y)], [], t121, n, 0)) rfl (fun _ => rfl) rfl ?_
        refine ex_go (S := (38, [(3, .inl (σ (1 + x))), (0, gx_r 383), (1, .inl x), (2, .inl y)], [gx_r 383], t121, n, 0)) rfl (fun _ => rfl) rfl ?_
        refine gx_ref (c := 399) rfl g121 rfl rfl rfl rfl ?_
        refine ex_go (S := (42, [(3, .inl (σ (1 + x))), (0, gx_r 383), (1, .inl x), (2, .inl y)], [.inl 1, gx_r 399], t121, n, 0)) rfl (fun _ => rfl) rfl ?_
        refine ex_go (S := (43, [(3, .inl (σ (1 + x))), (0, gx_r 383), (1, .inl x), (2, .inl y)], [.inl y, .inl 1, gx_r 399], t121, n, 0)) rfl (fun _ => rfl) rfl ?_
        refine ex_iadd rfl (by first | decide | omega) rfl ?_
        have k28 : ai_hv t121 399 (1 + y) = some (.inl (σ (1 + y))) := by
          have h9 := hS (1 + y) (by first | decide | omega)
          rw [Nat.zero_add] at h9
          exact (e121 399 (1 + y) (by first | decide | omega)).trans (h9)
        have hk28 := hσ y (by first | decide | omega)
        refine gx_ag (v := .inl (σ (1 + y))) (cb := fun c => Nat.beq c 0) rfl (fun _ => rfl) g121 rfl rfl k28 (by first | decide | omega) rfl ?_
        refine ex_go (S := (47, [(4, .inl (σ (1 + y))), (3, .inl (σ (1 + x))), (0, gx_r 383), (1, .inl x), (2, .inl y)], [], t121, n, 0)) rfl (fun _ => rfl) rfl ?_
        refine ex_go (S := (48, [(4, .inl (σ (1 + y))), (3, .inl (σ (1 + x))), (0, gx_r 383), (1, .inl x), (2, .inl y)], [.inl 0], t121, n, 0)) rfl (fun _ => rfl) rfl ?_
        refine ex_go (S := (50, [(5, .inl 0), (4, .inl (σ (1 + y))), (3, .inl (σ (1 + x))), (0, gx_r 383), (1, .inl x), (2, .inl y)], [], t121, n, 0)) rfl (fun _ => rfl) rfl ?_
        exact mr_l d n g121 (RW_keep hR (fun i hi => e121 389 i (by first | decide | omega)) (fun c i hc _ => e121 c i (by first | decide | omega))) ⟨_, rfl, _, _, rfl, (fun _ => rfl), (fun c9 => absurd ⟨by omega, by omega, by omega⟩ c9)⟩ 200 0 _ _ _ (by first | decide | omega) (by first | decide | omega) (by first | decide | omega) rfl rfl rfl rfl rfl
      · refine gx_2f (c := .ne) rfl (by first | decide | omega) (by first | decide | omega) hc26 rfl ?_
        refine ex_go (S := (27, [(0, gx_r 383), (1, .inl x), (2, .inl y)], [.inl 4294967295], t121, n, 0)) rfl (fun _ => rfl) rfl ?_
        refine ex_ret (r := (some (.inl 4294967295), t121, n, 0)) rfl (fun _ => rfl) ?_
        exact ⟨_, rfl, _, _, rfl, (fun c9 => by omega), (fun _ => rfl)⟩
theorem zs_where191 {n B x y : Nat} {t : en_H} (g0 : ai_HG ah_G t) (hP : SPk 191 t) (hZ : ZS B t) (hx : x < 4294967296) (hy : y < 4294967296) : zs_A 54 55 [gx_r 0, .inl x, .inl y] [gx_r 383, .inl x, .inl y] t n := by
  obtain ⟨k10, w, L, hR, hC, hX⟩ := hP
  obtain ⟨T, K, σ, u, τ, F, μ, q, v, ⟨hT, hK⟩, hS, hS', hB5, -⟩ := hZ
  have eT := wv_one hT (hR.1 2 (by decide))
  have eK := wv_one hK (hR.1 4 (by decide))
  subst eT eK
  have hw := WS_of hR
  have hT6 := hw.1.2.2.1
  have hb0 := zs_sbd g0 hS.1
  have hσ : ∀ i, i < w 0 2 → σ (1 + i) < 64 := fun i hi => by
    have := hb0.1 i (by first | decide | omega)
    omega
  obtain ⟨_, r1, z1, rfl, a1, a2⟩ := sc_where191 57 n g0 hC hw hX k10 hS'.1 hσ hx hy
  obtain ⟨_, r2, z2, t2, rfl, b1, b2⟩ := sr_where 55 n g0 hR hS.1 hσ hx hy
  have e : z2 = z1 := by
    by_cases c : x < w 0 2 ∧ y ≤ 200
    · rw [a1 c, b1 c]
    · rw [a2 c, b2 c]
  subst e
  exact ⟨_, _, _, r1, r2⟩
theorem zs_where257 {n B x y : Nat} {t : en_H} (g0 : ai_HG ah_G t) (hP : SPk 257 t) (hZ : ZS B t) (hx : x < 4294967296) (hy : y < 4294967296) : zs_A 54 55 [gx_r 0, .inl x, .inl y] [gx_r 383, .inl x, .inl y] t n := by
  obtain ⟨k10, w, L, hR, hC, hX⟩ := hP
  obtain ⟨T, K, σ, u, τ, F, μ, q, v, ⟨hT, hK⟩, hS, hS', hB5, -⟩ := hZ
  have eT := wv_one hT (hR.1 2 (by decide))
  have eK := wv_one hK (hR.1 4 (by decide))
  subst eT eK
  have hw := WS_of hR
  have hT6 := hw.1.2.2.1
  have hb0 := zs_sbd g0 hS.1
  have hσ : ∀ i, i < w 0 2 → σ (1 + i) < 64 := fun i hi => by
    have := hb0.1 i (by first | decide | omega)
    omega
  obtain ⟨_, r1, z1, rfl, a1, a2⟩ := sc_where257 57 n g0 hC hw hX k10 hS'.1 hσ hx hy
  obtain ⟨_, r2, z2, t2, rfl, b1, b2⟩ := sr_where 55 n g0 hR hS.1 hσ hx hy
  have e : z2 = z1 := by
    by_cases c : x < w 0 2 ∧ y ≤ 200
    · rw [a1 c, b1 c]
    · rw [a2 c, b2 c]
  subst e
  exact ⟨_, _, _, r1, r2⟩
theorem zs_meet191 {n B x y : Nat} {t : en_H} (g0 : ai_HG ah_G t) (hP : SPk 191 t) (hZ : ZS B t) (hx : x < 4294967296) (hy : y < 4294967296) : zs_A 56 57 [gx_r 0, .inl x, .inl y] [gx_r 383, .inl x, .inl y] t n := by
  obtain ⟨k10, w, L, hR, hC, hX⟩ := hP
  obtain ⟨T, K, σ, u, τ, F, μ, q, v, ⟨hT, hK⟩, hS, hS', hB5, -⟩ := hZ
  have eT := wv_one hT (hR.1 2 (by decide))
  have eK := wv_one hK (hR.1 4 (by decide))
  subst eT eK
  have hw := WS_of hR
  have hT6 := hw.1.2.2.1
  have hb0 := zs_sbd g0 hS.1
  have hσ : ∀ i, i < w 0 2 → σ (1 + i) < 64 := fun i hi => by
    have := hb0.1 i (by first | decide | omega)
    omega
  obtain ⟨_, r1, z1, rfl, a1, a2⟩ := sc_meet191 57 n g0 hC hw k10 hS'.1 hσ hx hy
  obtain ⟨_, r2, z2, t2, rfl, b1, b2⟩ := sr_meet 56 n g0 hR hS.1 hσ hx hy
  have e : z2 = z1 := by
    by_cases c : x < w 0 2 ∧ y < w 0 2 ∧ ¬ x = y
    · rw [a1 c, b1 c]
    · rw [a2 c, b2 c]
  subst e
  exact ⟨_, _, _, r1, r2⟩
theorem zs_meet257 {n B x y : Nat} {t : en_H} (g0 : ai_HG ah_G t) (hP : SPk 257 t) (hZ : ZS B t) (hx : x < 4294967296) (hy : y < 4294967296) : zs_A 56 57 [gx_r 0, .inl x, .inl y] [gx_r 383, .inl x, .inl y] t n := by
  obtain ⟨k10, w, L, hR, hC, hX⟩ := hP
  obtain ⟨T, K, σ, u, τ, F, μ, q, v, ⟨hT, hK⟩, hS, hS', hB5, -⟩ := hZ
  have eT := wv_one hT (hR.1 2 (by decide))
  have eK := wv_one hK (hR.1 4 (by decide))
  subst eT eK
  have hw := WS_of hR
  have hT6 := hw.1.2.2.1
  have hb0 := zs_sbd g0 hS.1
  have hσ : ∀ i, i < w 0 2 → σ (1 + i) < 64 := fun i hi => by
    have := hb0.1 i (by first | decide | omega)
    omega
  obtain ⟨_, r1, z1, rfl, a1, a2⟩ := sc_meet257 57 n g0 hC hw k10 hS'.1 hσ hx hy
  obtain ⟨_, r2, z2, t2, rfl, b1, b2⟩ := sr_meet 56 n g0 hR hS.1 hσ hx hy
  have e : z2 = z1 := by
    by_cases c : x < w 0 2 ∧ y < w 0 2 ∧ ¬ x = y
    · rw [a1 c, b1 c]
    · rw [a2 c, b2 c]
  subst e
  exact ⟨_, _, _, r1, r2⟩
end SSU
