section PK6
variable {oc : Option (List en_V)} {f : en_F} {code : Nat → Option en_I} {stop : Nat → Bool} {P : en_O → Prop}
variable {pc nx : Nat} {ls : en_L} {st : List en_V} {t : en_H} {n sl : Nat}
/-! rows over locals of which only some are known -/
theorem gx_ld {ins : Instr} {x1 x2 i d : Nat} {v : en_V} (hc : code pc = some (ins, nx, x1, x2)) (hi : ∀ k : en_K, en_step en_df oc f pc (ins, nx, x1, x2) ls st t n sl k = en_load d i nx ls st t n sl k) (hl : en_ld ls i = some v) (hk : Nat.beq (en_kd v) d = true) (hp : stop nx = false) (h : en_ex oc f code stop (nx, ls, v :: st, t, n, sl) P) : en_ex oc f code stop (pc, ls, st, t, n, sl) P := by
  refine ex_go (S := (nx, ls, v :: st, t, n, sl)) hc (fun k => ?_) hp h
  rw [hi]
  unfold en_load
  rw [hl]
  dsimp only
  rw [hk]
  rfl
theorem gx_sto {ins : Instr} {x1 x2 i d : Nat} {v : en_V} (hc : code pc = some (ins, nx, x1, x2)) (hi : ∀ k : en_K, en_step en_df oc f pc (ins, nx, x1, x2) ls (v :: st) t n sl k = en_store d i nx ls (v :: st) t n sl k) (hk : Nat.beq (en_kd v) d = true) (hp : stop nx = false) (h : ∀ ls' : en_L, en_ld ls' i = some v → (∀ j w, en_ld ls j = some w → (bif Nat.beq d 1 then en_keep2 i else en_keep1 i) (j, w) = true → en_ld ls' j = some w) → en_ex oc f code stop (nx, ls', st, t, n, sl) P) : en_ex oc f code stop (pc, ls, v :: st, t, n, sl) P := by
  have hz : ∀ (j : Nat) (w : en_V), Nat.beq i j = true → (bif Nat.beq d 1 then en_keep2 i else en_keep1 i) (j, w) = false := fun j w e => by
    have e := Nat.eq_of_beq_eq_true e
    subst e
    cases Nat.beq d 1
    · show (bif Nat.beq i i then false else _) = false
      rw [Nat.beq_refl]
      rfl
    · show (bif Nat.beq i (i + 1) then false else (bif Nat.beq i i then false else _)) = false
      rw [Nat.beq_refl]
      cases Nat.beq i (i + 1) <;> rfl
  refine ex_go (S := (nx, (i, v) :: en_flt (bif Nat.beq d 1 then en_keep2 i else en_keep1 i) ls, st, t, n, sl)) hc (fun k => ?_) hp (h _ ?_ ?_)
  · rw [hi]
    unfold en_store
    dsimp only
    rw [hk]
    rfl
  · show (bif Nat.beq i i then some v else _) = some v
    rw [Nat.beq_refl]
    rfl
  · intro j w h1 h2
    show (bif Nat.beq i j then some v else en_ld (en_flt (bif Nat.beq d 1 then en_keep2 i else en_keep1 i) ls) j) = some w
    cases hq : Nat.beq i j with
    | true => rw [hz j w hq] at h2; cases h2
    | false => exact en_ld_flt h1 h2
theorem gx_incS {ins : Instr} {x1 x2 i x a : Nat} (hc : code pc = some (ins, nx, x1, x2)) (hi : ∀ k : en_K, en_step en_df oc f pc (ins, nx, x1, x2) ls st t n sl k = en_iinc i x nx ls st t n sl k) (hl : en_ld ls i = some (.inl a)) (hx : a + x < 4294967296) (hp : stop nx = false) (h : ∀ ls' : en_L, en_ld ls' i = some (.inl (a + x)) → (∀ j w, en_ld ls j = some w → en_keep1 i (j, w) = true → en_ld ls' j = some w) → en_ex oc f code stop (nx, ls', st, t, n, sl) P) : en_ex oc f code stop (pc, ls, st, t, n, sl) P := by
  refine ex_go (S := (nx, (i, .inl (a + x)) :: en_flt (en_keep1 i) ls, st, t, n, sl)) hc (fun k => ?_) hp (h _ ?_ ?_)
  · rw [hi]
    unfold en_iinc
    rw [hl]
    dsimp only
    unfold en_wrap
    rw [Nat.mod_eq_of_lt hx]
  · show (bif Nat.beq i i then some (Sum.inl (a + x) : en_V) else _) = _
    rw [Nat.beq_refl]
    rfl
  · intro j w h1 h2
    show (bif Nat.beq i j then some (Sum.inl (a + x) : en_V) else en_ld (en_flt (en_keep1 i) ls) j) = some w
    cases hq : Nat.beq i j with
    | true =>
      have e := Nat.eq_of_beq_eq_true hq
      subst e
      have h2 : (bif Nat.beq i i then false else _) = true := h2
      rw [Nat.beq_refl] at h2
      cases h2
    | false => exact en_ld_flt h1 h2
theorem gx_tape {i : Nat} (hG : ai_HG ah_G t) (hi : i < 1000) : ∃ m, ai_hv t 384 i = some (.inl m) ∧ m ≤ 255 := by
  obtain ⟨m, k, -, h⟩ := gx_inb (c := 384) (lo := 0) (hi := 255) hG rfl hi (gx_run1 hi) (by decide) (by decide) rfl
  exact ⟨m, k, h⟩
theorem gx_sort0 (i : Nat) (hi : i < 1002) : ∃ p, ai_run ah_385.2.2.2 i = some (.inl p) ∧ ai_rh (.inl p) (.inl 0) := by
  by_cases c : i < 1000
  · exact ⟨_, gx_run1 c, ai_in_h (by decide) (by decide) (by decide)⟩
  · exact ⟨_, (gx_run2 (by first | decide | omega)).trans (gx_run1 hi), ai_in_h (by decide) (by decide) (by decide)⟩
theorem pk_isLetter (d n : Nat) {t0 : en_H} {x : Nat} (hx : x ≤ 255) : ∃ r, en_u (d + 1) 180 [.inl x] t0 n = some r ∧ ∃ b, r = (some (.inl b), t0, n, 0) ∧ (b ≤ 1 ∧ (b = 1 ↔ 97 ≤ x ∧ x ≤ 122)) := by
  refine en_u_ex rfl ?_
  show en_ex _ _ _ _ (0, [(0, .inl x)], [], t0, n, 0) _
  refine ex_go (S := (1, [(0, .inl x)], [.inl x], t0, n, 0)) rfl (fun _ => rfl) rfl ?_
  refine ex_go (S := (3, [(0, .inl x)], [.inl 97, .inl x], t0, n, 0)) rfl (fun _ => rfl) rfl ?_
  by_cases hc1 : x < 97
  · refine gx_2t (c := .lt) rfl (by first | decide | omega) (by first | decide | omega) hc1 rfl ?_
    refine ex_go (S := (17, [(0, .inl x)], [.inl 0], t0, n, 0)) rfl (fun _ => rfl) rfl ?_
    refine ex_ret (r := (some (.inl 0), t0, n, 0)) rfl (fun _ => rfl) ?_
    exact ⟨_, rfl, 0, rfl, by omega⟩
  · refine gx_2f (c := .lt) rfl (by first | decide | omega) (by first | decide | omega) hc1 rfl ?_
    refine ex_go (S := (7, [(0, .inl x)], [.inl x], t0, n, 0)) rfl (fun _ => rfl) rfl ?_
    refine ex_go (S := (9, [(0, .inl x)], [.inl 122, .inl x], t0, n, 0)) rfl (fun _ => rfl) rfl ?_
    by_cases hc2 : 122 < x
    · refine gx_2t (c := .gt) rfl (by first | decide | omega) (by first | decide | omega) hc2 rfl ?_
      refine ex_go (S := (17, [(0, .inl x)], [.inl 0], t0, n, 0)) rfl (fun _ => rfl) rfl ?_
      refine ex_ret (r := (some (.inl 0), t0, n, 0)) rfl (fun _ => rfl) ?_
      exact ⟨_, rfl, 0, rfl, by omega⟩
    · refine gx_2f (c := .gt) rfl (by first | decide | omega) (by first | decide | omega) hc2 rfl ?_
      refine ex_go (S := (13, [(0, .inl x)], [.inl 1], t0, n, 0)) rfl (fun _ => rfl) rfl ?_
      refine ex_go (S := (17, [(0, .inl x)], [.inl 1], t0, n, 0)) rfl (fun _ => rfl) rfl ?_
      refine ex_ret (r := (some (.inl 1), t0, n, 0)) rfl (fun _ => rfl) ?_
      exact ⟨_, rfl, 1, rfl, by omega⟩
theorem pk_isDigit (d n : Nat) {t0 : en_H} {x : Nat} (hx : x ≤ 255) : ∃ r, en_u (d + 1) 182 [.inl x] t0 n = some r ∧ ∃ b, r = (some (.inl b), t0, n, 0) ∧ (b ≤ 1 ∧ (b = 1 ↔ 48 ≤ x ∧ x ≤ 57)) := by
  refine en_u_ex rfl ?_
  show en_ex _ _ _ _ (0, [(0, .inl x)], [], t0, n, 0) _
  refine ex_go (S := (1, [(0, .inl x)], [.inl x], t0, n, 0)) rfl (fun _ => rfl) rfl ?_
  refine ex_go (S := (3, [(0, .inl x)], [.inl 48, .inl x], t0, n, 0)) rfl (fun _ => rfl) rfl ?_
  by_cases hc1 : x < 48
  · refine gx_2t (c := .lt) rfl (by first | decide | omega) (by first | decide | omega) hc1 rfl ?_
    refine ex_go (S := (17, [(0, .inl x)], [.inl 0], t0, n, 0)) rfl (fun _ => rfl) rfl ?_
    refine ex_ret (r := (some (.inl 0), t0, n, 0)) rfl (fun _ => rfl) ?_
    exact ⟨_, rfl, 0, rfl, by omega⟩
  · refine gx_2f (c := .lt) rfl (by first | decide | omega) (by first | decide | omega) hc1 rfl ?_
    refine ex_go (S := (7, [(0, .inl x)], [.inl x], t0, n, 0)) rfl (fun _ => rfl) rfl ?_
    refine ex_go (S := (9, [(0, .inl x)], [.inl 57, .inl x], t0, n, 0)) rfl (fun _ => rfl) rfl ?_
    by_cases hc2 : 57 < x
    · refine gx_2t (c := .gt) rfl (by first | decide | omega) (by first | decide | omega) hc2 rfl ?_
      refine ex_go (S := (17, [(0, .inl x)], [.inl 0], t0, n, 0)) rfl (fun _ => rfl) rfl ?_
      refine ex_ret (r := (some (.inl 0), t0, n, 0)) rfl (fun _ => rfl) ?_
      exact ⟨_, rfl, 0, rfl, by omega⟩
    · refine gx_2f (c := .gt) rfl (by first | decide | omega) (by first | decide | omega) hc2 rfl ?_
      refine ex_go (S := (13, [(0, .inl x)], [.inl 1], t0, n, 0)) rfl (fun _ => rfl) rfl ?_
      refine ex_go (S := (17, [(0, .inl x)], [.inl 1], t0, n, 0)) rfl (fun _ => rfl) rfl ?_
      refine ex_ret (r := (some (.inl 1), t0, n, 0)) rfl (fun _ => rfl) ?_
      exact ⟨_, rfl, 1, rfl, by omega⟩
theorem pk_isSignOf (d n : Nat) {t0 : en_H} {x : Nat} (hx : x ≤ 255) : ∃ r, en_u (d + 1) 183 [.inl x] t0 n = some r ∧ ∃ b, r = (some (.inl b), t0, n, 0) ∧ (b ≤ 1) := by
  refine en_u_ex rfl ?_
  show en_ex _ _ _ _ (0, [(0, .inl x)], [], t0, n, 0) _
  refine ex_go (S := (1, [(0, .inl x)], [.inl x], t0, n, 0)) rfl (fun _ => rfl) rfl ?_
  refine ex_go (S := (3, [(0, .inl x)], [.inl 40, .inl x], t0, n, 0)) rfl (fun _ => rfl) rfl ?_
  by_cases hc1 : x = 40
  · refine gx_2t (c := .eq) rfl (by first | decide | omega) (by first | decide | omega) hc1 rfl ?_
    refine ex_go (S := (49, [(0, .inl x)], [.inl 1], t0, n, 0)) rfl (fun _ => rfl) rfl ?_
    refine ex_go (S := (53, [(0, .inl x)], [.inl 1], t0, n, 0)) rfl (fun _ => rfl) rfl ?_
    refine ex_ret (r := (some (.inl 1), t0, n, 0)) rfl (fun _ => rfl) ?_
    exact ⟨_, rfl, 1, rfl, by omega⟩
  · refine gx_2f (c := .eq) rfl (by first | decide | omega) (by first | decide | omega) hc1 rfl ?_
    refine ex_go (S := (7, [(0, .inl x)], [.inl x], t0, n, 0)) rfl (fun _ => rfl) rfl ?_
    refine ex_go (S := (9, [(0, .inl x)], [.inl 41, .inl x], t0, n, 0)) rfl (fun _ => rfl) rfl ?_
    by_cases hc2 : x = 41
    · refine gx_2t (c := .eq) rfl (by first | decide | omega) (by first | decide | omega) hc2 rfl ?_
      refine ex_go (S := (49, [(0, .inl x)], [.inl 1], t0, n, 0)) rfl (fun _ => rfl) rfl ?_
      refine ex_go (S := (53, [(0, .inl x)], [.inl 1], t0, n, 0)) rfl (fun _ => rfl) rfl ?_
      refine ex_ret (r := (some (.inl 1), t0, n, 0)) rfl (fun _ => rfl) ?_
      exact ⟨_, rfl, 1, rfl, by omega⟩
    · refine gx_2f (c := .eq) rfl (by first | decide | omega) (by first | decide | omega) hc2 rfl ?_
      refine ex_go (S := (13, [(0, .inl x)], [.inl x], t0, n, 0)) rfl (fun _ => rfl) rfl ?_
      refine ex_go (S := (15, [(0, .inl x)], [.inl 59, .inl x], t0, n, 0)) rfl (fun _ => rfl) rfl ?_
      by_cases hc3 : x = 59
      · refine gx_2t (c := .eq) rfl (by first | decide | omega) (by first | decide | omega) hc3 rfl ?_
        refine ex_go (S := (49, [(0, .inl x)], [.inl 1], t0, n, 0)) rfl (fun _ => rfl) rfl ?_
        refine ex_go (S := (53, [(0, .inl x)], [.inl 1], t0, n, 0)) rfl (fun _ => rfl) rfl ?_
        refine ex_ret (r := (some (.inl 1), t0, n, 0)) rfl (fun _ => rfl) ?_
        exact ⟨_, rfl, 1, rfl, by omega⟩
      · refine gx_2f (c := .eq) rfl (by first | decide | omega) (by first | decide | omega) hc3 rfl ?_
        refine ex_go (S := (19, [(0, .inl x)], [.inl x], t0, n, 0)) rfl (fun _ => rfl) rfl ?_
        refine ex_go (S := (21, [(0, .inl x)], [.inl 61, .inl x], t0, n, 0)) rfl (fun _ => rfl) rfl ?_
        by_cases hc4 : x = 61
        · refine gx_2t (c := .eq) rfl (by first | decide | omega) (by first | decide | omega) hc4 rfl ?_
          refine ex_go (S := (49, [(0, .inl x)], [.inl 1], t0, n, 0)) rfl (fun _ => rfl) rfl ?_
          refine ex_go (S := (53, [(0, .inl x)], [.inl 1], t0, n, 0)) rfl (fun _ => rfl) rfl ?_
          refine ex_ret (r := (some (.inl 1), t0, n, 0)) rfl (fun _ => rfl) ?_
          exact ⟨_, rfl, 1, rfl, by omega⟩
        · refine gx_2f (c := .eq) rfl (by first | decide | omega) (by first | decide | omega) hc4 rfl ?_
          refine ex_go (S := (25, [(0, .inl x)], [.inl x], t0, n, 0)) rfl (fun _ => rfl) rfl ?_
          refine ex_go (S := (27, [(0, .inl x)], [.inl 60, .inl x], t0, n, 0)) rfl (fun _ => rfl) rfl ?_
          by_cases hc5 : x = 60
          · refine gx_2t (c := .eq) rfl (by first | decide | omega) (by first | decide | omega) hc5 rfl ?_
            refine ex_go (S := (49, [(0, .inl x)], [.inl 1], t0, n, 0)) rfl (fun _ => rfl) rfl ?_
            refine ex_go (S := (53, [(0, .inl x)], [.inl 1], t0, n, 0)) rfl (fun _ => rfl) rfl ?_
            refine ex_ret (r := (some (.inl 1), t0, n, 0)) rfl (fun _ => rfl) ?_
            exact ⟨_, rfl, 1, rfl, by omega⟩
          · refine gx_2f (c := .eq) rfl (by first | decide | omega) (by first | decide | omega) hc5 rfl ?_
            refine ex_go (S := (31, [(0, .inl x)], [.inl x], t0, n, 0)) rfl (fun _ => rfl) rfl ?_
            refine ex_go (S := (33, [(0, .inl x)], [.inl 43, .inl x], t0, n, 0)) rfl (fun _ => rfl) rfl ?_
            by_cases hc6 : x = 43
            · refine gx_2t (c := .eq) rfl (by first | decide | omega) (by first | decide | omega) hc6 rfl ?_
              refine ex_go (S := (49, [(0, .inl x)], [.inl 1], t0, n, 0)) rfl (fun _ => rfl) rfl ?_
              refine ex_go (S := (53, [(0, .inl x)], [.inl 1], t0, n, 0)) rfl (fun _ => rfl) rfl ?_
              refine ex_ret (r := (some (.inl 1), t0, n, 0)) rfl (fun _ => rfl) ?_
              exact ⟨_, rfl, 1, rfl, by omega⟩
            · refine gx_2f (c := .eq) rfl (by first | decide | omega) (by first | decide | omega) hc6 rfl ?_
              refine ex_go (S := (37, [(0, .inl x)], [.inl x], t0, n, 0)) rfl (fun _ => rfl) rfl ?_
              refine ex_go (S := (39, [(0, .inl x)], [.inl 45, .inl x], t0, n, 0)) rfl (fun _ => rfl) rfl ?_
              by_cases hc7 : x = 45
              · refine gx_2t (c := .eq) rfl (by first | decide | omega) (by first | decide | omega) hc7 rfl ?_
                refine ex_go (S := (49, [(0, .inl x)], [.inl 1], t0, n, 0)) rfl (fun _ => rfl) rfl ?_
                refine ex_go (S := (53, [(0, .inl x)], [.inl 1], t0, n, 0)) rfl (fun _ => rfl) rfl ?_
                refine ex_ret (r := (some (.inl 1), t0, n, 0)) rfl (fun _ => rfl) ?_
                exact ⟨_, rfl, 1, rfl, by omega⟩
              · refine gx_2f (c := .eq) rfl (by first | decide | omega) (by first | decide | omega) hc7 rfl ?_
                refine ex_go (S := (43, [(0, .inl x)], [.inl x], t0, n, 0)) rfl (fun _ => rfl) rfl ?_
                refine ex_go (S := (45, [(0, .inl x)], [.inl 42, .inl x], t0, n, 0)) rfl (fun _ => rfl) rfl ?_
                by_cases hc8 : x ≠ 42
                · refine gx_2t (c := .ne) rfl (by first | decide | omega) (by first | decide | omega) hc8 rfl ?_
                  refine ex_go (S := (53, [(0, .inl x)], [.inl 0], t0, n, 0)) rfl (fun _ => rfl) rfl ?_
                  refine ex_ret (r := (some (.inl 0), t0, n, 0)) rfl (fun _ => rfl) ?_
                  exact ⟨_, rfl, 0, rfl, by omega⟩
                · refine gx_2f (c := .ne) rfl (by first | decide | omega) (by first | decide | omega) hc8 rfl ?_
                  refine ex_go (S := (49, [(0, .inl x)], [.inl 1], t0, n, 0)) rfl (fun _ => rfl) rfl ?_
                  refine ex_go (S := (53, [(0, .inl x)], [.inl 1], t0, n, 0)) rfl (fun _ => rfl) rfl ?_
                  refine ex_ret (r := (some (.inl 1), t0, n, 0)) rfl (fun _ => rfl) ?_
                  exact ⟨_, rfl, 1, rfl, by omega⟩
theorem pk_rank (d n : Nat) {t0 : en_H} {x : Nat} (hx : x ≤ 255) : ∃ r, en_u (d + 2) 181 [.inl x] t0 n = some r ∧ ∃ b, r = (some (.inl b), t0, n, 0) ∧ (b < 4294967296) := by
  refine en_u_ex (d := d + 1) rfl ?_
  show en_ex _ _ _ _ (0, [(0, .inl x)], [], t0, n, 0) _
  refine ex_go (S := (1, [(0, .inl x)], [.inl x], t0, n, 0)) rfl (fun _ => rfl) rfl ?_
  obtain ⟨_, r1, b2, rfl, q3⟩ := pk_isLetter (d + 0) n (t0 := t0) (x := x) (by first | decide | omega)
  refine ex_stat rfl rfl rfl rfl rfl r1 (Nat.le_refl _) rfl ?_
  show en_ex _ _ _ _ (4, [(0, .inl x)], [.inl b2], t0, n, 0) _
  by_cases hc4 : b2 = 0
  · refine gx_1t (c := .eq) rfl (by first | decide | omega) hc4 rfl ?_
    refine ex_go (S := (15, [(0, .inl x)], [.inl x], t0, n, 0)) rfl (fun _ => rfl) rfl ?_
    refine ex_go (S := (17, [(0, .inl x)], [.inl 21, .inl x], t0, n, 0)) rfl (fun _ => rfl) rfl ?_
    refine gx_isubw rfl rfl (fun z5 z5b => ?_)
    refine ex_ret (r := (some (.inl z5), t0, n, 0)) rfl (fun _ => rfl) ?_
    exact ⟨_, rfl, z5, rfl, by omega⟩
  · refine gx_1f (c := .eq) rfl (by first | decide | omega) hc4 rfl ?_
    refine ex_go (S := (8, [(0, .inl x)], [.inl x], t0, n, 0)) rfl (fun _ => rfl) rfl ?_
    refine ex_go (S := (10, [(0, .inl x)], [.inl 96, .inl x], t0, n, 0)) rfl (fun _ => rfl) rfl ?_
    refine gx_isubw rfl rfl (fun z6 z6b => ?_)
    refine ex_go (S := (18, [(0, .inl x)], [.inl z6], t0, n, 0)) rfl (fun _ => rfl) rfl ?_
    refine ex_ret (r := (some (.inl z6), t0, n, 0)) rfl (fun _ => rfl) ?_
    exact ⟨_, rfl, z6, rfl, by omega⟩
theorem ct_let (d n : Nat) {t0 : en_H} {m nn fr cc : Nat} {Q : en_O → Prop} (g0 : ai_HG ah_G t0) (km : ai_hv t0 383 3 = some (.inl m)) (hm : m ≤ 1000) (hfr : fr < m) (kcc : ai_hv t0 384 fr = some (.inl cc)) (hcc : 97 ≤ cc ∧ cc ≤ 122) (hQ : ∀ k v cl, fr < k → k ≤ m → en_ld cl 0 = some (gx_r 383) → en_ld cl 1 = some (.inl nn) → en_ld cl 2 = some (.inl k) → en_ld cl 4 = some (.inl fr) → en_ld cl 5 = some (.inr (.inl v)) → en_ex none (en_u (d + 2)) (en_code 93) (fun _ => false) (129, cl, [], t0, n, 0) Q) : ∀ j k v cl, k + j = m → fr ≤ k → en_ld cl 0 = some (gx_r 383) → en_ld cl 1 = some (.inl nn) → en_ld cl 2 = some (.inl k) → en_ld cl 4 = some (.inl fr) → en_ld cl 5 = some (.inr (.inl v)) → en_ex none (en_u (d + 2)) (en_code 93) (fun _ => false) (70, cl, [], t0, n, 0) Q := by
  intro j
  induction j with
  | zero =>
    intro k v cl hk hfk h0 h1 h2 h4 h5
    refine gx_ld (i := 2) (d := 0) (v := .inl k) rfl (fun _ => rfl) h2 rfl rfl ?_
    refine gx_ld (i := 0) (d := 2) (v := gx_r 383) rfl (fun _ => rfl) h0 rfl rfl ?_
    refine gx_get rfl g0 rfl km rfl ?_
    refine gx_2t (c := .ge) rfl (by first | decide | omega) (by first | decide | omega) (show m ≤ k from by omega) rfl ?_
    exact hQ _ _ _ (by first | decide | omega) (by first | decide | omega) h0 h1 h2 h4 h5
  | succ j ih =>
    intro k v cl hk hfk h0 h1 h2 h4 h5
    refine gx_ld (i := 2) (d := 0) (v := .inl k) rfl (fun _ => rfl) h2 rfl rfl ?_
    refine gx_ld (i := 0) (d := 2) (v := gx_r 383) rfl (fun _ => rfl) h0 rfl rfl ?_
    refine gx_get rfl g0 rfl km rfl ?_
    refine gx_2f (c := .ge) rfl (by first | decide | omega) (by first | decide | omega) (show ¬ (m ≤ k) from by omega) rfl ?_
    refine gx_ld (i := 0) (d := 2) (v := gx_r 383) rfl (fun _ => rfl) h0 rfl rfl ?_
    refine gx_ref (c := 384) rfl g0 rfl rfl rfl rfl ?_
    refine gx_ld (i := 2) (d := 0) (v := .inl k) rfl (fun _ => rfl) h2 rfl rfl ?_
    obtain ⟨m1, k2, m1b⟩ := gx_tape g0 (i := k) (by first | decide | omega)
    have hxm1 : k = fr → m1 = cc := fun e => by
      rw [e] at k2
      have e2 := k2.symm.trans kcc
      cases e2
      rfl
    refine gx_ag (v := .inl m1) (cb := fun c => Nat.beq c 0) rfl (fun _ => rfl) g0 rfl rfl k2 (by first | decide | omega) rfl ?_
    obtain ⟨_, r3, b4, rfl, q5⟩ := pk_isLetter (d + 1) n (t0 := t0) (x := m1) (by first | decide | omega)
    refine ex_stat rfl rfl rfl rfl rfl r3 (Nat.le_refl _) rfl ?_
    show en_ex _ _ _ _ (87, cl, [.inl b4], t0, n, 0) _
    by_cases hc6 : b4 = 0
    · refine gx_1t (c := .eq) rfl (by first | decide | omega) hc6 rfl ?_
      exact hQ _ _ _ (by first | decide | omega) (by first | decide | omega) h0 h1 h2 h4 h5
    · refine gx_1f (c := .eq) rfl (by first | decide | omega) hc6 rfl ?_
      refine gx_ld (i := 2) (d := 0) (v := .inl k) rfl (fun _ => rfl) h2 rfl rfl ?_
      refine gx_ld (i := 4) (d := 0) (v := .inl fr) rfl (fun _ => rfl) h4 rfl rfl ?_
      refine gx_isub rfl (by first | decide | omega) (by first | decide | omega) rfl ?_
      refine ex_go (S := (96, cl, [.inl 8, .inl (k - fr)], t0, n, 0)) rfl (fun _ => rfl) rfl ?_
      by_cases hc7 : 8 ≤ k - fr
      · refine gx_2t (c := .ge) rfl (by first | decide | omega) (by first | decide | omega) hc7 rfl ?_
        refine gx_ld (i := 5) (d := 1) (v := .inr (.inl v)) rfl (fun _ => rfl) h5 rfl rfl ?_
        refine gx_sto (i := 5) (d := 1) rfl (fun _ => rfl) rfl rfl (fun l8 hl8 ml8 => ?_)
        have l8_0 : en_ld l8 0 = some (gx_r 383) := ml8 0 _ h0 rfl
        have l8_1 : en_ld l8 1 = some (.inl nn) := ml8 1 _ h1 rfl
        have l8_2 : en_ld l8 2 = some (.inl k) := ml8 2 _ h2 rfl
        have l8_4 : en_ld l8 4 = some (.inl fr) := ml8 4 _ h4 rfl
        refine gx_incS (i := 2) (a := k) (x := 1) rfl (fun _ => rfl) l8_2 (by first | decide | omega) rfl (fun l9 hl9 ml9 => ?_)
        have l9_0 : en_ld l9 0 = some (gx_r 383) := ml9 0 _ l8_0 rfl
        have l9_1 : en_ld l9 1 = some (.inl nn) := ml9 1 _ l8_1 rfl
        have l9_4 : en_ld l9 4 = some (.inl fr) := ml9 4 _ l8_4 rfl
        have l9_5 : en_ld l9 5 = some (.inr (.inl v)) := ml9 5 _ hl8 rfl
        refine ex_go (S := (70, l9, [], t0, n, 0)) rfl (fun _ => rfl) rfl ?_
        exact ih _ _ _ (by first | decide | omega) (by first | decide | omega) l9_0 l9_1 hl9 l9_4 l9_5
      · refine gx_2f (c := .ge) rfl (by first | decide | omega) (by first | decide | omega) hc7 rfl ?_
        refine ex_go (S := (102, cl, [.inr (.inl 37)], t0, n, 0)) rfl (fun _ => rfl) rfl ?_
        refine gx_ld (i := 5) (d := 1) (v := .inr (.inl v)) rfl (fun _ => rfl) h5 rfl rfl ?_
        refine ex_go (S := (105, cl, [.inr (.inl ((lN 37 * lN v).toBitVec.toNat))], t0, n, 0)) rfl (fun _ => rfl) rfl ?_
        generalize (lN 37 * lN v).toBitVec.toNat = z10
        refine gx_ld (i := 0) (d := 2) (v := gx_r 383) rfl (fun _ => rfl) h0 rfl rfl ?_
        refine gx_ref (c := 384) rfl g0 rfl rfl rfl rfl ?_
        refine gx_ld (i := 2) (d := 0) (v := .inl k) rfl (fun _ => rfl) h2 rfl rfl ?_
        refine gx_ag (v := .inl m1) (cb := fun c => Nat.beq c 0) rfl (fun _ => rfl) g0 rfl rfl k2 (by first | decide | omega) rfl ?_
        obtain ⟨_, r11, b12, rfl, q13⟩ := pk_rank (d + 0) n (t0 := t0) (x := m1) (by first | decide | omega)
        refine ex_stat rfl rfl rfl rfl rfl r11 (Nat.le_refl _) rfl ?_
        show en_ex _ _ _ _ (114, cl, [.inl b12, .inr (.inl z10)], t0, n, 0) _
        refine ex_go (S := (115, cl, [.inr (.inl ((nI b12).toInt64.toBitVec.toNat)), .inr (.inl z10)], t0, n, 0)) rfl (fun _ => rfl) rfl ?_
        refine ex_go (S := (116, cl, [.inr (.inl ((lN z10 + lN ((nI b12).toInt64.toBitVec.toNat)).toBitVec.toNat))], t0, n, 0)) rfl (fun _ => rfl) rfl ?_
        generalize (lN z10 + lN ((nI b12).toInt64.toBitVec.toNat)).toBitVec.toNat = z14
        refine ex_go (S := (121, cl, [.inr (.inl z14)], t0, n, 0)) rfl (fun _ => rfl) rfl ?_
        refine gx_sto (i := 5) (d := 1) rfl (fun _ => rfl) rfl rfl (fun l15 hl15 ml15 => ?_)
        have l15_0 : en_ld l15 0 = some (gx_r 383) := ml15 0 _ h0 rfl
        have l15_1 : en_ld l15 1 = some (.inl nn) := ml15 1 _ h1 rfl
        have l15_2 : en_ld l15 2 = some (.inl k) := ml15 2 _ h2 rfl
        have l15_4 : en_ld l15 4 = some (.inl fr) := ml15 4 _ h4 rfl
        refine gx_incS (i := 2) (a := k) (x := 1) rfl (fun _ => rfl) l15_2 (by first | decide | omega) rfl (fun l16 hl16 ml16 => ?_)
        have l16_0 : en_ld l16 0 = some (gx_r 383) := ml16 0 _ l15_0 rfl
        have l16_1 : en_ld l16 1 = some (.inl nn) := ml16 1 _ l15_1 rfl
        have l16_4 : en_ld l16 4 = some (.inl fr) := ml16 4 _ l15_4 rfl
        have l16_5 : en_ld l16 5 = some (.inr (.inl z14)) := ml16 5 _ hl15 rfl
        refine ex_go (S := (70, l16, [], t0, n, 0)) rfl (fun _ => rfl) rfl ?_
        exact ih _ _ _ (by first | decide | omega) (by first | decide | omega) l16_0 l16_1 hl16 l16_4 l16_5
theorem ct_dig (d n : Nat) {t0 : en_H} {m nn fr cc : Nat} {Q : en_O → Prop} (g0 : ai_HG ah_G t0) (km : ai_hv t0 383 3 = some (.inl m)) (hm : m ≤ 1000) (hfr : fr < m) (kcc : ai_hv t0 384 fr = some (.inl cc)) (hcc : 48 ≤ cc ∧ cc ≤ 57) (hQ : ∀ k v cl, fr < k → k ≤ m → en_ld cl 0 = some (gx_r 383) → en_ld cl 1 = some (.inl nn) → en_ld cl 2 = some (.inl k) → en_ld cl 4 = some (.inl fr) → en_ld cl 5 = some (.inr (.inl v)) → en_ex none (en_u (d + 2)) (en_code 93) (fun _ => false) (218, cl, [], t0, n, 0) Q) : ∀ j k v cl, k + j = m → fr ≤ k → en_ld cl 0 = some (gx_r 383) → en_ld cl 1 = some (.inl nn) → en_ld cl 2 = some (.inl k) → en_ld cl 4 = some (.inl fr) → en_ld cl 5 = some (.inr (.inl v)) → en_ex none (en_u (d + 2)) (en_code 93) (fun _ => false) (159, cl, [], t0, n, 0) Q := by
  intro j
  induction j with
  | zero =>
    intro k v cl hk hfk h0 h1 h2 h4 h5
    refine gx_ld (i := 2) (d := 0) (v := .inl k) rfl (fun _ => rfl) h2 rfl rfl ?_
    refine gx_ld (i := 0) (d := 2) (v := gx_r 383) rfl (fun _ => rfl) h0 rfl rfl ?_
    refine gx_get rfl g0 rfl km rfl ?_
    refine gx_2t (c := .ge) rfl (by first | decide | omega) (by first | decide | omega) (show m ≤ k from by omega) rfl ?_
    exact hQ _ _ _ (by first | decide | omega) (by first | decide | omega) h0 h1 h2 h4 h5
  | succ j ih =>
    intro k v cl hk hfk h0 h1 h2 h4 h5
    refine gx_ld (i := 2) (d := 0) (v := .inl k) rfl (fun _ => rfl) h2 rfl rfl ?_
    refine gx_ld (i := 0) (d := 2) (v := gx_r 383) rfl (fun _ => rfl) h0 rfl rfl ?_
    refine gx_get rfl g0 rfl km rfl ?_
    refine gx_2f (c := .ge) rfl (by first | decide | omega) (by first | decide | omega) (show ¬ (m ≤ k) from by omega) rfl ?_
    refine gx_ld (i := 0) (d := 2) (v := gx_r 383) rfl (fun _ => rfl) h0 rfl rfl ?_
    refine gx_ref (c := 384) rfl g0 rfl rfl rfl rfl ?_
    refine gx_ld (i := 2) (d := 0) (v := .inl k) rfl (fun _ => rfl) h2 rfl rfl ?_
    obtain ⟨m1, k2, m1b⟩ := gx_tape g0 (i := k) (by first | decide | omega)
    have hxm1 : k = fr → m1 = cc := fun e => by
      rw [e] at k2
      have e2 := k2.symm.trans kcc
      cases e2
      rfl
    refine gx_ag (v := .inl m1) (cb := fun c => Nat.beq c 0) rfl (fun _ => rfl) g0 rfl rfl k2 (by first | decide | omega) rfl ?_
    obtain ⟨_, r3, b4, rfl, q5⟩ := pk_isDigit (d + 1) n (t0 := t0) (x := m1) (by first | decide | omega)
    refine ex_stat rfl rfl rfl rfl rfl r3 (Nat.le_refl _) rfl ?_
    show en_ex _ _ _ _ (176, cl, [.inl b4], t0, n, 0) _
    by_cases hc6 : b4 = 0
    · refine gx_1t (c := .eq) rfl (by first | decide | omega) hc6 rfl ?_
      exact hQ _ _ _ (by first | decide | omega) (by first | decide | omega) h0 h1 h2 h4 h5
    · refine gx_1f (c := .eq) rfl (by first | decide | omega) hc6 rfl ?_
      refine gx_ld (i := 2) (d := 0) (v := .inl k) rfl (fun _ => rfl) h2 rfl rfl ?_
      refine gx_ld (i := 4) (d := 0) (v := .inl fr) rfl (fun _ => rfl) h4 rfl rfl ?_
      refine gx_isub rfl (by first | decide | omega) (by first | decide | omega) rfl ?_
      refine ex_go (S := (184, cl, [.inl 4, .inl (k - fr)], t0, n, 0)) rfl (fun _ => rfl) rfl ?_
      by_cases hc7 : 4 ≤ k - fr
      · refine gx_2t (c := .ge) rfl (by first | decide | omega) (by first | decide | omega) hc7 rfl ?_
        refine gx_ld (i := 5) (d := 1) (v := .inr (.inl v)) rfl (fun _ => rfl) h5 rfl rfl ?_
        refine gx_sto (i := 5) (d := 1) rfl (fun _ => rfl) rfl rfl (fun l8 hl8 ml8 => ?_)
        have l8_0 : en_ld l8 0 = some (gx_r 383) := ml8 0 _ h0 rfl
        have l8_1 : en_ld l8 1 = some (.inl nn) := ml8 1 _ h1 rfl
        have l8_2 : en_ld l8 2 = some (.inl k) := ml8 2 _ h2 rfl
        have l8_4 : en_ld l8 4 = some (.inl fr) := ml8 4 _ h4 rfl
        refine gx_incS (i := 2) (a := k) (x := 1) rfl (fun _ => rfl) l8_2 (by first | decide | omega) rfl (fun l9 hl9 ml9 => ?_)
        have l9_0 : en_ld l9 0 = some (gx_r 383) := ml9 0 _ l8_0 rfl
        have l9_1 : en_ld l9 1 = some (.inl nn) := ml9 1 _ l8_1 rfl
        have l9_4 : en_ld l9 4 = some (.inl fr) := ml9 4 _ l8_4 rfl
        have l9_5 : en_ld l9 5 = some (.inr (.inl v)) := ml9 5 _ hl8 rfl
        refine ex_go (S := (159, l9, [], t0, n, 0)) rfl (fun _ => rfl) rfl ?_
        exact ih _ _ _ (by first | decide | omega) (by first | decide | omega) l9_0 l9_1 hl9 l9_4 l9_5
      · refine gx_2f (c := .ge) rfl (by first | decide | omega) (by first | decide | omega) hc7 rfl ?_
        refine ex_go (S := (190, cl, [.inr (.inl 10)], t0, n, 0)) rfl (fun _ => rfl) rfl ?_
        refine gx_ld (i := 5) (d := 1) (v := .inr (.inl v)) rfl (fun _ => rfl) h5 rfl rfl ?_
        refine ex_go (S := (193, cl, [.inr (.inl ((lN 10 * lN v).toBitVec.toNat))], t0, n, 0)) rfl (fun _ => rfl) rfl ?_
        generalize (lN 10 * lN v).toBitVec.toNat = z10
        refine gx_ld (i := 0) (d := 2) (v := gx_r 383) rfl (fun _ => rfl) h0 rfl rfl ?_
        refine gx_ref (c := 384) rfl g0 rfl rfl rfl rfl ?_
        refine gx_ld (i := 2) (d := 0) (v := .inl k) rfl (fun _ => rfl) h2 rfl rfl ?_
        refine gx_ag (v := .inl m1) (cb := fun c => Nat.beq c 0) rfl (fun _ => rfl) g0 rfl rfl k2 (by first | decide | omega) rfl ?_
        refine ex_go (S := (200, cl, [.inr (.inl ((nI m1).toInt64.toBitVec.toNat)), .inr (.inl z10)], t0, n, 0)) rfl (fun _ => rfl) rfl ?_
        refine ex_go (S := (201, cl, [.inr (.inl ((lN z10 + lN ((nI m1).toInt64.toBitVec.toNat)).toBitVec.toNat))], t0, n, 0)) rfl (fun _ => rfl) rfl ?_
        generalize (lN z10 + lN ((nI m1).toInt64.toBitVec.toNat)).toBitVec.toNat = z11
        refine ex_go (S := (204, cl, [.inr (.inl 48), .inr (.inl z11)], t0, n, 0)) rfl (fun _ => rfl) rfl ?_
        refine ex_go (S := (205, cl, [.inr (.inl ((lN z11 - lN 48).toBitVec.toNat))], t0, n, 0)) rfl (fun _ => rfl) rfl ?_
        generalize (lN z11 - lN 48).toBitVec.toNat = z12
        refine ex_go (S := (210, cl, [.inr (.inl z12)], t0, n, 0)) rfl (fun _ => rfl) rfl ?_
        refine gx_sto (i := 5) (d := 1) rfl (fun _ => rfl) rfl rfl (fun l13 hl13 ml13 => ?_)
        have l13_0 : en_ld l13 0 = some (gx_r 383) := ml13 0 _ h0 rfl
        have l13_1 : en_ld l13 1 = some (.inl nn) := ml13 1 _ h1 rfl
        have l13_2 : en_ld l13 2 = some (.inl k) := ml13 2 _ h2 rfl
        have l13_4 : en_ld l13 4 = some (.inl fr) := ml13 4 _ h4 rfl
        refine gx_incS (i := 2) (a := k) (x := 1) rfl (fun _ => rfl) l13_2 (by first | decide | omega) rfl (fun l14 hl14 ml14 => ?_)
        have l14_0 : en_ld l14 0 = some (gx_r 383) := ml14 0 _ l13_0 rfl
        have l14_1 : en_ld l14 1 = some (.inl nn) := ml14 1 _ l13_1 rfl
        have l14_4 : en_ld l14 4 = some (.inl fr) := ml14 4 _ l13_4 rfl
        have l14_5 : en_ld l14 5 = some (.inr (.inl z12)) := ml14 5 _ hl13 rfl
        refine ex_go (S := (159, l14, [], t0, n, 0)) rfl (fun _ => rfl) rfl ?_
        exact ih _ _ _ (by first | decide | omega) (by first | decide | omega) l14_0 l14_1 hl14 l14_4 l14_5
theorem ct_out (d n : Nat) {tb : en_H} {m : Nat} (hm : m ≤ 1000) : ∀ j k nn cl t0, m ≤ k + j → k ≤ m → nn ≤ k → ai_HG ah_G t0 → ai_hv t0 383 3 = some (.inl m) → ai_hv t0 383 2 = some (.inl 0) → (∀ c i, ¬ ((c = 383 ∧ (i = 2 ∨ i = 3 ∨ i = 7 ∨ i = 8)) ∨ c = 385 ∨ c = 386 ∨ c = 387) → ai_hv t0 c i = ai_hv tb c i) → en_ld cl 0 = some (gx_r 383) → en_ld cl 1 = some (.inl nn) → en_ld cl 2 = some (.inl k) → en_ex none (en_u (d + 2)) (en_code 93) (fun _ => false) (17, cl, [], t0, n, 0) (fun o => ∃ r, o = .inl r ∧ ∃ t', r = (none, t', n, 0) ∧ px_S t' 0 0 ∧ ai_hv t' 383 2 = some (.inl 0) ∧ (∀ c i, ¬ ((c = 383 ∧ (i = 2 ∨ i = 3 ∨ i = 7 ∨ i = 8)) ∨ c = 385 ∨ c = 386 ∨ c = 387) → ai_hv t' c i = ai_hv tb c i)) := by
  intro j
  induction j with
  | zero =>
    intro k nn cl t0 hj hk hn g0 km kt e0 h0 h1 h2
    refine gx_ld (i := 2) (d := 0) (v := .inl k) rfl (fun _ => rfl) h2 rfl rfl ?_
    refine gx_ld (i := 0) (d := 2) (v := gx_r 383) rfl (fun _ => rfl) h0 rfl rfl ?_
    refine gx_get rfl g0 rfl km rfl ?_
    refine gx_2t (c := .ge) rfl (by first | decide | omega) (by first | decide | omega) (show m ≤ k from by omega) rfl ?_
    refine gx_ld (i := 0) (d := 2) (v := gx_r 383) rfl (fun _ => rfl) h0 rfl rfl ?_
    refine gx_ref (c := 385) rfl g0 rfl rfl rfl rfl ?_
    refine gx_ld (i := 1) (d := 0) (v := .inl nn) rfl (fun _ => rfl) h1 rfl rfl ?_
    refine ex_go (S := (285, cl, [.inl 0, .inl nn, gx_r 385], t0, n, 0)) rfl (fun _ => rfl) rfl ?_
    obtain ⟨p2, hrp2, hvp2⟩ := gx_sort0 nn (by first | decide | omega)
    refine gx_ap rfl (fun _ => rfl) g0 rfl rfl rfl (show nn < 1002 from by omega) hrp2 hvp2 rfl (fun t101 g101 k101 e101 => ?_)
    have k3 : ai_hv t101 383 3 = some (.inl m) := (e101 383 3 (by first | decide | omega)).trans km
    have k4 : ai_hv t101 383 2 = some (.inl 0) := (e101 383 2 (by first | decide | omega)).trans kt
    refine gx_ld (i := 0) (d := 2) (v := gx_r 383) rfl (fun _ => rfl) h0 rfl rfl ?_
    refine gx_ref (c := 386) rfl g101 rfl rfl rfl rfl ?_
    refine gx_ld (i := 1) (d := 0) (v := .inl nn) rfl (fun _ => rfl) h1 rfl rfl ?_
    refine gx_ld (i := 0) (d := 2) (v := gx_r 383) rfl (fun _ => rfl) h0 rfl rfl ?_
    refine gx_get rfl g101 rfl k3 rfl ?_
    refine gx_ap rfl (fun _ => rfl) g101 rfl rfl rfl (show nn < 1002 from by omega) (gx_run1 (show nn < 1002 from by omega)) (ai_in_h (by first | decide | omega) (by first | decide | omega) (by first | decide | omega)) rfl (fun t105 g105 k105 e105 => ?_)
    have k6 : ai_hv t105 383 3 = some (.inl m) := (e105 383 3 (by first | decide | omega)).trans k3
    have k7 : ai_hv t105 383 2 = some (.inl 0) := (e105 383 2 (by first | decide | omega)).trans k4
    have k8 : ai_hv t105 385 nn = some (.inl 0) := (e105 385 nn (by first | decide | omega)).trans k101
    refine gx_ld (i := 0) (d := 2) (v := gx_r 383) rfl (fun _ => rfl) h0 rfl rfl ?_
    refine ex_go (S := (298, cl, [.inl 0, gx_r 383], t105, n, 0)) rfl (fun _ => rfl) rfl ?_
    refine gx_put rfl g105 rfl rfl (ai_in_h (by first | decide | omega) (by first | decide | omega) (by first | decide | omega)) rfl (fun t109 g109 k109 e109 => ?_)
    have k10 : ai_hv t109 383 3 = some (.inl m) := (e109 383 3 (by first | decide | omega)).trans k6
    have k11 : ai_hv t109 383 2 = some (.inl 0) := (e109 383 2 (by first | decide | omega)).trans k7
    have k12 : ai_hv t109 385 nn = some (.inl 0) := (e109 385 nn (by first | decide | omega)).trans k8
    have k13 : ai_hv t109 386 nn = some (.inl m) := (e109 386 nn (by first | decide | omega)).trans k105
    refine gx_ld (i := 0) (d := 2) (v := gx_r 383) rfl (fun _ => rfl) h0 rfl rfl ?_
    refine ex_go (S := (303, cl, [.inl 0, gx_r 383], t109, n, 0)) rfl (fun _ => rfl) rfl ?_
    refine gx_put rfl g109 rfl rfl (ai_in_h (by first | decide | omega) (by first | decide | omega) (by first | decide | omega)) rfl (fun t114 g114 k114 e114 => ?_)
    have k15 : ai_hv t114 383 3 = some (.inl m) := (e114 383 3 (by first | decide | omega)).trans k10
    have k16 : ai_hv t114 383 2 = some (.inl 0) := (e114 383 2 (by first | decide | omega)).trans k11
    have k17 : ai_hv t114 385 nn = some (.inl 0) := (e114 385 nn (by first | decide | omega)).trans k12
    have k18 : ai_hv t114 386 nn = some (.inl m) := (e114 386 nn (by first | decide | omega)).trans k13
    have k19 : ai_hv t114 383 7 = some (.inl 0) := (e114 383 7 (by first | decide | omega)).trans k109
    refine ex_ret (r := (none, t114, n, 0)) rfl (fun _ => rfl) ?_
    exact ⟨_, rfl, t114, rfl, ⟨g114, k19, k114, by omega, by omega⟩, k16, (fun c i h => (e114 c i (by first | decide | omega)).trans ((e109 c i (by first | decide | omega)).trans ((e105 c i (by first | decide | omega)).trans ((e101 c i (by first | decide | omega)).trans (e0 c i h)))))⟩
  | succ j ih =>
    intro k nn cl t0 hj hk hn g0 km kt e0 h0 h1 h2
    refine gx_ld (i := 2) (d := 0) (v := .inl k) rfl (fun _ => rfl) h2 rfl rfl ?_
    refine gx_ld (i := 0) (d := 2) (v := gx_r 383) rfl (fun _ => rfl) h0 rfl rfl ?_
    refine gx_get rfl g0 rfl km rfl ?_
    by_cases hc1 : m ≤ k
    · refine gx_2t (c := .ge) rfl (by first | decide | omega) (by first | decide | omega) hc1 rfl ?_
      refine gx_ld (i := 0) (d := 2) (v := gx_r 383) rfl (fun _ => rfl) h0 rfl rfl ?_
      refine gx_ref (c := 385) rfl g0 rfl rfl rfl rfl ?_
      refine gx_ld (i := 1) (d := 0) (v := .inl nn) rfl (fun _ => rfl) h1 rfl rfl ?_
      refine ex_go (S := (285, cl, [.inl 0, .inl nn, gx_r 385], t0, n, 0)) rfl (fun _ => rfl) rfl ?_
      obtain ⟨p3, hrp3, hvp3⟩ := gx_sort0 nn (by first | decide | omega)
      refine gx_ap rfl (fun _ => rfl) g0 rfl rfl rfl (show nn < 1002 from by omega) hrp3 hvp3 rfl (fun t102 g102 k102 e102 => ?_)
      have k4 : ai_hv t102 383 3 = some (.inl m) := (e102 383 3 (by first | decide | omega)).trans km
      have k5 : ai_hv t102 383 2 = some (.inl 0) := (e102 383 2 (by first | decide | omega)).trans kt
      refine gx_ld (i := 0) (d := 2) (v := gx_r 383) rfl (fun _ => rfl) h0 rfl rfl ?_
      refine gx_ref (c := 386) rfl g102 rfl rfl rfl rfl ?_
      refine gx_ld (i := 1) (d := 0) (v := .inl nn) rfl (fun _ => rfl) h1 rfl rfl ?_
      refine gx_ld (i := 0) (d := 2) (v := gx_r 383) rfl (fun _ => rfl) h0 rfl rfl ?_
      refine gx_get rfl g102 rfl k4 rfl ?_
      refine gx_ap rfl (fun _ => rfl) g102 rfl rfl rfl (show nn < 1002 from by omega) (gx_run1 (show nn < 1002 from by omega)) (ai_in_h (by first | decide | omega) (by first | decide | omega) (by first | decide | omega)) rfl (fun t106 g106 k106 e106 => ?_)
      have k7 : ai_hv t106 383 3 = some (.inl m) := (e106 383 3 (by first | decide | omega)).trans k4
      have k8 : ai_hv t106 383 2 = some (.inl 0) := (e106 383 2 (by first | decide | omega)).trans k5
      have k9 : ai_hv t106 385 nn = some (.inl 0) := (e106 385 nn (by first | decide | omega)).trans k102
      refine gx_ld (i := 0) (d := 2) (v := gx_r 383) rfl (fun _ => rfl) h0 rfl rfl ?_
      refine ex_go (S := (298, cl, [.inl 0, gx_r 383], t106, n, 0)) rfl (fun _ => rfl) rfl ?_
      refine gx_put rfl g106 rfl rfl (ai_in_h (by first | decide | omega) (by first | decide | omega) (by first | decide | omega)) rfl (fun t110 g110 k110 e110 => ?_)
      have k11 : ai_hv t110 383 3 = some (.inl m) := (e110 383 3 (by first | decide | omega)).trans k7
      have k12 : ai_hv t110 383 2 = some (.inl 0) := (e110 383 2 (by first | decide | omega)).trans k8
      have k13 : ai_hv t110 385 nn = some (.inl 0) := (e110 385 nn (by first | decide | omega)).trans k9
      have k14 : ai_hv t110 386 nn = some (.inl m) := (e110 386 nn (by first | decide | omega)).trans k106
      refine gx_ld (i := 0) (d := 2) (v := gx_r 383) rfl (fun _ => rfl) h0 rfl rfl ?_
      refine ex_go (S := (303, cl, [.inl 0, gx_r 383], t110, n, 0)) rfl (fun _ => rfl) rfl ?_
      refine gx_put rfl g110 rfl rfl (ai_in_h (by first | decide | omega) (by first | decide | omega) (by first | decide | omega)) rfl (fun t115 g115 k115 e115 => ?_)
      have k16 : ai_hv t115 383 3 = some (.inl m) := (e115 383 3 (by first | decide | omega)).trans k11
      have k17 : ai_hv t115 383 2 = some (.inl 0) := (e115 383 2 (by first | decide | omega)).trans k12
      have k18 : ai_hv t115 385 nn = some (.inl 0) := (e115 385 nn (by first | decide | omega)).trans k13
      have k19 : ai_hv t115 386 nn = some (.inl m) := (e115 386 nn (by first | decide | omega)).trans k14
      have k20 : ai_hv t115 383 7 = some (.inl 0) := (e115 383 7 (by first | decide | omega)).trans k110
      refine ex_ret (r := (none, t115, n, 0)) rfl (fun _ => rfl) ?_
      exact ⟨_, rfl, t115, rfl, ⟨g115, k20, k115, by omega, by omega⟩, k17, (fun c i h => (e115 c i (by first | decide | omega)).trans ((e110 c i (by first | decide | omega)).trans ((e106 c i (by first | decide | omega)).trans ((e102 c i (by first | decide | omega)).trans (e0 c i h)))))⟩
    · refine gx_2f (c := .ge) rfl (by first | decide | omega) (by first | decide | omega) hc1 rfl ?_
      refine gx_ld (i := 0) (d := 2) (v := gx_r 383) rfl (fun _ => rfl) h0 rfl rfl ?_
      refine gx_ref (c := 384) rfl g0 rfl rfl rfl rfl ?_
      refine gx_ld (i := 2) (d := 0) (v := .inl k) rfl (fun _ => rfl) h2 rfl rfl ?_
      obtain ⟨m21, k22, m21b⟩ := gx_tape g0 (i := k) (by first | decide | omega)
      refine gx_ag (v := .inl m21) (cb := fun c => Nat.beq c 0) rfl (fun _ => rfl) g0 rfl rfl k22 (by first | decide | omega) rfl ?_
      refine gx_sto (i := 3) (d := 0) rfl (fun _ => rfl) rfl rfl (fun l23 hl23 ml23 => ?_)
      have l23_0 : en_ld l23 0 = some (gx_r 383) := ml23 0 _ h0 rfl
      have l23_1 : en_ld l23 1 = some (.inl nn) := ml23 1 _ h1 rfl
      have l23_2 : en_ld l23 2 = some (.inl k) := ml23 2 _ h2 rfl
      refine gx_ld (i := 3) (d := 0) (v := .inl m21) rfl (fun _ => rfl) hl23 rfl rfl ?_
      refine ex_go (S := (35, l23, [.inl 10, .inl m21], t0, n, 0)) rfl (fun _ => rfl) rfl ?_
      by_cases hc24 : m21 = 10
      · refine gx_2t (c := .eq) rfl (by first | decide | omega) (by first | decide | omega) hc24 rfl ?_
        refine gx_incS (i := 2) (a := k) (x := 1) rfl (fun _ => rfl) l23_2 (by first | decide | omega) rfl (fun l25 hl25 ml25 => ?_)
        have l25_0 : en_ld l25 0 = some (gx_r 383) := ml25 0 _ l23_0 rfl
        have l25_1 : en_ld l25 1 = some (.inl nn) := ml25 1 _ l23_1 rfl
        have l25_3 : en_ld l25 3 = some (.inl m21) := ml25 3 _ hl23 rfl
        refine ex_go (S := (17, l25, [], t0, n, 0)) rfl (fun _ => rfl) rfl ?_
        exact ih _ _ _ t0 (by first | decide | omega) (by first | decide | omega) (by first | decide | omega) g0 km kt (fun c i h => e0 c i h) l25_0 l25_1 hl25
      · refine gx_2f (c := .eq) rfl (by first | decide | omega) (by first | decide | omega) hc24 rfl ?_
        refine gx_ld (i := 3) (d := 0) (v := .inl m21) rfl (fun _ => rfl) hl23 rfl rfl ?_
        refine ex_go (S := (41, l23, [.inl 32, .inl m21], t0, n, 0)) rfl (fun _ => rfl) rfl ?_
        by_cases hc26 : m21 ≠ 32
        · refine gx_2t (c := .ne) rfl (by first | decide | omega) (by first | decide | omega) hc26 rfl ?_
          refine gx_ld (i := 2) (d := 0) (v := .inl k) rfl (fun _ => rfl) l23_2 rfl rfl ?_
          refine gx_sto (i := 4) (d := 0) rfl (fun _ => rfl) rfl rfl (fun l27 hl27 ml27 => ?_)
          have l27_0 : en_ld l27 0 = some (gx_r 383) := ml27 0 _ l23_0 rfl
          have l27_1 : en_ld l27 1 = some (.inl nn) := ml27 1 _ l23_1 rfl
          have l27_2 : en_ld l27 2 = some (.inl k) := ml27 2 _ l23_2 rfl
          have l27_3 : en_ld l27 3 = some (.inl m21) := ml27 3 _ hl23 rfl
          refine ex_go (S := (54, l27, [.inr (.inl 0)], t0, n, 0)) rfl (fun _ => rfl) rfl ?_
          refine gx_sto (i := 5) (d := 1) rfl (fun _ => rfl) rfl rfl (fun l28 hl28 ml28 => ?_)
          have l28_0 : en_ld l28 0 = some (gx_r 383) := ml28 0 _ l27_0 rfl
          have l28_1 : en_ld l28 1 = some (.inl nn) := ml28 1 _ l27_1 rfl
          have l28_2 : en_ld l28 2 = some (.inl k) := ml28 2 _ l27_2 rfl
          have l28_3 : en_ld l28 3 = some (.inl m21) := ml28 3 _ l27_3 rfl
          have l28_4 : en_ld l28 4 = some (.inl k) := ml28 4 _ hl27 rfl
          refine gx_ld (i := 0) (d := 2) (v := gx_r 383) rfl (fun _ => rfl) l28_0 rfl rfl ?_
          refine gx_ref (c := 386) rfl g0 rfl rfl rfl rfl ?_
          refine gx_ld (i := 1) (d := 0) (v := .inl nn) rfl (fun _ => rfl) l28_1 rfl rfl ?_
          refine gx_ld (i := 2) (d := 0) (v := .inl k) rfl (fun _ => rfl) l28_2 rfl rfl ?_
          refine gx_ap rfl (fun _ => rfl) g0 rfl rfl rfl (show nn < 1002 from by omega) (gx_run1 (show nn < 1002 from by omega)) (ai_in_h (by first | decide | omega) (by first | decide | omega) (by first | decide | omega)) rfl (fun t129 g129 k129 e129 => ?_)
          have k30 : ai_hv t129 383 3 = some (.inl m) := (e129 383 3 (by first | decide | omega)).trans km
          have k31 : ai_hv t129 383 2 = some (.inl 0) := (e129 383 2 (by first | decide | omega)).trans kt
          have k32 : ai_hv t129 384 k = some (.inl m21) := (e129 384 k (by first | decide | omega)).trans k22
          refine gx_ld (i := 3) (d := 0) (v := .inl m21) rfl (fun _ => rfl) l28_3 rfl rfl ?_
          obtain ⟨_, r33, b34, rfl, q35⟩ := pk_isLetter (d + 1) n (t0 := t129) (x := m21) (by first | decide | omega)
          refine ex_stat rfl rfl rfl rfl rfl r33 (Nat.le_refl _) rfl ?_
          show en_ex _ _ _ _ (67, l28, [.inl b34], t129, n, 0) _
          by_cases hc36 : b34 = 0
          · refine gx_1t (c := .eq) rfl (by first | decide | omega) hc36 rfl ?_
            refine gx_ld (i := 3) (d := 0) (v := .inl m21) rfl (fun _ => rfl) l28_3 rfl rfl ?_
            obtain ⟨_, r37, b38, rfl, q39⟩ := pk_isDigit (d + 1) n (t0 := t129) (x := m21) (by first | decide | omega)
            refine ex_stat rfl rfl rfl rfl rfl r37 (Nat.le_refl _) rfl ?_
            show en_ex _ _ _ _ (156, l28, [.inl b38], t129, n, 0) _
            by_cases hc40 : b38 = 0
            · refine gx_1t (c := .eq) rfl (by first | decide | omega) hc40 rfl ?_
              refine gx_ld (i := 3) (d := 0) (v := .inl m21) rfl (fun _ => rfl) l28_3 rfl rfl ?_
              refine ex_go (S := (242, l28, [.inr (.inl ((nI m21).toInt64.toBitVec.toNat))], t129, n, 0)) rfl (fun _ => rfl) rfl ?_
              refine gx_sto (i := 5) (d := 1) rfl (fun _ => rfl) rfl rfl (fun l41 hl41 ml41 => ?_)
              have l41_0 : en_ld l41 0 = some (gx_r 383) := ml41 0 _ l28_0 rfl
              have l41_1 : en_ld l41 1 = some (.inl nn) := ml41 1 _ l28_1 rfl
              have l41_2 : en_ld l41 2 = some (.inl k) := ml41 2 _ l28_2 rfl
              have l41_3 : en_ld l41 3 = some (.inl m21) := ml41 3 _ l28_3 rfl
              have l41_4 : en_ld l41 4 = some (.inl k) := ml41 4 _ l28_4 rfl
              refine gx_ld (i := 0) (d := 2) (v := gx_r 383) rfl (fun _ => rfl) l41_0 rfl rfl ?_
              refine gx_ref (c := 385) rfl g129 rfl rfl rfl rfl ?_
              refine gx_ld (i := 1) (d := 0) (v := .inl nn) rfl (fun _ => rfl) l41_1 rfl rfl ?_
              refine gx_ld (i := 3) (d := 0) (v := .inl m21) rfl (fun _ => rfl) l41_3 rfl rfl ?_
              obtain ⟨_, r42, b43, rfl, q44⟩ := pk_isSignOf (d + 1) n (t0 := t129) (x := m21) (by first | decide | omega)
              refine ex_stat rfl rfl rfl rfl rfl r42 (Nat.le_refl _) rfl ?_
              show en_ex _ _ _ _ (253, l41, [.inl b43, .inl nn, gx_r 385], t129, n, 0) _
              by_cases hc45 : b43 = 0
              · refine gx_1t (c := .eq) rfl (by first | decide | omega) hc45 rfl ?_
                refine ex_go (S := (261, l41, [.inl 4, .inl nn, gx_r 385], t129, n, 0)) rfl (fun _ => rfl) rfl ?_
                refine gx_ap rfl (fun _ => rfl) g129 rfl rfl rfl (show nn < 1002 from by omega) (gx_run1 (show nn < 1000 from by omega)) (ai_in_h (by first | decide | omega) (by first | decide | omega) (by first | decide | omega)) rfl (fun t146 g146 k146 e146 => ?_)
                have k47 : ai_hv t146 383 3 = some (.inl m) := (e146 383 3 (by first | decide | omega)).trans k30
                have k48 : ai_hv t146 383 2 = some (.inl 0) := (e146 383 2 (by first | decide | omega)).trans k31
                have k49 : ai_hv t146 384 k = some (.inl m21) := (e146 384 k (by first | decide | omega)).trans k32
                have k50 : ai_hv t146 386 nn = some (.inl k) := (e146 386 nn (by first | decide | omega)).trans k129
                refine gx_incS (i := 2) (a := k) (x := 1) rfl (fun _ => rfl) l41_2 (by first | decide | omega) rfl (fun l51 hl51 ml51 => ?_)
                have l51_0 : en_ld l51 0 = some (gx_r 383) := ml51 0 _ l41_0 rfl
                have l51_1 : en_ld l51 1 = some (.inl nn) := ml51 1 _ l41_1 rfl
                have l51_3 : en_ld l51 3 = some (.inl m21) := ml51 3 _ l41_3 rfl
                have l51_4 : en_ld l51 4 = some (.inl k) := ml51 4 _ l41_4 rfl
                have l51_5 : en_ld l51 5 = some (.inr (.inl ((nI m21).toInt64.toBitVec.toNat))) := ml51 5 _ hl41 rfl
                refine gx_ld (i := 0) (d := 2) (v := gx_r 383) rfl (fun _ => rfl) l51_0 rfl rfl ?_
                refine gx_ref (c := 387) rfl g146 rfl rfl rfl rfl ?_
                refine gx_ld (i := 1) (d := 0) (v := .inl nn) rfl (fun _ => rfl) l51_1 rfl rfl ?_
                refine gx_ld (i := 5) (d := 1) (v := .inr (.inl ((nI m21).toInt64.toBitVec.toNat))) rfl (fun _ => rfl) l51_5 rfl rfl ?_
                refine gx_apv (d := 1) rfl (fun _ => rfl) g146 rfl rfl rfl (show nn < 1002 from by omega) (gx_lrun_387 nn (by first | decide | omega)) ⟨_, rfl⟩ rfl (fun t152 g152 k152 e152 => ?_)
                have k53 : ai_hv t152 383 3 = some (.inl m) := (e152 383 3 (by first | decide | omega)).trans k47
                have k54 : ai_hv t152 383 2 = some (.inl 0) := (e152 383 2 (by first | decide | omega)).trans k48
                have k55 : ai_hv t152 384 k = some (.inl m21) := (e152 384 k (by first | decide | omega)).trans k49
                have k56 : ai_hv t152 386 nn = some (.inl k) := (e152 386 nn (by first | decide | omega)).trans k50
                have k57 : ai_hv t152 385 nn = some (.inl 4) := (e152 385 nn (by first | decide | omega)).trans k146
                refine gx_incS (i := 1) (a := nn) (x := 1) rfl (fun _ => rfl) l51_1 (by first | decide | omega) rfl (fun l58 hl58 ml58 => ?_)
                have l58_0 : en_ld l58 0 = some (gx_r 383) := ml58 0 _ l51_0 rfl
                have l58_3 : en_ld l58 3 = some (.inl m21) := ml58 3 _ l51_3 rfl
                have l58_4 : en_ld l58 4 = some (.inl k) := ml58 4 _ l51_4 rfl
                have l58_5 : en_ld l58 5 = some (.inr (.inl ((nI m21).toInt64.toBitVec.toNat))) := ml58 5 _ l51_5 rfl
                have l58_2 : en_ld l58 2 = some (.inl (k + 1)) := ml58 2 _ hl51 rfl
                refine ex_go (S := (17, l58, [], t152, n, 0)) rfl (fun _ => rfl) rfl ?_
                exact ih _ _ _ t152 (by first | decide | omega) (by first | decide | omega) (by first | decide | omega) g152 k53 k54 (fun c i h => (e152 c i (by first | decide | omega)).trans ((e146 c i (by first | decide | omega)).trans ((e129 c i (by first | decide | omega)).trans (e0 c i h)))) l58_0 hl58 l58_2
              · refine gx_1f (c := .eq) rfl (by first | decide | omega) hc45 rfl ?_
                refine ex_go (S := (257, l41, [.inl 3, .inl nn, gx_r 385], t129, n, 0)) rfl (fun _ => rfl) rfl ?_
                refine ex_go (S := (261, l41, [.inl 3, .inl nn, gx_r 385], t129, n, 0)) rfl (fun _ => rfl) rfl ?_
                refine gx_ap rfl (fun _ => rfl) g129 rfl rfl rfl (show nn < 1002 from by omega) (gx_run1 (show nn < 1000 from by omega)) (ai_in_h (by first | decide | omega) (by first | decide | omega) (by first | decide | omega)) rfl (fun t159 g159 k159 e159 => ?_)
                have k60 : ai_hv t159 383 3 = some (.inl m) := (e159 383 3 (by first | decide | omega)).trans k30
                have k61 : ai_hv t159 383 2 = some (.inl 0) := (e159 383 2 (by first | decide | omega)).trans k31
                have k62 : ai_hv t159 384 k = some (.inl m21) := (e159 384 k (by first | decide | omega)).trans k32
                have k63 : ai_hv t159 386 nn = some (.inl k) := (e159 386 nn (by first | decide | omega)).trans k129
                refine gx_incS (i := 2) (a := k) (x := 1) rfl (fun _ => rfl) l41_2 (by first | decide | omega) rfl (fun l64 hl64 ml64 => ?_)
                have l64_0 : en_ld l64 0 = some (gx_r 383) := ml64 0 _ l41_0 rfl
                have l64_1 : en_ld l64 1 = some (.inl nn) := ml64 1 _ l41_1 rfl
                have l64_3 : en_ld l64 3 = some (.inl m21) := ml64 3 _ l41_3 rfl
                have l64_4 : en_ld l64 4 = some (.inl k) := ml64 4 _ l41_4 rfl
                have l64_5 : en_ld l64 5 = some (.inr (.inl ((nI m21).toInt64.toBitVec.toNat))) := ml64 5 _ hl41 rfl
                refine gx_ld (i := 0) (d := 2) (v := gx_r 383) rfl (fun _ => rfl) l64_0 rfl rfl ?_
                refine gx_ref (c := 387) rfl g159 rfl rfl rfl rfl ?_
                refine gx_ld (i := 1) (d := 0) (v := .inl nn) rfl (fun _ => rfl) l64_1 rfl rfl ?_
                refine gx_ld (i := 5) (d := 1) (v := .inr (.inl ((nI m21).toInt64.toBitVec.toNat))) rfl (fun _ => rfl) l64_5 rfl rfl ?_
                refine gx_apv (d := 1) rfl (fun _ => rfl) g159 rfl rfl rfl (show nn < 1002 from by omega) (gx_lrun_387 nn (by first | decide | omega)) ⟨_, rfl⟩ rfl (fun t165 g165 k165 e165 => ?_)
                have k66 : ai_hv t165 383 3 = some (.inl m) := (e165 383 3 (by first | decide | omega)).trans k60
                have k67 : ai_hv t165 383 2 = some (.inl 0) := (e165 383 2 (by first | decide | omega)).trans k61
                have k68 : ai_hv t165 384 k = some (.inl m21) := (e165 384 k (by first | decide | omega)).trans k62
                have k69 : ai_hv t165 386 nn = some (.inl k) := (e165 386 nn (by first | decide | omega)).trans k63
                have k70 : ai_hv t165 385 nn = some (.inl 3) := (e165 385 nn (by first | decide | omega)).trans k159
                refine gx_incS (i := 1) (a := nn) (x := 1) rfl (fun _ => rfl) l64_1 (by first | decide | omega) rfl (fun l71 hl71 ml71 => ?_)
                have l71_0 : en_ld l71 0 = some (gx_r 383) := ml71 0 _ l64_0 rfl
                have l71_3 : en_ld l71 3 = some (.inl m21) := ml71 3 _ l64_3 rfl
                have l71_4 : en_ld l71 4 = some (.inl k) := ml71 4 _ l64_4 rfl
                have l71_5 : en_ld l71 5 = some (.inr (.inl ((nI m21).toInt64.toBitVec.toNat))) := ml71 5 _ l64_5 rfl
                have l71_2 : en_ld l71 2 = some (.inl (k + 1)) := ml71 2 _ hl64 rfl
                refine ex_go (S := (17, l71, [], t165, n, 0)) rfl (fun _ => rfl) rfl ?_
                exact ih _ _ _ t165 (by first | decide | omega) (by first | decide | omega) (by first | decide | omega) g165 k66 k67 (fun c i h => (e165 c i (by first | decide | omega)).trans ((e159 c i (by first | decide | omega)).trans ((e129 c i (by first | decide | omega)).trans (e0 c i h)))) l71_0 hl71 l71_2
            · refine gx_1f (c := .eq) rfl (by first | decide | omega) hc40 rfl ?_
              refine ct_dig d n (cc := m21) g129 k30 hm (by first | decide | omega) k32 (by first | decide | omega) (fun kz72 vz72 l73 hkz72 hmz72 h0z72 h1z72 h2z72 h4z72 h5z72 => ?_) (m - k) _ _ _ (by first | decide | omega) (by first | decide | omega) l28_0 l28_1 l28_2 l28_4 hl28
              refine gx_ld (i := 0) (d := 2) (v := gx_r 383) rfl (fun _ => rfl) h0z72 rfl rfl ?_
              refine gx_ref (c := 385) rfl g129 rfl rfl rfl rfl ?_
              refine gx_ld (i := 1) (d := 0) (v := .inl nn) rfl (fun _ => rfl) h1z72 rfl rfl ?_
              refine gx_ld (i := 2) (d := 0) (v := .inl kz72) rfl (fun _ => rfl) h2z72 rfl rfl ?_
              refine gx_ld (i := 4) (d := 0) (v := .inl k) rfl (fun _ => rfl) h4z72 rfl rfl ?_
              refine gx_isub rfl (by first | decide | omega) (by first | decide | omega) rfl ?_
              refine ex_go (S := (228, l73, [.inl 4, .inl (kz72 - k), .inl nn, gx_r 385], t129, n, 0)) rfl (fun _ => rfl) rfl ?_
              by_cases hc74 : kz72 - k ≤ 4
              · refine gx_2t (c := .le) rfl (by first | decide | omega) (by first | decide | omega) hc74 rfl ?_
                refine ex_go (S := (236, l73, [.inl 2, .inl nn, gx_r 385], t129, n, 0)) rfl (fun _ => rfl) rfl ?_
                refine gx_ap rfl (fun _ => rfl) g129 rfl rfl rfl (show nn < 1002 from by omega) (gx_run1 (show nn < 1000 from by omega)) (ai_in_h (by first | decide | omega) (by first | decide | omega) (by first | decide | omega)) rfl (fun t175 g175 k175 e175 => ?_)
                have k76 : ai_hv t175 383 3 = some (.inl m) := (e175 383 3 (by first | decide | omega)).trans k30
                have k77 : ai_hv t175 383 2 = some (.inl 0) := (e175 383 2 (by first | decide | omega)).trans k31
                have k78 : ai_hv t175 384 k = some (.inl m21) := (e175 384 k (by first | decide | omega)).trans k32
                have k79 : ai_hv t175 386 nn = some (.inl k) := (e175 386 nn (by first | decide | omega)).trans k129
                refine ex_go (S := (265, l73, [], t175, n, 0)) rfl (fun _ => rfl) rfl ?_
                refine gx_ld (i := 0) (d := 2) (v := gx_r 383) rfl (fun _ => rfl) h0z72 rfl rfl ?_
                refine gx_ref (c := 387) rfl g175 rfl rfl rfl rfl ?_
                refine gx_ld (i := 1) (d := 0) (v := .inl nn) rfl (fun _ => rfl) h1z72 rfl rfl ?_
                refine gx_ld (i := 5) (d := 1) (v := .inr (.inl vz72)) rfl (fun _ => rfl) h5z72 rfl rfl ?_
                refine gx_apv (d := 1) rfl (fun _ => rfl) g175 rfl rfl rfl (show nn < 1002 from by omega) (gx_lrun_387 nn (by first | decide | omega)) ⟨_, rfl⟩ rfl (fun t180 g180 k180 e180 => ?_)
                have k81 : ai_hv t180 383 3 = some (.inl m) := (e180 383 3 (by first | decide | omega)).trans k76
                have k82 : ai_hv t180 383 2 = some (.inl 0) := (e180 383 2 (by first | decide | omega)).trans k77
                have k83 : ai_hv t180 384 k = some (.inl m21) := (e180 384 k (by first | decide | omega)).trans k78
                have k84 : ai_hv t180 386 nn = some (.inl k) := (e180 386 nn (by first | decide | omega)).trans k79
                have k85 : ai_hv t180 385 nn = some (.inl 2) := (e180 385 nn (by first | decide | omega)).trans k175
                refine gx_incS (i := 1) (a := nn) (x := 1) rfl (fun _ => rfl) h1z72 (by first | decide | omega) rfl (fun l86 hl86 ml86 => ?_)
                have l86_0 : en_ld l86 0 = some (gx_r 383) := ml86 0 _ h0z72 rfl
                have l86_2 : en_ld l86 2 = some (.inl kz72) := ml86 2 _ h2z72 rfl
                have l86_4 : en_ld l86 4 = some (.inl k) := ml86 4 _ h4z72 rfl
                have l86_5 : en_ld l86 5 = some (.inr (.inl vz72)) := ml86 5 _ h5z72 rfl
                refine ex_go (S := (17, l86, [], t180, n, 0)) rfl (fun _ => rfl) rfl ?_
                exact ih _ _ _ t180 (by first | decide | omega) (by first | decide | omega) (by first | decide | omega) g180 k81 k82 (fun c i h => (e180 c i (by first | decide | omega)).trans ((e175 c i (by first | decide | omega)).trans ((e129 c i (by first | decide | omega)).trans (e0 c i h)))) l86_0 hl86 l86_2
              · refine gx_2f (c := .le) rfl (by first | decide | omega) (by first | decide | omega) hc74 rfl ?_
                refine ex_go (S := (232, l73, [.inl 4, .inl nn, gx_r 385], t129, n, 0)) rfl (fun _ => rfl) rfl ?_
                refine ex_go (S := (236, l73, [.inl 4, .inl nn, gx_r 385], t129, n, 0)) rfl (fun _ => rfl) rfl ?_
                refine gx_ap rfl (fun _ => rfl) g129 rfl rfl rfl (show nn < 1002 from by omega) (gx_run1 (show nn < 1000 from by omega)) (ai_in_h (by first | decide | omega) (by first | decide | omega) (by first | decide | omega)) rfl (fun t187 g187 k187 e187 => ?_)
                have k88 : ai_hv t187 383 3 = some (.inl m) := (e187 383 3 (by first | decide | omega)).trans k30
                have k89 : ai_hv t187 383 2 = some (.inl 0) := (e187 383 2 (by first | decide | omega)).trans k31
                have k90 : ai_hv t187 384 k = some (.inl m21) := (e187 384 k (by first | decide | omega)).trans k32
                have k91 : ai_hv t187 386 nn = some (.inl k) := (e187 386 nn (by first | decide | omega)).trans k129
                refine ex_go (S := (265, l73, [], t187, n, 0)) rfl (fun _ => rfl) rfl ?_
                refine gx_ld (i := 0) (d := 2) (v := gx_r 383) rfl (fun _ => rfl) h0z72 rfl rfl ?_
                refine gx_ref (c := 387) rfl g187 rfl rfl rfl rfl ?_
                refine gx_ld (i := 1) (d := 0) (v := .inl nn) rfl (fun _ => rfl) h1z72 rfl rfl ?_
                refine gx_ld (i := 5) (d := 1) (v := .inr (.inl vz72)) rfl (fun _ => rfl) h5z72 rfl rfl ?_
                refine gx_apv (d := 1) rfl (fun _ => rfl) g187 rfl rfl rfl (show nn < 1002 from by omega) (gx_lrun_387 nn (by first | decide | omega)) ⟨_, rfl⟩ rfl (fun t192 g192 k192 e192 => ?_)
                have k93 : ai_hv t192 383 3 = some (.inl m) := (e192 383 3 (by first | decide | omega)).trans k88
                have k94 : ai_hv t192 383 2 = some (.inl 0) := (e192 383 2 (by first | decide | omega)).trans k89
                have k95 : ai_hv t192 384 k = some (.inl m21) := (e192 384 k (by first | decide | omega)).trans k90
                have k96 : ai_hv t192 386 nn = some (.inl k) := (e192 386 nn (by first | decide | omega)).trans k91
                have k97 : ai_hv t192 385 nn = some (.inl 4) := (e192 385 nn (by first | decide | omega)).trans k187
                refine gx_incS (i := 1) (a := nn) (x := 1) rfl (fun _ => rfl) h1z72 (by first | decide | omega) rfl (fun l98 hl98 ml98 => ?_)
                have l98_0 : en_ld l98 0 = some (gx_r 383) := ml98 0 _ h0z72 rfl
                have l98_2 : en_ld l98 2 = some (.inl kz72) := ml98 2 _ h2z72 rfl
                have l98_4 : en_ld l98 4 = some (.inl k) := ml98 4 _ h4z72 rfl
                have l98_5 : en_ld l98 5 = some (.inr (.inl vz72)) := ml98 5 _ h5z72 rfl
                refine ex_go (S := (17, l98, [], t192, n, 0)) rfl (fun _ => rfl) rfl ?_
                exact ih _ _ _ t192 (by first | decide | omega) (by first | decide | omega) (by first | decide | omega) g192 k93 k94 (fun c i h => (e192 c i (by first | decide | omega)).trans ((e187 c i (by first | decide | omega)).trans ((e129 c i (by first | decide | omega)).trans (e0 c i h)))) l98_0 hl98 l98_2
          · refine gx_1f (c := .eq) rfl (by first | decide | omega) hc36 rfl ?_
            refine ct_let d n (cc := m21) g129 k30 hm (by first | decide | omega) k32 (by first | decide | omega) (fun kz99 vz99 l100 hkz99 hmz99 h0z99 h1z99 h2z99 h4z99 h5z99 => ?_) (m - k) _ _ _ (by first | decide | omega) (by first | decide | omega) l28_0 l28_1 l28_2 l28_4 hl28
            refine gx_ld (i := 0) (d := 2) (v := gx_r 383) rfl (fun _ => rfl) h0z99 rfl rfl ?_
            refine gx_ref (c := 385) rfl g129 rfl rfl rfl rfl ?_
            refine gx_ld (i := 1) (d := 0) (v := .inl nn) rfl (fun _ => rfl) h1z99 rfl rfl ?_
            refine gx_ld (i := 2) (d := 0) (v := .inl kz99) rfl (fun _ => rfl) h2z99 rfl rfl ?_
            refine gx_ld (i := 4) (d := 0) (v := .inl k) rfl (fun _ => rfl) h4z99 rfl rfl ?_
            refine gx_isub rfl (by first | decide | omega) (by first | decide | omega) rfl ?_
            refine ex_go (S := (140, l100, [.inl 8, .inl (kz99 - k), .inl nn, gx_r 385], t129, n, 0)) rfl (fun _ => rfl) rfl ?_
            by_cases hc101 : kz99 - k ≤ 8
            · refine gx_2t (c := .le) rfl (by first | decide | omega) (by first | decide | omega) hc101 rfl ?_
              refine ex_go (S := (148, l100, [.inl 1, .inl nn, gx_r 385], t129, n, 0)) rfl (fun _ => rfl) rfl ?_
              refine gx_ap rfl (fun _ => rfl) g129 rfl rfl rfl (show nn < 1002 from by omega) (gx_run1 (show nn < 1000 from by omega)) (ai_in_h (by first | decide | omega) (by first | decide | omega) (by first | decide | omega)) rfl (fun t202 g202 k202 e202 => ?_)
              have k103 : ai_hv t202 383 3 = some (.inl m) := (e202 383 3 (by first | decide | omega)).trans k30
              have k104 : ai_hv t202 383 2 = some (.inl 0) := (e202 383 2 (by first | decide | omega)).trans k31
              have k105 : ai_hv t202 384 k = some (.inl m21) := (e202 384 k (by first | decide | omega)).trans k32
              have k106 : ai_hv t202 386 nn = some (.inl k) := (e202 386 nn (by first | decide | omega)).trans k129
              refine ex_go (S := (265, l100, [], t202, n, 0)) rfl (fun _ => rfl) rfl ?_
              refine gx_ld (i := 0) (d := 2) (v := gx_r 383) rfl (fun _ => rfl) h0z99 rfl rfl ?_
              refine gx_ref (c := 387) rfl g202 rfl rfl rfl rfl ?_
              refine gx_ld (i := 1) (d := 0) (v := .inl nn) rfl (fun _ => rfl) h1z99 rfl rfl ?_
              refine gx_ld (i := 5) (d := 1) (v := .inr (.inl vz99)) rfl (fun _ => rfl) h5z99 rfl rfl ?_
              refine gx_apv (d := 1) rfl (fun _ => rfl) g202 rfl rfl rfl (show nn < 1002 from by omega) (gx_lrun_387 nn (by first | decide | omega)) ⟨_, rfl⟩ rfl (fun t207 g207 k207 e207 => ?_)
              have k108 : ai_hv t207 383 3 = some (.inl m) := (e207 383 3 (by first | decide | omega)).trans k103
              have k109 : ai_hv t207 383 2 = some (.inl 0) := (e207 383 2 (by first | decide | omega)).trans k104
              have k110 : ai_hv t207 384 k = some (.inl m21) := (e207 384 k (by first | decide | omega)).trans k105
              have k111 : ai_hv t207 386 nn = some (.inl k) := (e207 386 nn (by first | decide | omega)).trans k106
              have k112 : ai_hv t207 385 nn = some (.inl 1) := (e207 385 nn (by first | decide | omega)).trans k202
              refine gx_incS (i := 1) (a := nn) (x := 1) rfl (fun _ => rfl) h1z99 (by first | decide | omega) rfl (fun l113 hl113 ml113 => ?_)
              have l113_0 : en_ld l113 0 = some (gx_r 383) := ml113 0 _ h0z99 rfl
              have l113_2 : en_ld l113 2 = some (.inl kz99) := ml113 2 _ h2z99 rfl
              have l113_4 : en_ld l113 4 = some (.inl k) := ml113 4 _ h4z99 rfl
              have l113_5 : en_ld l113 5 = some (.inr (.inl vz99)) := ml113 5 _ h5z99 rfl
              refine ex_go (S := (17, l113, [], t207, n, 0)) rfl (fun _ => rfl) rfl ?_
              exact ih _ _ _ t207 (by first | decide | omega) (by first | decide | omega) (by first | decide | omega) g207 k108 k109 (fun c i h => (e207 c i (by first | decide | omega)).trans ((e202 c i (by first | decide | omega)).trans ((e129 c i (by first | decide | omega)).trans (e0 c i h)))) l113_0 hl113 l113_2
            · refine gx_2f (c := .le) rfl (by first | decide | omega) (by first | decide | omega) hc101 rfl ?_
              refine ex_go (S := (144, l100, [.inl 4, .inl nn, gx_r 385], t129, n, 0)) rfl (fun _ => rfl) rfl ?_
              refine ex_go (S := (148, l100, [.inl 4, .inl nn, gx_r 385], t129, n, 0)) rfl (fun _ => rfl) rfl ?_
              refine gx_ap rfl (fun _ => rfl) g129 rfl rfl rfl (show nn < 1002 from by omega) (gx_run1 (show nn < 1000 from by omega)) (ai_in_h (by first | decide | omega) (by first | decide | omega) (by first | decide | omega)) rfl (fun t214 g214 k214 e214 => ?_)
              have k115 : ai_hv t214 383 3 = some (.inl m) := (e214 383 3 (by first | decide | omega)).trans k30
              have k116 : ai_hv t214 383 2 = some (.inl 0) := (e214 383 2 (by first | decide | omega)).trans k31
              have k117 : ai_hv t214 384 k = some (.inl m21) := (e214 384 k (by first | decide | omega)).trans k32
              have k118 : ai_hv t214 386 nn = some (.inl k) := (e214 386 nn (by first | decide | omega)).trans k129
              refine ex_go (S := (265, l100, [], t214, n, 0)) rfl (fun _ => rfl) rfl ?_
              refine gx_ld (i := 0) (d := 2) (v := gx_r 383) rfl (fun _ => rfl) h0z99 rfl rfl ?_
              refine gx_ref (c := 387) rfl g214 rfl rfl rfl rfl ?_
              refine gx_ld (i := 1) (d := 0) (v := .inl nn) rfl (fun _ => rfl) h1z99 rfl rfl ?_
              refine gx_ld (i := 5) (d := 1) (v := .inr (.inl vz99)) rfl (fun _ => rfl) h5z99 rfl rfl ?_
              refine gx_apv (d := 1) rfl (fun _ => rfl) g214 rfl rfl rfl (show nn < 1002 from by omega) (gx_lrun_387 nn (by first | decide | omega)) ⟨_, rfl⟩ rfl (fun t219 g219 k219 e219 => ?_)
              have k120 : ai_hv t219 383 3 = some (.inl m) := (e219 383 3 (by first | decide | omega)).trans k115
              have k121 : ai_hv t219 383 2 = some (.inl 0) := (e219 383 2 (by first | decide | omega)).trans k116
              have k122 : ai_hv t219 384 k = some (.inl m21) := (e219 384 k (by first | decide | omega)).trans k117
              have k123 : ai_hv t219 386 nn = some (.inl k) := (e219 386 nn (by first | decide | omega)).trans k118
              have k124 : ai_hv t219 385 nn = some (.inl 4) := (e219 385 nn (by first | decide | omega)).trans k214
              refine gx_incS (i := 1) (a := nn) (x := 1) rfl (fun _ => rfl) h1z99 (by first | decide | omega) rfl (fun l125 hl125 ml125 => ?_)
              have l125_0 : en_ld l125 0 = some (gx_r 383) := ml125 0 _ h0z99 rfl
              have l125_2 : en_ld l125 2 = some (.inl kz99) := ml125 2 _ h2z99 rfl
              have l125_4 : en_ld l125 4 = some (.inl k) := ml125 4 _ h4z99 rfl
              have l125_5 : en_ld l125 5 = some (.inr (.inl vz99)) := ml125 5 _ h5z99 rfl
              refine ex_go (S := (17, l125, [], t219, n, 0)) rfl (fun _ => rfl) rfl ?_
              exact ih _ _ _ t219 (by first | decide | omega) (by first | decide | omega) (by first | decide | omega) g219 k120 k121 (fun c i h => (e219 c i (by first | decide | omega)).trans ((e214 c i (by first | decide | omega)).trans ((e129 c i (by first | decide | omega)).trans (e0 c i h)))) l125_0 hl125 l125_2
        · refine gx_2f (c := .ne) rfl (by first | decide | omega) (by first | decide | omega) hc26 rfl ?_
          refine gx_incS (i := 2) (a := k) (x := 1) rfl (fun _ => rfl) l23_2 (by first | decide | omega) rfl (fun l126 hl126 ml126 => ?_)
          have l126_0 : en_ld l126 0 = some (gx_r 383) := ml126 0 _ l23_0 rfl
          have l126_1 : en_ld l126 1 = some (.inl nn) := ml126 1 _ l23_1 rfl
          have l126_3 : en_ld l126 3 = some (.inl m21) := ml126 3 _ hl23 rfl
          refine ex_go (S := (17, l126, [], t0, n, 0)) rfl (fun _ => rfl) rfl ?_
          exact ih _ _ _ t0 (by first | decide | omega) (by first | decide | omega) (by first | decide | omega) g0 km kt (fun c i h => e0 c i h) l126_0 l126_1 hl126
theorem pk_cutAll (d n : Nat) {tb : en_H} (g0 : ai_HG ah_G tb) : ∃ r, en_u (d + 3) 93 [gx_r 383] tb n = some r ∧ ∃ t', r = (none, t', n, 0) ∧ px_S t' 0 0 ∧ ai_hv t' 383 2 = some (.inl 0) ∧ (∀ c i, ¬ ((c = 383 ∧ (i = 2 ∨ i = 3 ∨ i = 7 ∨ i = 8)) ∨ c = 385 ∨ c = 386 ∨ c = 387) → ai_hv t' c i = ai_hv tb c i) := by
  obtain ⟨m, km, -, hm⟩ := gx_in (c := 383) (i := 2) (lo := 0) (hi := 1000) g0 rfl rfl rfl rfl
  refine en_u_ex (d := d + 2) rfl ?_
  show en_ex _ _ _ _ (0, [(0, gx_r 383)], [], tb, n, 0) _
  refine ex_go (S := (1, [(0, gx_r 383)], [gx_r 383], tb, n, 0)) rfl (fun _ => rfl) rfl ?_
  refine ex_go (S := (2, [(0, gx_r 383)], [gx_r 383, gx_r 383], tb, n, 0)) rfl (fun _ => rfl) rfl ?_
  refine gx_get rfl g0 rfl km rfl ?_
  refine gx_put rfl g0 rfl rfl (ai_in_h (by first | decide | omega) (by first | decide | omega) (by first | decide | omega)) rfl (fun t101 g101 k101 e101 => ?_)
  have k2 : ai_hv t101 383 2 = some (.inl m) := (e101 383 2 (by first | decide | omega)).trans km
  refine ex_go (S := (9, [(0, gx_r 383)], [gx_r 383], t101, n, 0)) rfl (fun _ => rfl) rfl ?_
  refine ex_go (S := (10, [(0, gx_r 383)], [.inl 0, gx_r 383], t101, n, 0)) rfl (fun _ => rfl) rfl ?_
  refine gx_put rfl g101 rfl rfl (ai_in_h (by first | decide | omega) (by first | decide | omega) (by first | decide | omega)) rfl (fun t103 g103 k103 e103 => ?_)
  have k4 : ai_hv t103 383 3 = some (.inl m) := (e103 383 3 (by first | decide | omega)).trans k101
  refine ex_go (S := (14, [(0, gx_r 383)], [.inl 0], t103, n, 0)) rfl (fun _ => rfl) rfl ?_
  refine ex_go (S := (15, [(1, .inl 0), (0, gx_r 383)], [], t103, n, 0)) rfl (fun _ => rfl) rfl ?_
  refine ex_go (S := (16, [(1, .inl 0), (0, gx_r 383)], [.inl 0], t103, n, 0)) rfl (fun _ => rfl) rfl ?_
  refine ex_go (S := (17, [(2, .inl 0), (1, .inl 0), (0, gx_r 383)], [], t103, n, 0)) rfl (fun _ => rfl) rfl ?_
  exact ct_out d n (tb := tb) (m := m) hm 1000 0 0 _ t103 (by first | decide | omega) (by first | decide | omega) (by first | decide | omega) g103 k4 k103 (fun c i h => (e103 c i (by first | decide | omega)).trans (e101 c i (by first | decide | omega))) rfl rfl rfl
end PK6
