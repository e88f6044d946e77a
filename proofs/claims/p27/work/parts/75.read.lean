section PK2
theorem pk_within (d n : Nat) {t0 : en_H} {x lo hi : Nat} (hx : x < 2147483648) (h1 : lo < 2147483648) (h2 : hi < 2147483648) : ∃ r, en_u (d + 1) 107 [.inl x, .inl lo, .inl hi] t0 n = some r ∧ ∃ b, r = (some (.inl b), t0, n, 0) ∧ b ≤ 1 ∧ (b = 1 → lo ≤ x ∧ x ≤ hi) := by
  refine en_u_ex rfl ?_
  show en_ex _ _ _ _ (0, [(0, .inl x), (1, .inl lo), (2, .inl hi)], [], t0, n, 0) _
  refine ex_go (S := (1, [(0, .inl x), (1, .inl lo), (2, .inl hi)], [.inl x], t0, n, 0)) rfl (fun _ => rfl) rfl ?_
  refine ex_go (S := (2, [(0, .inl x), (1, .inl lo), (2, .inl hi)], [.inl lo, .inl x], t0, n, 0)) rfl (fun _ => rfl) rfl ?_
  by_cases hc1 : x < lo
  · refine gx_2t (c := .lt) rfl (by first | decide | omega) (by first | decide | omega) hc1 rfl ?_
    refine ex_go (S := (15, [(0, .inl x), (1, .inl lo), (2, .inl hi)], [.inl 0], t0, n, 0)) rfl (fun _ => rfl) rfl ?_
    refine ex_ret (r := (some (.inl 0), t0, n, 0)) rfl (fun _ => rfl) ?_
    exact ⟨_, rfl, 0, rfl, by omega⟩
  · refine gx_2f (c := .lt) rfl (by first | decide | omega) (by first | decide | omega) hc1 rfl ?_
    refine ex_go (S := (6, [(0, .inl x), (1, .inl lo), (2, .inl hi)], [.inl x], t0, n, 0)) rfl (fun _ => rfl) rfl ?_
    refine ex_go (S := (7, [(0, .inl x), (1, .inl lo), (2, .inl hi)], [.inl hi, .inl x], t0, n, 0)) rfl (fun _ => rfl) rfl ?_
    by_cases hc2 : hi < x
    · refine gx_2t (c := .gt) rfl (by first | decide | omega) (by first | decide | omega) hc2 rfl ?_
      refine ex_go (S := (15, [(0, .inl x), (1, .inl lo), (2, .inl hi)], [.inl 0], t0, n, 0)) rfl (fun _ => rfl) rfl ?_
      refine ex_ret (r := (some (.inl 0), t0, n, 0)) rfl (fun _ => rfl) ?_
      exact ⟨_, rfl, 0, rfl, by omega⟩
    · refine gx_2f (c := .gt) rfl (by first | decide | omega) (by first | decide | omega) hc2 rfl ?_
      refine ex_go (S := (11, [(0, .inl x), (1, .inl lo), (2, .inl hi)], [.inl 1], t0, n, 0)) rfl (fun _ => rfl) rfl ?_
      refine ex_go (S := (15, [(0, .inl x), (1, .inl lo), (2, .inl hi)], [.inl 1], t0, n, 0)) rfl (fun _ => rfl) rfl ?_
      refine ex_ret (r := (some (.inl 1), t0, n, 0)) rfl (fun _ => rfl) ?_
      exact ⟨_, rfl, 1, rfl, by omega⟩
theorem pk_within_n (d n : Nat) {t0 : en_H} : ∃ r, en_u (d + 1) 107 [.inl 4294967295, .inl 0, .inl 5] t0 n = some r ∧ r = (some (.inl 0), t0, n, 0) := by
  refine en_u_ex rfl ?_
  show en_ex _ _ _ _ (0, [(0, .inl 4294967295), (1, .inl 0), (2, .inl 5)], [], t0, n, 0) _
  refine ex_go (S := (1, [(0, .inl 4294967295), (1, .inl 0), (2, .inl 5)], [.inl 4294967295], t0, n, 0)) rfl (fun _ => rfl) rfl ?_
  refine ex_go (S := (2, [(0, .inl 4294967295), (1, .inl 0), (2, .inl 5)], [.inl 0, .inl 4294967295], t0, n, 0)) rfl (fun _ => rfl) rfl ?_
  refine ex_go (S := (14, [(0, .inl 4294967295), (1, .inl 0), (2, .inl 5)], [], t0, n, 0)) rfl (fun _ => rfl) rfl ?_
  refine ex_go (S := (15, [(0, .inl 4294967295), (1, .inl 0), (2, .inl 5)], [.inl 0], t0, n, 0)) rfl (fun _ => rfl) rfl ?_
  refine ex_ret (r := (some (.inl 0), t0, n, 0)) rfl (fun _ => rfl) ?_
  exact ⟨_, rfl, rfl⟩
noncomputable def px_st (t : en_H) (i x y : Nat) : Prop := ∃ o z, ai_hv t 390 (1100 + i) = some (.inl o) ∧ ai_hv t 391 (1100 + i) = some (.inl z) ∧ ((o = 1 ∧ y = x + 1) ∨ (o = 2 ∧ z ≤ 3 ∧ y = x + 1) ∨ (o = 3 ∧ 1 ≤ x ∧ y = x) ∨ (4 ≤ o ∧ o ≤ 10 ∧ 2 ≤ x ∧ y + 1 = x))
noncomputable def px_E1 (t : en_H) : Prop := ∀ k, k < 6 → ai_En t 389 163 0 k ∨ ai_En t 389 (255 + 4 * k) 1 30
noncomputable def px_E4 (t : en_H) (c : Nat) : Prop := ∀ l, l < 3 → ai_hv t 389 (169 + l) = some (.inl 4294967295) ∨ ∃ (s e : Nat) (F : Nat → Nat), ai_hv t 389 (169 + l) = some (.inl s) ∧ s ≤ e ∧ e < c ∧ F s = 0 ∧ ai_hv t 390 (1100 + e) = some (.inl 0) ∧ ∀ i, s ≤ i → i < e → px_st t i (F i) (F (i + 1))
/-- what a pack that is being read holds while there is no fault -/
noncomputable def px_O (t : en_H) (c : Nat) : Prop := ∃ r nt ng ns nl ov dn pa, ai_hv t 383 19 = some (.inl r) ∧ ai_hv t 389 162 = some (.inl nt) ∧ ai_hv t 389 166 = some (.inl ng) ∧ ai_hv t 389 167 = some (.inl ns) ∧ ai_hv t 389 168 = some (.inl nl) ∧ ai_hv t 389 160 = some (.inl ov) ∧ ai_hv t 389 161 = some (.inl dn) ∧ ai_hv t 389 165 = some (.inl pa) ∧ ai_hv t 383 13 = some (.inl c) ∧ (r = nt + ng + ns + nl ∧ nt ≤ 6 ∧ ng ≤ 5 ∧ ns ≤ 6 ∧ nl ≤ 6 ∧ 2 ≤ ov ∧ ov ≤ 8 ∧ 2 ≤ dn ∧ dn ≤ 8 ∧ 1 ≤ pa ∧ pa ≤ 4) ∧ px_E1 t ∧ px_E4 t c
noncomputable def px_PF (t t' : en_H) : Prop := ∀ c i, ¬ ((c = 383 ∧ (i = 7 ∨ i = 8 ∨ i = 13 ∨ i = 19 ∨ i = 20 ∨ i = 21)) ∨ c = 393 ∨ c = 395 ∨ (c = 389 ∧ 160 ≤ i) ∨ ((c = 390 ∨ c = 391) ∧ 1100 ≤ i)) → ai_hv t' c i = ai_hv t c i
noncomputable def px_PG (t t' : en_H) : Prop := ∀ c i, ¬ ((c = 383 ∧ (i = 7 ∨ i = 8 ∨ i = 19 ∨ i = 20)) ∨ c = 393 ∨ c = 395 ∨ (c = 389 ∧ 160 ≤ i ∧ ¬ (169 ≤ i ∧ i < 172))) → ai_hv t' c i = ai_hv t c i
theorem px_PG_F {t t' : en_H} (h : px_PG t t') : px_PF t t' := fun c i h0 => h c i (by first | decide | omega)
noncomputable def px_FN (t t' : en_H) : Prop := ∀ c i, ¬ ((c = 383 ∧ (i = 7 ∨ i = 8 ∨ i = 19)) ∨ c = 393 ∨ c = 395) → ai_hv t' c i = ai_hv t c i
theorem px_E1_kept {t t' : en_H} (h : px_E1 t) (h1 : ai_hv t' 389 163 = ai_hv t 389 163) (h2 : ∀ k, k < 6 → ai_hv t' 389 (255 + 4 * k) = ai_hv t 389 (255 + 4 * k)) : px_E1 t' := by
  intro k hk
  have := h k hk
  simp only [ai_En, h1, h2 k hk] at this ⊢
  exact this
theorem px_st_kept {t t' : en_H} {i x y : Nat} (h : px_st t i x y) (h1 : ai_hv t' 390 (1100 + i) = ai_hv t 390 (1100 + i)) (h2 : ai_hv t' 391 (1100 + i) = ai_hv t 391 (1100 + i)) : px_st t' i x y := by
  unfold px_st
  rw [h1, h2]
  exact h
theorem px_E4_kept {t t' : en_H} {c c' : Nat} (h : px_E4 t c) (hc : c ≤ c') (h1 : ∀ l, l < 3 → ai_hv t' 389 (169 + l) = ai_hv t 389 (169 + l)) (h2 : ∀ i, i < c → ai_hv t' 390 (1100 + i) = ai_hv t 390 (1100 + i)) (h3 : ∀ i, i < c → ai_hv t' 391 (1100 + i) = ai_hv t 391 (1100 + i)) : px_E4 t' c' := by
  intro l hl
  rcases h l hl with h | ⟨s, e, F, k1, k2, k3, k4, k5, k6⟩
  · exact Or.inl ((h1 l hl).trans h)
  · exact Or.inr ⟨s, e, F, (h1 l hl).trans k1, k2, by omega, k4, (h2 e k3).trans k5, fun i z1 z2 => px_st_kept (k6 i z1 z2) (h2 i (by first | decide | omega)) (h3 i (by first | decide | omega))⟩
theorem pk_readName (d n : Nat) {t0 : en_H} {a f w rm : Nat} (s0 : px_S t0 a f) (hf : f = 0) (ha : a ≤ 999) (hw : w ≤ 20) (hr : rm ≤ 23) (k0 : ai_hv t0 383 19 = some (.inl rm)) : ∃ r, en_u (d + 4) 243 [gx_r 383, .inl w] t0 n = some r ∧ ∃ t' a' f' rm', r = (none, t', n, 0) ∧ px_S t' a' f' ∧ px_FN t0 t' ∧ ai_hv t' 383 19 = some (.inl rm') ∧ (a < a' ∧ rm ≤ rm' ∧ rm' ≤ rm + 1 ∧ (f' = 0 → rm' = rm + 1 ∧ a' = a + 2)) := by
  have b0 := s0.2.2.2
  refine en_u_ex (d := d + 3) rfl ?_
  show en_ex _ _ _ _ (0, [(0, gx_r 383), (1, .inl w)], [], t0, n, 0) _
  refine ex_go (S := (1, [(0, gx_r 383), (1, .inl w)], [gx_r 383], t0, n, 0)) rfl (fun _ => rfl) rfl ?_
  refine ex_go (S := (2, [(0, gx_r 383), (1, .inl w)], [gx_r 383, gx_r 383], t0, n, 0)) rfl (fun _ => rfl) rfl ?_
  refine gx_get rfl s0.1 rfl s0.2.1 rfl ?_
  refine ex_go (S := (6, [(0, gx_r 383), (1, .inl w)], [.inl 1, .inl a, gx_r 383], t0, n, 0)) rfl (fun _ => rfl) rfl ?_
  refine ex_iadd rfl (by first | decide | omega) rfl ?_
  refine gx_put rfl s0.1 rfl rfl (ai_in_h (by first | decide | omega) (by first | decide | omega) (by first | decide | omega)) rfl (fun t101 g101 k101 e101 => ?_)
  have k2 : ai_hv t101 383 19 = some (.inl rm) := (e101 383 19 (by first | decide | omega)).trans k0
  have s101 : px_S t101 (a + 1) f := ⟨g101, k101, (e101 383 8 (by first | decide | omega)).trans s0.2.2.1, by omega, s0.2.2.2.2⟩
  refine ex_go (S := (11, [(0, gx_r 383), (1, .inl w)], [gx_r 383], t101, n, 0)) rfl (fun _ => rfl) rfl ?_
  obtain ⟨_, r5, b3, rfl, q4⟩ := pk_isName d n (s101) 
  refine gx_call1 rfl rfl s101.1 rfl rfl r5 rfl ?_
  by_cases hc6 : b3 ≠ 0
  · refine gx_1t (c := .ne) rfl (by first | decide | omega) hc6 rfl ?_
    refine ex_go (S := (26, [(0, gx_r 383), (1, .inl w)], [gx_r 383], t101, n, 0)) rfl (fun _ => rfl) rfl ?_
    refine ex_go (S := (27, [(0, gx_r 383), (1, .inl w)], [.inl 1, gx_r 383], t101, n, 0)) rfl (fun _ => rfl) rfl ?_
    obtain ⟨_, r9, b7, rfl, q8⟩ := pk_find (d + 2) n (s101) (w := 1) (by first | decide | omega)
    refine gx_call1 rfl rfl s101.1 rfl rfl r9 rfl ?_
    rcases q8 with hn10 | hn10
    · have := hn10
      refine gx_1f (c := .lt) rfl (by first | decide | omega) (show ¬ (b7 < 0) from by omega) rfl ?_
      refine ex_go (S := (34, [(0, gx_r 383), (1, .inl w)], [gx_r 383], t101, n, 0)) rfl (fun _ => rfl) rfl ?_
      refine ex_go (S := (35, [(0, gx_r 383), (1, .inl w)], [.inl 3, gx_r 383], t101, n, 0)) rfl (fun _ => rfl) rfl ?_
      obtain ⟨_, r111, t111, a111, f111, rfl, s111, e111, q111⟩ := pk_wrong (d + 2) n (s101) (w := 3) (by first | decide | omega)
      have b111 := s111.2.2.2
      refine gx_call0 rfl rfl s101.1 rfl rfl r111 rfl ?_
      have k12 : ai_hv t111 383 19 = some (.inl rm) := (e111 383 19 (by first | decide | omega)).trans k2
      refine ex_go (S := (39, [(0, gx_r 383), (1, .inl w)], [gx_r 383], t111, n, 0)) rfl (fun _ => rfl) rfl ?_
      refine gx_get rfl s111.1 rfl s111.2.2.1 rfl ?_
      refine gx_1t (c := .ne) rfl (by first | decide | omega) (show f111 ≠ 0 from by omega) rfl ?_
      refine ex_ret (r := (none, t111, n, 0)) rfl (fun _ => rfl) ?_
      exact ⟨_, rfl, t111, a111, f111, rm, rfl, s111, (fun c i h => (e111 c i (by first | decide | omega)).trans (e101 c i (by first | decide | omega))), k12, by omega⟩
    · subst hn10
      refine ex_go (S := (38, [(0, gx_r 383), (1, .inl w)], [], t101, n, 0)) rfl (fun _ => rfl) rfl ?_
      refine ex_go (S := (39, [(0, gx_r 383), (1, .inl w)], [gx_r 383], t101, n, 0)) rfl (fun _ => rfl) rfl ?_
      refine gx_get rfl s101.1 rfl s101.2.2.1 rfl ?_
      by_cases hc13 : f ≠ 0
      · refine gx_1t (c := .ne) rfl (by first | decide | omega) hc13 rfl ?_
        refine ex_ret (r := (none, t101, n, 0)) rfl (fun _ => rfl) ?_
        exact ⟨_, rfl, t101, a + 1, f, rm, rfl, s101, (fun c i h => e101 c i (by first | decide | omega)), k2, by omega⟩
      · refine gx_1f (c := .ne) rfl (by first | decide | omega) hc13 rfl ?_
        refine ex_go (S := (46, [(0, gx_r 383), (1, .inl w)], [gx_r 383], t101, n, 0)) rfl (fun _ => rfl) rfl ?_
        refine gx_ref (c := 393) rfl s101.1 rfl rfl rfl rfl ?_
        refine ex_go (S := (50, [(0, gx_r 383), (1, .inl w)], [gx_r 383, gx_r 393], t101, n, 0)) rfl (fun _ => rfl) rfl ?_
        refine gx_get rfl s101.1 rfl k2 rfl ?_
        refine ex_go (S := (54, [(0, gx_r 383), (1, .inl w)], [gx_r 383, .inl rm, gx_r 393], t101, n, 0)) rfl (fun _ => rfl) rfl ?_
        refine gx_ref (c := 387) rfl s101.1 rfl rfl rfl rfl ?_
        refine ex_go (S := (58, [(0, gx_r 383), (1, .inl w)], [gx_r 383, gx_r 387, .inl rm, gx_r 393], t101, n, 0)) rfl (fun _ => rfl) rfl ?_
        refine gx_get rfl s101.1 rfl s101.2.1 rfl ?_
        obtain ⟨m14, k15⟩ := gx_long_387 s101.1 (i := a + 1) (by first | decide | omega)
        refine gx_ag (v := .inr (.inl m14)) (cb := fun c => Nat.beq c 3) rfl (fun _ => rfl) s101.1 rfl rfl k15 (by first | decide | omega) rfl ?_
        refine gx_apv (d := 1) rfl (fun _ => rfl) s101.1 rfl rfl rfl (show rm < 24 from by omega) (gx_lrun_393 rm (by first | decide | omega)) ⟨_, rfl⟩ rfl (fun t116 g116 k116 e116 => ?_)
        have k17 : ai_hv t116 383 19 = some (.inl rm) := (e116 383 19 (by first | decide | omega)).trans k2
        have k18 : ai_hv t116 387 (a + 1) = some (.inr (.inl m14)) := (e116 387 (a + 1) (by first | decide | omega)).trans k15
        have s116 : px_S t116 (a + 1) f := ⟨g116, (e116 383 7 (by first | decide | omega)).trans s101.2.1, (e116 383 8 (by first | decide | omega)).trans s101.2.2.1, s101.2.2.2⟩
        refine ex_go (S := (64, [(0, gx_r 383), (1, .inl w)], [gx_r 383], t116, n, 0)) rfl (fun _ => rfl) rfl ?_
        refine gx_ref (c := 395) rfl s116.1 rfl rfl rfl rfl ?_
        refine ex_go (S := (68, [(0, gx_r 383), (1, .inl w)], [gx_r 383, gx_r 395], t116, n, 0)) rfl (fun _ => rfl) rfl ?_
        refine gx_get rfl s116.1 rfl k17 rfl ?_
        refine ex_go (S := (72, [(0, gx_r 383), (1, .inl w)], [.inl w, .inl rm, gx_r 395], t116, n, 0)) rfl (fun _ => rfl) rfl ?_
        refine gx_ap rfl (fun _ => rfl) s116.1 rfl rfl rfl (show rm < 24 from by omega) (gx_run1 (show rm < 24 from by omega)) (ai_in_h (by first | decide | omega) (by first | decide | omega) (by first | decide | omega)) rfl (fun t119 g119 k119 e119 => ?_)
        have k20 : ai_hv t119 383 19 = some (.inl rm) := (e119 383 19 (by first | decide | omega)).trans k17
        have k21 : ai_hv t119 387 (a + 1) = some (.inr (.inl m14)) := (e119 387 (a + 1) (by first | decide | omega)).trans k18
        have k22 : ai_hv t119 393 rm = some (.inr (.inl m14)) := (e119 393 rm (by first | decide | omega)).trans k116
        have s119 : px_S t119 (a + 1) f := ⟨g119, (e119 383 7 (by first | decide | omega)).trans s116.2.1, (e119 383 8 (by first | decide | omega)).trans s116.2.2.1, s116.2.2.2⟩
        refine ex_go (S := (74, [(0, gx_r 383), (1, .inl w)], [gx_r 383], t119, n, 0)) rfl (fun _ => rfl) rfl ?_
        refine ex_go (S := (75, [(0, gx_r 383), (1, .inl w)], [gx_r 383, gx_r 383], t119, n, 0)) rfl (fun _ => rfl) rfl ?_
        refine gx_get rfl s119.1 rfl k20 rfl ?_
        refine ex_go (S := (79, [(0, gx_r 383), (1, .inl w)], [.inl 1, .inl rm, gx_r 383], t119, n, 0)) rfl (fun _ => rfl) rfl ?_
        refine ex_iadd rfl (by first | decide | omega) rfl ?_
        refine gx_put rfl s119.1 rfl rfl (ai_in_h (by first | decide | omega) (by first | decide | omega) (by first | decide | omega)) rfl (fun t123 g123 k123 e123 => ?_)
        have k24 : ai_hv t123 387 (a + 1) = some (.inr (.inl m14)) := (e123 387 (a + 1) (by first | decide | omega)).trans k21
        have k25 : ai_hv t123 393 rm = some (.inr (.inl m14)) := (e123 393 rm (by first | decide | omega)).trans k22
        have k26 : ai_hv t123 395 rm = some (.inl w) := (e123 395 rm (by first | decide | omega)).trans k119
        have s123 : px_S t123 (a + 1) f := ⟨g123, (e123 383 7 (by first | decide | omega)).trans s119.2.1, (e123 383 8 (by first | decide | omega)).trans s119.2.2.1, s119.2.2.2⟩
        refine ex_go (S := (84, [(0, gx_r 383), (1, .inl w)], [gx_r 383], t123, n, 0)) rfl (fun _ => rfl) rfl ?_
        refine ex_go (S := (85, [(0, gx_r 383), (1, .inl w)], [gx_r 383, gx_r 383], t123, n, 0)) rfl (fun _ => rfl) rfl ?_
        refine gx_get rfl s123.1 rfl s123.2.1 rfl ?_
        refine ex_go (S := (89, [(0, gx_r 383), (1, .inl w)], [.inl 1, .inl (a + 1), gx_r 383], t123, n, 0)) rfl (fun _ => rfl) rfl ?_
        refine ex_iadd rfl (by first | decide | omega) rfl ?_
        refine gx_put rfl s123.1 rfl rfl (ai_in_h (by first | decide | omega) (by first | decide | omega) (by first | decide | omega)) rfl (fun t127 g127 k127 e127 => ?_)
        have k28 : ai_hv t127 387 (a + 1) = some (.inr (.inl m14)) := (e127 387 (a + 1) (by first | decide | omega)).trans k24
        have k29 : ai_hv t127 393 rm = some (.inr (.inl m14)) := (e127 393 rm (by first | decide | omega)).trans k25
        have k30 : ai_hv t127 395 rm = some (.inl w) := (e127 395 rm (by first | decide | omega)).trans k26
        have k31 : ai_hv t127 383 19 = some (.inl (rm + 1)) := (e127 383 19 (by first | decide | omega)).trans k123
        have s127 : px_S t127 ((a + 1) + 1) f := ⟨g127, k127, (e127 383 8 (by first | decide | omega)).trans s123.2.2.1, by omega, s123.2.2.2.2⟩
        refine ex_ret (r := (none, t127, n, 0)) rfl (fun _ => rfl) ?_
        exact ⟨_, rfl, t127, (a + 1) + 1, f, rm + 1, rfl, s127, (fun c i h => (e127 c i (by first | decide | omega)).trans ((e123 c i (by first | decide | omega)).trans ((e119 c i (by first | decide | omega)).trans ((e116 c i (by first | decide | omega)).trans (e101 c i (by first | decide | omega)))))), k31, by omega⟩
  · refine gx_1f (c := .ne) rfl (by first | decide | omega) hc6 rfl ?_
    refine ex_go (S := (18, [(0, gx_r 383), (1, .inl w)], [gx_r 383], t101, n, 0)) rfl (fun _ => rfl) rfl ?_
    refine ex_go (S := (19, [(0, gx_r 383), (1, .inl w)], [.inl 1, gx_r 383], t101, n, 0)) rfl (fun _ => rfl) rfl ?_
    obtain ⟨_, r132, t132, a132, f132, rfl, s132, e132, q132⟩ := pk_wrong (d + 2) n (s101) (w := 1) (by first | decide | omega)
    have b132 := s132.2.2.2
    refine gx_call0 rfl rfl s101.1 rfl rfl r132 rfl ?_
    have k33 : ai_hv t132 383 19 = some (.inl rm) := (e132 383 19 (by first | decide | omega)).trans k2
    refine ex_go (S := (38, [(0, gx_r 383), (1, .inl w)], [], t132, n, 0)) rfl (fun _ => rfl) rfl ?_
    refine ex_go (S := (39, [(0, gx_r 383), (1, .inl w)], [gx_r 383], t132, n, 0)) rfl (fun _ => rfl) rfl ?_
    refine gx_get rfl s132.1 rfl s132.2.2.1 rfl ?_
    refine gx_1t (c := .ne) rfl (by first | decide | omega) (show f132 ≠ 0 from by omega) rfl ?_
    refine ex_ret (r := (none, t132, n, 0)) rfl (fun _ => rfl) ?_
    exact ⟨_, rfl, t132, a132, f132, rm, rfl, s132, (fun c i h => (e132 c i (by first | decide | omega)).trans (e101 c i (by first | decide | omega))), k33, by omega⟩
theorem pk_readThing (d n : Nat) {t0 : en_H} {a c : Nat} (s0 : px_S t0 a 0) (ha : a ≤ 999) (hca : c ≤ a) (hO : px_O t0 c) : ∃ r, en_u (d + 5) 187 [gx_r 383] t0 n = some r ∧ ∃ t' a' f', r = (none, t', n, 0) ∧ px_S t' a' f' ∧ px_PG t0 t' ∧ (f' = 0 → a < a' ∧ ∃ c', px_O t' c' ∧ c' ≤ a') := by
  have b0 := s0.2.2.2
  obtain ⟨r, nt, ng, ns, nl, ov, dn, pa, kr, knt, kng, kns, knl, kov, kdn, kpa, kc, hA, hE1, hE4⟩ := hO
  refine en_u_ex (d := d + 4) rfl ?_
  show en_ex _ _ _ _ (0, [(0, gx_r 383)], [], t0, n, 0) _
  refine ex_go (S := (1, [(0, gx_r 383)], [gx_r 383], t0, n, 0)) rfl (fun _ => rfl) rfl ?_
  refine gx_ref (c := 389) rfl s0.1 rfl rfl rfl rfl ?_
  refine ex_go (S := (7, [(0, gx_r 383)], [.inl 162, gx_r 389], t0, n, 0)) rfl (fun _ => rfl) rfl ?_
  refine gx_ag (v := .inl nt) (cb := fun c => Nat.beq c 0) rfl (fun _ => rfl) s0.1 rfl rfl knt (by first | decide | omega) rfl ?_
  refine ex_go (S := (9, [(1, .inl nt), (0, gx_r 383)], [], t0, n, 0)) rfl (fun _ => rfl) rfl ?_
  refine ex_go (S := (10, [(1, .inl nt), (0, gx_r 383)], [.inl nt], t0, n, 0)) rfl (fun _ => rfl) rfl ?_
  refine ex_go (S := (12, [(1, .inl nt), (0, gx_r 383)], [.inl 6, .inl nt], t0, n, 0)) rfl (fun _ => rfl) rfl ?_
  by_cases hc1 : nt ≠ 6
  · refine gx_2t (c := .ne) rfl (by first | decide | omega) (by first | decide | omega) hc1 rfl ?_
    refine ex_go (S := (22, [(1, .inl nt), (0, gx_r 383)], [gx_r 383], t0, n, 0)) rfl (fun _ => rfl) rfl ?_
    refine ex_go (S := (23, [(1, .inl nt), (0, gx_r 383)], [.inl nt, gx_r 383], t0, n, 0)) rfl (fun _ => rfl) rfl ?_
    obtain ⟨_, r102, t102, a102, f102, rm102, rfl, s102, e102, k102, q102⟩ := pk_readName d n (s0) (w := nt) (rm := r) (by first | decide | omega) (by first | decide | omega) (by first | decide | omega) (by first | decide | omega) kr
    have b102 := s102.2.2.2
    refine gx_call0 rfl rfl s0.1 rfl rfl r102 rfl ?_
    have k3 : ai_hv t102 389 162 = some (.inl nt) := (e102 389 162 (by first | decide | omega)).trans knt
    have k4 : ai_hv t102 389 166 = some (.inl ng) := (e102 389 166 (by first | decide | omega)).trans kng
    have k5 : ai_hv t102 389 167 = some (.inl ns) := (e102 389 167 (by first | decide | omega)).trans kns
    have k6 : ai_hv t102 389 168 = some (.inl nl) := (e102 389 168 (by first | decide | omega)).trans knl
    have k7 : ai_hv t102 389 160 = some (.inl ov) := (e102 389 160 (by first | decide | omega)).trans kov
    have k8 : ai_hv t102 389 161 = some (.inl dn) := (e102 389 161 (by first | decide | omega)).trans kdn
    have k9 : ai_hv t102 389 165 = some (.inl pa) := (e102 389 165 (by first | decide | omega)).trans kpa
    have k10 : ai_hv t102 383 13 = some (.inl c) := (e102 383 13 (by first | decide | omega)).trans kc
    refine ex_go (S := (29, [(1, .inl nt), (0, gx_r 383)], [.inl 236], t102, n, 0)) rfl (fun _ => rfl) rfl ?_
    refine ex_go (S := (30, [(1, .inl nt), (0, gx_r 383)], [.inl 3, .inl 236], t102, n, 0)) rfl (fun _ => rfl) rfl ?_
    refine ex_go (S := (31, [(1, .inl nt), (0, gx_r 383)], [.inl nt, .inl 3, .inl 236], t102, n, 0)) rfl (fun _ => rfl) rfl ?_
    refine gx_imul rfl (by first | decide | omega) rfl ?_
    refine ex_iadd rfl (by first | decide | omega) rfl ?_
    refine ex_go (S := (34, [(2, .inl (236 + (3 * nt))), (1, .inl nt), (0, gx_r 383)], [], t102, n, 0)) rfl (fun _ => rfl) rfl ?_
    refine ex_go (S := (35, [(2, .inl (236 + (3 * nt))), (1, .inl nt), (0, gx_r 383)], [gx_r 383], t102, n, 0)) rfl (fun _ => rfl) rfl ?_
    refine gx_ref (c := 389) rfl s102.1 rfl rfl rfl rfl ?_
    refine ex_go (S := (39, [(2, .inl (236 + (3 * nt))), (1, .inl nt), (0, gx_r 383)], [.inl (236 + (3 * nt)), gx_r 389], t102, n, 0)) rfl (fun _ => rfl) rfl ?_
    refine ex_go (S := (40, [(2, .inl (236 + (3 * nt))), (1, .inl nt), (0, gx_r 383)], [gx_r 383, .inl (236 + (3 * nt)), gx_r 389], t102, n, 0)) rfl (fun _ => rfl) rfl ?_
    refine ex_go (S := (42, [(2, .inl (236 + (3 * nt))), (1, .inl nt), (0, gx_r 383)], [.inl 31, gx_r 383, .inl (236 + (3 * nt)), gx_r 389], t102, n, 0)) rfl (fun _ => rfl) rfl ?_
    refine ex_go (S := (43, [(2, .inl (236 + (3 * nt))), (1, .inl nt), (0, gx_r 383)], [.inl 4, .inl 31, gx_r 383, .inl (236 + (3 * nt)), gx_r 389], t102, n, 0)) rfl (fun _ => rfl) rfl ?_
    obtain ⟨_, r111, v111, t111, a111, f111, rfl, s111, e111, q111⟩ := pk_takeOne (d + 1) n (s102) (w := 31) (m := 4) (by first | decide | omega) (by first | decide | omega)
    have b111 := s111.2.2.2
    refine gx_call1 rfl rfl s102.1 rfl rfl r111 rfl ?_
    have k12 : ai_hv t111 389 162 = some (.inl nt) := (e111 389 162 (by first | decide | omega)).trans k3
    have k13 : ai_hv t111 389 166 = some (.inl ng) := (e111 389 166 (by first | decide | omega)).trans k4
    have k14 : ai_hv t111 389 167 = some (.inl ns) := (e111 389 167 (by first | decide | omega)).trans k5
    have k15 : ai_hv t111 389 168 = some (.inl nl) := (e111 389 168 (by first | decide | omega)).trans k6
    have k16 : ai_hv t111 389 160 = some (.inl ov) := (e111 389 160 (by first | decide | omega)).trans k7
    have k17 : ai_hv t111 389 161 = some (.inl dn) := (e111 389 161 (by first | decide | omega)).trans k8
    have k18 : ai_hv t111 389 165 = some (.inl pa) := (e111 389 165 (by first | decide | omega)).trans k9
    have k19 : ai_hv t111 383 13 = some (.inl c) := (e111 383 13 (by first | decide | omega)).trans k10
    have k20 : ai_hv t111 383 19 = some (.inl rm102) := (e111 383 19 (by first | decide | omega)).trans k102
    refine gx_ap rfl (fun _ => rfl) s111.1 rfl rfl rfl (show 236 + (3 * nt) < 320 from by omega) (px_run_thing (3 * nt) (by first | decide | omega) (by first | decide | omega)) (ai_in_h (by first | decide | omega) (by first | decide | omega) (by first | decide | omega)) rfl (fun t121 g121 k121 e121 => ?_)
    have k22 : ai_hv t121 389 162 = some (.inl nt) := (e121 389 162 (by first | decide | omega)).trans k12
    have k23 : ai_hv t121 389 166 = some (.inl ng) := (e121 389 166 (by first | decide | omega)).trans k13
    have k24 : ai_hv t121 389 167 = some (.inl ns) := (e121 389 167 (by first | decide | omega)).trans k14
    have k25 : ai_hv t121 389 168 = some (.inl nl) := (e121 389 168 (by first | decide | omega)).trans k15
    have k26 : ai_hv t121 389 160 = some (.inl ov) := (e121 389 160 (by first | decide | omega)).trans k16
    have k27 : ai_hv t121 389 161 = some (.inl dn) := (e121 389 161 (by first | decide | omega)).trans k17
    have k28 : ai_hv t121 389 165 = some (.inl pa) := (e121 389 165 (by first | decide | omega)).trans k18
    have k29 : ai_hv t121 383 13 = some (.inl c) := (e121 383 13 (by first | decide | omega)).trans k19
    have k30 : ai_hv t121 383 19 = some (.inl rm102) := (e121 383 19 (by first | decide | omega)).trans k20
    have s121 : px_S t121 a111 f111 := ⟨g121, (e121 383 7 (by first | decide | omega)).trans s111.2.1, (e121 383 8 (by first | decide | omega)).trans s111.2.2.1, s111.2.2.2⟩
    refine ex_go (S := (48, [(2, .inl (236 + (3 * nt))), (1, .inl nt), (0, gx_r 383)], [gx_r 383], t121, n, 0)) rfl (fun _ => rfl) rfl ?_
    refine ex_go (S := (49, [(2, .inl (236 + (3 * nt))), (1, .inl nt), (0, gx_r 383)], [.inl 3, gx_r 383], t121, n, 0)) rfl (fun _ => rfl) rfl ?_
    obtain ⟨_, r131, t131, a131, f131, rfl, s131, e131, q131⟩ := pk_takeWord (d + 1) n (s121) (w := 3) (by first | decide | omega)
    have b131 := s131.2.2.2
    refine gx_call0 rfl rfl s121.1 rfl rfl r131 rfl ?_
    have k32 : ai_hv t131 389 162 = some (.inl nt) := (e131 389 162 (by first | decide | omega)).trans k22
    have k33 : ai_hv t131 389 166 = some (.inl ng) := (e131 389 166 (by first | decide | omega)).trans k23
    have k34 : ai_hv t131 389 167 = some (.inl ns) := (e131 389 167 (by first | decide | omega)).trans k24
    have k35 : ai_hv t131 389 168 = some (.inl nl) := (e131 389 168 (by first | decide | omega)).trans k25
    have k36 : ai_hv t131 389 160 = some (.inl ov) := (e131 389 160 (by first | decide | omega)).trans k26
    have k37 : ai_hv t131 389 161 = some (.inl dn) := (e131 389 161 (by first | decide | omega)).trans k27
    have k38 : ai_hv t131 389 165 = some (.inl pa) := (e131 389 165 (by first | decide | omega)).trans k28
    have k39 : ai_hv t131 383 13 = some (.inl c) := (e131 383 13 (by first | decide | omega)).trans k29
    have k40 : ai_hv t131 383 19 = some (.inl rm102) := (e131 383 19 (by first | decide | omega)).trans k30
    have k41 : ai_hv t131 389 (236 + (3 * nt)) = some (.inl v111) := (e131 389 (236 + (3 * nt)) (by first | decide | omega)).trans k121
    refine ex_go (S := (53, [(2, .inl (236 + (3 * nt))), (1, .inl nt), (0, gx_r 383)], [gx_r 383], t131, n, 0)) rfl (fun _ => rfl) rfl ?_
    refine gx_ref (c := 389) rfl s131.1 rfl rfl rfl rfl ?_
    refine ex_go (S := (57, [(2, .inl (236 + (3 * nt))), (1, .inl nt), (0, gx_r 383)], [.inl (236 + (3 * nt)), gx_r 389], t131, n, 0)) rfl (fun _ => rfl) rfl ?_
    refine ex_go (S := (58, [(2, .inl (236 + (3 * nt))), (1, .inl nt), (0, gx_r 383)], [.inl 1, .inl (236 + (3 * nt)), gx_r 389], t131, n, 0)) rfl (fun _ => rfl) rfl ?_
    refine ex_iadd rfl (by first | decide | omega) rfl ?_
    refine ex_go (S := (60, [(2, .inl (236 + (3 * nt))), (1, .inl nt), (0, gx_r 383)], [gx_r 383, .inl ((236 + (3 * nt)) + 1), gx_r 389], t131, n, 0)) rfl (fun _ => rfl) rfl ?_
    refine ex_go (S := (61, [(2, .inl (236 + (3 * nt))), (1, .inl nt), (0, gx_r 383)], [.inl 0, gx_r 383, .inl ((236 + (3 * nt)) + 1), gx_r 389], t131, n, 0)) rfl (fun _ => rfl) rfl ?_
    refine ex_go (S := (62, [(2, .inl (236 + (3 * nt))), (1, .inl nt), (0, gx_r 383)], [gx_r 383, .inl 0, gx_r 383, .inl ((236 + (3 * nt)) + 1), gx_r 389], t131, n, 0)) rfl (fun _ => rfl) rfl ?_
    obtain ⟨_, r42, rfl⟩ := pk_lastOver (d + 3) n s131.1 k36 (by first | decide | omega)
    refine gx_call1 rfl rfl s131.1 rfl rfl r42 rfl ?_
    obtain ⟨_, r143, v143, t143, a143, f143, rfl, s143, e143, q143⟩ := pk_takeNumber (d + 2) n (s131) (lo := 0) (hi := ov - 1) (by first | decide | omega) (by first | decide | omega)
    have b143 := s143.2.2.2
    refine gx_call1 rfl rfl s131.1 rfl rfl r143 rfl ?_
    have k44 : ai_hv t143 389 162 = some (.inl nt) := (e143 389 162 (by first | decide | omega)).trans k32
    have k45 : ai_hv t143 389 166 = some (.inl ng) := (e143 389 166 (by first | decide | omega)).trans k33
    have k46 : ai_hv t143 389 167 = some (.inl ns) := (e143 389 167 (by first | decide | omega)).trans k34
    have k47 : ai_hv t143 389 168 = some (.inl nl) := (e143 389 168 (by first | decide | omega)).trans k35
    have k48 : ai_hv t143 389 160 = some (.inl ov) := (e143 389 160 (by first | decide | omega)).trans k36
    have k49 : ai_hv t143 389 161 = some (.inl dn) := (e143 389 161 (by first | decide | omega)).trans k37
    have k50 : ai_hv t143 389 165 = some (.inl pa) := (e143 389 165 (by first | decide | omega)).trans k38
    have k51 : ai_hv t143 383 13 = some (.inl c) := (e143 383 13 (by first | decide | omega)).trans k39
    have k52 : ai_hv t143 383 19 = some (.inl rm102) := (e143 383 19 (by first | decide | omega)).trans k40
    have k53 : ai_hv t143 389 (236 + (3 * nt)) = some (.inl v111) := (e143 389 (236 + (3 * nt)) (by first | decide | omega)).trans k41
    refine gx_ap rfl (fun _ => rfl) s143.1 rfl rfl rfl (show (236 + (3 * nt)) + 1 < 320 from by omega) (px_run_thing (3 * nt + 1) (by first | decide | omega) (by first | decide | omega)) (ai_in_h (by first | decide | omega) (by first | decide | omega) (by first | decide | omega)) rfl (fun t154 g154 k154 e154 => ?_)
    have k55 : ai_hv t154 389 162 = some (.inl nt) := (e154 389 162 (by first | decide | omega)).trans k44
    have k56 : ai_hv t154 389 166 = some (.inl ng) := (e154 389 166 (by first | decide | omega)).trans k45
    have k57 : ai_hv t154 389 167 = some (.inl ns) := (e154 389 167 (by first | decide | omega)).trans k46
    have k58 : ai_hv t154 389 168 = some (.inl nl) := (e154 389 168 (by first | decide | omega)).trans k47
    have k59 : ai_hv t154 389 160 = some (.inl ov) := (e154 389 160 (by first | decide | omega)).trans k48
    have k60 : ai_hv t154 389 161 = some (.inl dn) := (e154 389 161 (by first | decide | omega)).trans k49
    have k61 : ai_hv t154 389 165 = some (.inl pa) := (e154 389 165 (by first | decide | omega)).trans k50
    have k62 : ai_hv t154 383 13 = some (.inl c) := (e154 383 13 (by first | decide | omega)).trans k51
    have k63 : ai_hv t154 383 19 = some (.inl rm102) := (e154 383 19 (by first | decide | omega)).trans k52
    have k64 : ai_hv t154 389 (236 + (3 * nt)) = some (.inl v111) := (e154 389 (236 + (3 * nt)) (by first | decide | omega)).trans k53
    have s154 : px_S t154 a143 f143 := ⟨g154, (e154 383 7 (by first | decide | omega)).trans s143.2.1, (e154 383 8 (by first | decide | omega)).trans s143.2.2.1, s143.2.2.2⟩
    refine ex_go (S := (70, [(2, .inl (236 + (3 * nt))), (1, .inl nt), (0, gx_r 383)], [gx_r 383], t154, n, 0)) rfl (fun _ => rfl) rfl ?_
    refine gx_ref (c := 389) rfl s154.1 rfl rfl rfl rfl ?_
    refine ex_go (S := (74, [(2, .inl (236 + (3 * nt))), (1, .inl nt), (0, gx_r 383)], [.inl (236 + (3 * nt)), gx_r 389], t154, n, 0)) rfl (fun _ => rfl) rfl ?_
    refine ex_go (S := (75, [(2, .inl (236 + (3 * nt))), (1, .inl nt), (0, gx_r 383)], [.inl 2, .inl (236 + (3 * nt)), gx_r 389], t154, n, 0)) rfl (fun _ => rfl) rfl ?_
    refine ex_iadd rfl (by first | decide | omega) rfl ?_
    refine ex_go (S := (77, [(2, .inl (236 + (3 * nt))), (1, .inl nt), (0, gx_r 383)], [gx_r 383, .inl ((236 + (3 * nt)) + 2), gx_r 389], t154, n, 0)) rfl (fun _ => rfl) rfl ?_
    refine ex_go (S := (78, [(2, .inl (236 + (3 * nt))), (1, .inl nt), (0, gx_r 383)], [.inl 0, gx_r 383, .inl ((236 + (3 * nt)) + 2), gx_r 389], t154, n, 0)) rfl (fun _ => rfl) rfl ?_
    refine ex_go (S := (79, [(2, .inl (236 + (3 * nt))), (1, .inl nt), (0, gx_r 383)], [gx_r 383, .inl 0, gx_r 383, .inl ((236 + (3 * nt)) + 2), gx_r 389], t154, n, 0)) rfl (fun _ => rfl) rfl ?_
    obtain ⟨_, r65, rfl⟩ := pk_lastDown (d + 3) n s154.1 k60 (by first | decide | omega)
    refine gx_call1 rfl rfl s154.1 rfl rfl r65 rfl ?_
    obtain ⟨_, r166, v166, t166, a166, f166, rfl, s166, e166, q166⟩ := pk_takeNumber (d + 2) n (s154) (lo := 0) (hi := dn - 1) (by first | decide | omega) (by first | decide | omega)
    have b166 := s166.2.2.2
    refine gx_call1 rfl rfl s154.1 rfl rfl r166 rfl ?_
    have k67 : ai_hv t166 389 162 = some (.inl nt) := (e166 389 162 (by first | decide | omega)).trans k55
    have k68 : ai_hv t166 389 166 = some (.inl ng) := (e166 389 166 (by first | decide | omega)).trans k56
    have k69 : ai_hv t166 389 167 = some (.inl ns) := (e166 389 167 (by first | decide | omega)).trans k57
    have k70 : ai_hv t166 389 168 = some (.inl nl) := (e166 389 168 (by first | decide | omega)).trans k58
    have k71 : ai_hv t166 389 160 = some (.inl ov) := (e166 389 160 (by first | decide | omega)).trans k59
    have k72 : ai_hv t166 389 161 = some (.inl dn) := (e166 389 161 (by first | decide | omega)).trans k60
    have k73 : ai_hv t166 389 165 = some (.inl pa) := (e166 389 165 (by first | decide | omega)).trans k61
    have k74 : ai_hv t166 383 13 = some (.inl c) := (e166 383 13 (by first | decide | omega)).trans k62
    have k75 : ai_hv t166 383 19 = some (.inl rm102) := (e166 383 19 (by first | decide | omega)).trans k63
    have k76 : ai_hv t166 389 (236 + (3 * nt)) = some (.inl v111) := (e166 389 (236 + (3 * nt)) (by first | decide | omega)).trans k64
    have k77 : ai_hv t166 389 ((236 + (3 * nt)) + 1) = some (.inl v143) := (e166 389 ((236 + (3 * nt)) + 1) (by first | decide | omega)).trans k154
    refine gx_ap rfl (fun _ => rfl) s166.1 rfl rfl rfl (show (236 + (3 * nt)) + 2 < 320 from by omega) (px_run_thing (3 * nt + 2) (by first | decide | omega) (by first | decide | omega)) (ai_in_h (by first | decide | omega) (by first | decide | omega) (by first | decide | omega)) rfl (fun t178 g178 k178 e178 => ?_)
    have k79 : ai_hv t178 389 162 = some (.inl nt) := (e178 389 162 (by first | decide | omega)).trans k67
    have k80 : ai_hv t178 389 166 = some (.inl ng) := (e178 389 166 (by first | decide | omega)).trans k68
    have k81 : ai_hv t178 389 167 = some (.inl ns) := (e178 389 167 (by first | decide | omega)).trans k69
    have k82 : ai_hv t178 389 168 = some (.inl nl) := (e178 389 168 (by first | decide | omega)).trans k70
    have k83 : ai_hv t178 389 160 = some (.inl ov) := (e178 389 160 (by first | decide | omega)).trans k71
    have k84 : ai_hv t178 389 161 = some (.inl dn) := (e178 389 161 (by first | decide | omega)).trans k72
    have k85 : ai_hv t178 389 165 = some (.inl pa) := (e178 389 165 (by first | decide | omega)).trans k73
    have k86 : ai_hv t178 383 13 = some (.inl c) := (e178 383 13 (by first | decide | omega)).trans k74
    have k87 : ai_hv t178 383 19 = some (.inl rm102) := (e178 383 19 (by first | decide | omega)).trans k75
    have k88 : ai_hv t178 389 (236 + (3 * nt)) = some (.inl v111) := (e178 389 (236 + (3 * nt)) (by first | decide | omega)).trans k76
    have k89 : ai_hv t178 389 ((236 + (3 * nt)) + 1) = some (.inl v143) := (e178 389 ((236 + (3 * nt)) + 1) (by first | decide | omega)).trans k77
    have s178 : px_S t178 a166 f166 := ⟨g178, (e178 383 7 (by first | decide | omega)).trans s166.2.1, (e178 383 8 (by first | decide | omega)).trans s166.2.2.1, s166.2.2.2⟩
    refine ex_go (S := (87, [(2, .inl (236 + (3 * nt))), (1, .inl nt), (0, gx_r 383)], [gx_r 383], t178, n, 0)) rfl (fun _ => rfl) rfl ?_
    refine gx_ref (c := 389) rfl s178.1 rfl rfl rfl rfl ?_
    refine ex_go (S := (93, [(2, .inl (236 + (3 * nt))), (1, .inl nt), (0, gx_r 383)], [.inl 162, gx_r 389], t178, n, 0)) rfl (fun _ => rfl) rfl ?_
    refine ex_go (S := (94, [(2, .inl (236 + (3 * nt))), (1, .inl nt), (0, gx_r 383)], [.inl 162, gx_r 389, .inl 162, gx_r 389], t178, n, 0)) rfl (fun _ => rfl) rfl ?_
    refine gx_ag (v := .inl nt) (cb := fun c => Nat.beq c 0) rfl (fun _ => rfl) s178.1 rfl rfl k79 (by first | decide | omega) rfl ?_
    refine ex_go (S := (96, [(2, .inl (236 + (3 * nt))), (1, .inl nt), (0, gx_r 383)], [.inl 1, .inl nt, .inl 162, gx_r 389], t178, n, 0)) rfl (fun _ => rfl) rfl ?_
    refine ex_iadd rfl (by first | decide | omega) rfl ?_
    refine gx_ap rfl (fun _ => rfl) s178.1 rfl rfl rfl (show 162 < 320 from by omega) rfl (ai_in_h (by first | decide | omega) (by first | decide | omega) (by first | decide | omega)) rfl (fun t190 g190 k190 e190 => ?_)
    have k91 : ai_hv t190 389 166 = some (.inl ng) := (e190 389 166 (by first | decide | omega)).trans k80
    have k92 : ai_hv t190 389 167 = some (.inl ns) := (e190 389 167 (by first | decide | omega)).trans k81
    have k93 : ai_hv t190 389 168 = some (.inl nl) := (e190 389 168 (by first | decide | omega)).trans k82
    have k94 : ai_hv t190 389 160 = some (.inl ov) := (e190 389 160 (by first | decide | omega)).trans k83
    have k95 : ai_hv t190 389 161 = some (.inl dn) := (e190 389 161 (by first | decide | omega)).trans k84
    have k96 : ai_hv t190 389 165 = some (.inl pa) := (e190 389 165 (by first | decide | omega)).trans k85
    have k97 : ai_hv t190 383 13 = some (.inl c) := (e190 383 13 (by first | decide | omega)).trans k86
    have k98 : ai_hv t190 383 19 = some (.inl rm102) := (e190 383 19 (by first | decide | omega)).trans k87
    have k99 : ai_hv t190 389 (236 + (3 * nt)) = some (.inl v111) := (e190 389 (236 + (3 * nt)) (by first | decide | omega)).trans k88
    have k100 : ai_hv t190 389 ((236 + (3 * nt)) + 1) = some (.inl v143) := (e190 389 ((236 + (3 * nt)) + 1) (by first | decide | omega)).trans k89
    have k101 : ai_hv t190 389 ((236 + (3 * nt)) + 2) = some (.inl v166) := (e190 389 ((236 + (3 * nt)) + 2) (by first | decide | omega)).trans k178
    have s190 : px_S t190 a166 f166 := ⟨g190, (e190 383 7 (by first | decide | omega)).trans s178.2.1, (e190 383 8 (by first | decide | omega)).trans s178.2.2.1, s178.2.2.2⟩
    refine ex_ret (r := (none, t190, n, 0)) rfl (fun _ => rfl) ?_
    refine ⟨_, rfl, t190, a166, f166, rfl, s190, (fun c i h => (e190 c i (by first | decide | omega)).trans ((e178 c i (by first | decide | omega)).trans ((e166 c i (by first | decide | omega)).trans ((e154 c i (by first | decide | omega)).trans ((e143 c i (by first | decide | omega)).trans ((e131 c i (by first | decide | omega)).trans ((e121 c i (by first | decide | omega)).trans ((e111 c i (by first | decide | omega)).trans (e102 c i (by first | decide | omega)))))))))), fun h0 => ?_⟩
    refine ⟨by omega, c, ⟨rm102, nt + 1, ng, ns, nl, ov, dn, pa, k98, k190, k91, k92, k93, k94, k95, k96, k97, by omega, ?_, ?_⟩, by omega⟩
    · exact px_E1_kept hE1 ((e190 389 163 (by first | decide | omega)).trans ((e178 389 163 (by first | decide | omega)).trans ((e166 389 163 (by first | decide | omega)).trans ((e154 389 163 (by first | decide | omega)).trans ((e143 389 163 (by first | decide | omega)).trans ((e131 389 163 (by first | decide | omega)).trans ((e121 389 163 (by first | decide | omega)).trans ((e111 389 163 (by first | decide | omega)).trans (e102 389 163 (by first | decide | omega)))))))))) (fun k hk => (e190 389 (255 + 4 * k) (by first | decide | omega)).trans ((e178 389 (255 + 4 * k) (by first | decide | omega)).trans ((e166 389 (255 + 4 * k) (by first | decide | omega)).trans ((e154 389 (255 + 4 * k) (by first | decide | omega)).trans ((e143 389 (255 + 4 * k) (by first | decide | omega)).trans ((e131 389 (255 + 4 * k) (by first | decide | omega)).trans ((e121 389 (255 + 4 * k) (by first | decide | omega)).trans ((e111 389 (255 + 4 * k) (by first | decide | omega)).trans (e102 389 (255 + 4 * k) (by first | decide | omega))))))))))
    · exact px_E4_kept hE4 (Nat.le_refl _) (fun l hl => (e190 389 (169 + l) (by first | decide | omega)).trans ((e178 389 (169 + l) (by first | decide | omega)).trans ((e166 389 (169 + l) (by first | decide | omega)).trans ((e154 389 (169 + l) (by first | decide | omega)).trans ((e143 389 (169 + l) (by first | decide | omega)).trans ((e131 389 (169 + l) (by first | decide | omega)).trans ((e121 389 (169 + l) (by first | decide | omega)).trans ((e111 389 (169 + l) (by first | decide | omega)).trans (e102 389 (169 + l) (by first | decide | omega)))))))))) (fun i hi => (e190 390 (1100 + i) (by first | decide | omega)).trans ((e178 390 (1100 + i) (by first | decide | omega)).trans ((e166 390 (1100 + i) (by first | decide | omega)).trans ((e154 390 (1100 + i) (by first | decide | omega)).trans ((e143 390 (1100 + i) (by first | decide | omega)).trans ((e131 390 (1100 + i) (by first | decide | omega)).trans ((e121 390 (1100 + i) (by first | decide | omega)).trans ((e111 390 (1100 + i) (by first | decide | omega)).trans (e102 390 (1100 + i) (by first | decide | omega)))))))))) (fun i hi => (e190 391 (1100 + i) (by first | decide | omega)).trans ((e178 391 (1100 + i) (by first | decide | omega)).trans ((e166 391 (1100 + i) (by first | decide | omega)).trans ((e154 391 (1100 + i) (by first | decide | omega)).trans ((e143 391 (1100 + i) (by first | decide | omega)).trans ((e131 391 (1100 + i) (by first | decide | omega)).trans ((e121 391 (1100 + i) (by first | decide | omega)).trans ((e111 391 (1100 + i) (by first | decide | omega)).trans (e102 391 (1100 + i) (by first | decide | omega))))))))))
  · refine gx_2f (c := .ne) rfl (by first | decide | omega) (by first | decide | omega) hc1 rfl ?_
    refine ex_go (S := (16, [(1, .inl nt), (0, gx_r 383)], [gx_r 383], t0, n, 0)) rfl (fun _ => rfl) rfl ?_
    refine ex_go (S := (17, [(1, .inl nt), (0, gx_r 383)], [.inl 5, gx_r 383], t0, n, 0)) rfl (fun _ => rfl) rfl ?_
    obtain ⟨_, r202, t202, a202, f202, rfl, s202, e202, q202⟩ := pk_wrong (d + 3) n (s0) (w := 5) (by first | decide | omega)
    have b202 := s202.2.2.2
    refine gx_call0 rfl rfl s0.1 rfl rfl r202 rfl ?_
    have k103 : ai_hv t202 383 19 = some (.inl r) := (e202 383 19 (by first | decide | omega)).trans kr
    have k104 : ai_hv t202 389 162 = some (.inl nt) := (e202 389 162 (by first | decide | omega)).trans knt
    have k105 : ai_hv t202 389 166 = some (.inl ng) := (e202 389 166 (by first | decide | omega)).trans kng
    have k106 : ai_hv t202 389 167 = some (.inl ns) := (e202 389 167 (by first | decide | omega)).trans kns
    have k107 : ai_hv t202 389 168 = some (.inl nl) := (e202 389 168 (by first | decide | omega)).trans knl
    have k108 : ai_hv t202 389 160 = some (.inl ov) := (e202 389 160 (by first | decide | omega)).trans kov
    have k109 : ai_hv t202 389 161 = some (.inl dn) := (e202 389 161 (by first | decide | omega)).trans kdn
    have k110 : ai_hv t202 389 165 = some (.inl pa) := (e202 389 165 (by first | decide | omega)).trans kpa
    have k111 : ai_hv t202 383 13 = some (.inl c) := (e202 383 13 (by first | decide | omega)).trans kc
    refine ex_ret (r := (none, t202, n, 0)) rfl (fun _ => rfl) ?_
    exact ⟨_, rfl, t202, a202, f202, rfl, s202, (fun c i h => e202 c i (by first | decide | omega)), fun h0 => by omega⟩
theorem pk_readGap (d n : Nat) {t0 : en_H} {a c : Nat} (s0 : px_S t0 a 0) (ha : a ≤ 999) (hca : c ≤ a) (hO : px_O t0 c) : ∃ r, en_u (d + 5) 190 [gx_r 383] t0 n = some r ∧ ∃ t' a' f', r = (none, t', n, 0) ∧ px_S t' a' f' ∧ px_PG t0 t' ∧ (f' = 0 → a < a' ∧ ∃ c', px_O t' c' ∧ c' ≤ a') := by
  have b0 := s0.2.2.2
  obtain ⟨r, nt, ng, ns, nl, ov, dn, pa, kr, knt, kng, kns, knl, kov, kdn, kpa, kc, hA, hE1, hE4⟩ := hO
  refine en_u_ex (d := d + 4) rfl ?_
  show en_ex _ _ _ _ (0, [(0, gx_r 383)], [], t0, n, 0) _
  refine ex_go (S := (1, [(0, gx_r 383)], [gx_r 383], t0, n, 0)) rfl (fun _ => rfl) rfl ?_
  refine gx_ref (c := 389) rfl s0.1 rfl rfl rfl rfl ?_
  refine ex_go (S := (7, [(0, gx_r 383)], [.inl 166, gx_r 389], t0, n, 0)) rfl (fun _ => rfl) rfl ?_
  refine gx_ag (v := .inl ng) (cb := fun c => Nat.beq c 0) rfl (fun _ => rfl) s0.1 rfl rfl kng (by first | decide | omega) rfl ?_
  refine ex_go (S := (9, [(1, .inl ng), (0, gx_r 383)], [], t0, n, 0)) rfl (fun _ => rfl) rfl ?_
  refine ex_go (S := (10, [(1, .inl ng), (0, gx_r 383)], [.inl ng], t0, n, 0)) rfl (fun _ => rfl) rfl ?_
  refine ex_go (S := (11, [(1, .inl ng), (0, gx_r 383)], [.inl 5, .inl ng], t0, n, 0)) rfl (fun _ => rfl) rfl ?_
  by_cases hc1 : ng ≠ 5
  · refine gx_2t (c := .ne) rfl (by first | decide | omega) (by first | decide | omega) hc1 rfl ?_
    refine ex_go (S := (21, [(1, .inl ng), (0, gx_r 383)], [gx_r 383], t0, n, 0)) rfl (fun _ => rfl) rfl ?_
    refine ex_go (S := (23, [(1, .inl ng), (0, gx_r 383)], [.inl 20, gx_r 383], t0, n, 0)) rfl (fun _ => rfl) rfl ?_
    obtain ⟨_, r102, t102, a102, f102, rm102, rfl, s102, e102, k102, q102⟩ := pk_readName d n (s0) (w := 20) (rm := r) (by first | decide | omega) (by first | decide | omega) (by first | decide | omega) (by first | decide | omega) kr
    have b102 := s102.2.2.2
    refine gx_call0 rfl rfl s0.1 rfl rfl r102 rfl ?_
    have k3 : ai_hv t102 389 162 = some (.inl nt) := (e102 389 162 (by first | decide | omega)).trans knt
    have k4 : ai_hv t102 389 166 = some (.inl ng) := (e102 389 166 (by first | decide | omega)).trans kng
    have k5 : ai_hv t102 389 167 = some (.inl ns) := (e102 389 167 (by first | decide | omega)).trans kns
    have k6 : ai_hv t102 389 168 = some (.inl nl) := (e102 389 168 (by first | decide | omega)).trans knl
    have k7 : ai_hv t102 389 160 = some (.inl ov) := (e102 389 160 (by first | decide | omega)).trans kov
    have k8 : ai_hv t102 389 161 = some (.inl dn) := (e102 389 161 (by first | decide | omega)).trans kdn
    have k9 : ai_hv t102 389 165 = some (.inl pa) := (e102 389 165 (by first | decide | omega)).trans kpa
    have k10 : ai_hv t102 383 13 = some (.inl c) := (e102 383 13 (by first | decide | omega)).trans kc
    refine ex_go (S := (27, [(1, .inl ng), (0, gx_r 383)], [gx_r 383], t102, n, 0)) rfl (fun _ => rfl) rfl ?_
    refine gx_ref (c := 389) rfl s102.1 rfl rfl rfl rfl ?_
    refine ex_go (S := (33, [(1, .inl ng), (0, gx_r 383)], [.inl 284, gx_r 389], t102, n, 0)) rfl (fun _ => rfl) rfl ?_
    refine ex_go (S := (34, [(1, .inl ng), (0, gx_r 383)], [.inl 2, .inl 284, gx_r 389], t102, n, 0)) rfl (fun _ => rfl) rfl ?_
    refine ex_go (S := (35, [(1, .inl ng), (0, gx_r 383)], [.inl ng, .inl 2, .inl 284, gx_r 389], t102, n, 0)) rfl (fun _ => rfl) rfl ?_
    refine gx_imul rfl (by first | decide | omega) rfl ?_
    refine ex_iadd rfl (by first | decide | omega) rfl ?_
    refine ex_go (S := (38, [(1, .inl ng), (0, gx_r 383)], [gx_r 383, .inl (284 + (2 * ng)), gx_r 389], t102, n, 0)) rfl (fun _ => rfl) rfl ?_
    refine ex_go (S := (40, [(1, .inl ng), (0, gx_r 383)], [.inl 13, gx_r 383, .inl (284 + (2 * ng)), gx_r 389], t102, n, 0)) rfl (fun _ => rfl) rfl ?_
    refine ex_go (S := (41, [(1, .inl ng), (0, gx_r 383)], [.inl 0, .inl 13, gx_r 383, .inl (284 + (2 * ng)), gx_r 389], t102, n, 0)) rfl (fun _ => rfl) rfl ?_
    refine ex_go (S := (43, [(1, .inl ng), (0, gx_r 383)], [.inl 10, .inl 0, .inl 13, gx_r 383, .inl (284 + (2 * ng)), gx_r 389], t102, n, 0)) rfl (fun _ => rfl) rfl ?_
    obtain ⟨_, r111, v111, t111, a111, f111, rfl, s111, e111, q111⟩ := pk_takeAfter d n (s102) (w := 13) (lo := 0) (hi := 10) (by first | decide | omega) (by first | decide | omega) (by first | decide | omega)
    have b111 := s111.2.2.2
    refine gx_call1 rfl rfl s102.1 rfl rfl r111 rfl ?_
    have k12 : ai_hv t111 389 162 = some (.inl nt) := (e111 389 162 (by first | decide | omega)).trans k3
    have k13 : ai_hv t111 389 166 = some (.inl ng) := (e111 389 166 (by first | decide | omega)).trans k4
    have k14 : ai_hv t111 389 167 = some (.inl ns) := (e111 389 167 (by first | decide | omega)).trans k5
    have k15 : ai_hv t111 389 168 = some (.inl nl) := (e111 389 168 (by first | decide | omega)).trans k6
    have k16 : ai_hv t111 389 160 = some (.inl ov) := (e111 389 160 (by first | decide | omega)).trans k7
    have k17 : ai_hv t111 389 161 = some (.inl dn) := (e111 389 161 (by first | decide | omega)).trans k8
    have k18 : ai_hv t111 389 165 = some (.inl pa) := (e111 389 165 (by first | decide | omega)).trans k9
    have k19 : ai_hv t111 383 13 = some (.inl c) := (e111 383 13 (by first | decide | omega)).trans k10
    have k20 : ai_hv t111 383 19 = some (.inl rm102) := (e111 383 19 (by first | decide | omega)).trans k102
    refine gx_ap rfl (fun _ => rfl) s111.1 rfl rfl rfl (show 284 + (2 * ng) < 320 from by omega) (px_run_gap (2 * ng) (by first | decide | omega) (by first | decide | omega)) (ai_in_h (by first | decide | omega) (by first | decide | omega) (by first | decide | omega)) rfl (fun t121 g121 k121 e121 => ?_)
    have k22 : ai_hv t121 389 162 = some (.inl nt) := (e121 389 162 (by first | decide | omega)).trans k12
    have k23 : ai_hv t121 389 166 = some (.inl ng) := (e121 389 166 (by first | decide | omega)).trans k13
    have k24 : ai_hv t121 389 167 = some (.inl ns) := (e121 389 167 (by first | decide | omega)).trans k14
    have k25 : ai_hv t121 389 168 = some (.inl nl) := (e121 389 168 (by first | decide | omega)).trans k15
    have k26 : ai_hv t121 389 160 = some (.inl ov) := (e121 389 160 (by first | decide | omega)).trans k16
    have k27 : ai_hv t121 389 161 = some (.inl dn) := (e121 389 161 (by first | decide | omega)).trans k17
    have k28 : ai_hv t121 389 165 = some (.inl pa) := (e121 389 165 (by first | decide | omega)).trans k18
    have k29 : ai_hv t121 383 13 = some (.inl c) := (e121 383 13 (by first | decide | omega)).trans k19
    have k30 : ai_hv t121 383 19 = some (.inl rm102) := (e121 383 19 (by first | decide | omega)).trans k20
    have s121 : px_S t121 a111 f111 := ⟨g121, (e121 383 7 (by first | decide | omega)).trans s111.2.1, (e121 383 8 (by first | decide | omega)).trans s111.2.2.1, s111.2.2.2⟩
    refine ex_go (S := (48, [(1, .inl ng), (0, gx_r 383)], [gx_r 383], t121, n, 0)) rfl (fun _ => rfl) rfl ?_
    refine gx_ref (c := 389) rfl s121.1 rfl rfl rfl rfl ?_
    refine ex_go (S := (54, [(1, .inl ng), (0, gx_r 383)], [.inl 284, gx_r 389], t121, n, 0)) rfl (fun _ => rfl) rfl ?_
    refine ex_go (S := (55, [(1, .inl ng), (0, gx_r 383)], [.inl 2, .inl 284, gx_r 389], t121, n, 0)) rfl (fun _ => rfl) rfl ?_
    refine ex_go (S := (56, [(1, .inl ng), (0, gx_r 383)], [.inl ng, .inl 2, .inl 284, gx_r 389], t121, n, 0)) rfl (fun _ => rfl) rfl ?_
    refine gx_imul rfl (by first | decide | omega) rfl ?_
    refine ex_iadd rfl (by first | decide | omega) rfl ?_
    refine ex_go (S := (59, [(1, .inl ng), (0, gx_r 383)], [.inl 1, .inl (284 + (2 * ng)), gx_r 389], t121, n, 0)) rfl (fun _ => rfl) rfl ?_
    refine ex_iadd rfl (by first | decide | omega) rfl ?_
    refine ex_go (S := (61, [(1, .inl ng), (0, gx_r 383)], [gx_r 383, .inl ((284 + (2 * ng)) + 1), gx_r 389], t121, n, 0)) rfl (fun _ => rfl) rfl ?_
    refine ex_go (S := (63, [(1, .inl ng), (0, gx_r 383)], [.inl 14, gx_r 383, .inl ((284 + (2 * ng)) + 1), gx_r 389], t121, n, 0)) rfl (fun _ => rfl) rfl ?_
    refine ex_go (S := (64, [(1, .inl ng), (0, gx_r 383)], [.inl 0, .inl 14, gx_r 383, .inl ((284 + (2 * ng)) + 1), gx_r 389], t121, n, 0)) rfl (fun _ => rfl) rfl ?_
    refine ex_go (S := (66, [(1, .inl ng), (0, gx_r 383)], [.inl 10, .inl 0, .inl 14, gx_r 383, .inl ((284 + (2 * ng)) + 1), gx_r 389], t121, n, 0)) rfl (fun _ => rfl) rfl ?_
    obtain ⟨_, r131, v131, t131, a131, f131, rfl, s131, e131, q131⟩ := pk_takeAfter d n (s121) (w := 14) (lo := 0) (hi := 10) (by first | decide | omega) (by first | decide | omega) (by first | decide | omega)
    have b131 := s131.2.2.2
    refine gx_call1 rfl rfl s121.1 rfl rfl r131 rfl ?_
    have k32 : ai_hv t131 389 162 = some (.inl nt) := (e131 389 162 (by first | decide | omega)).trans k22
    have k33 : ai_hv t131 389 166 = some (.inl ng) := (e131 389 166 (by first | decide | omega)).trans k23
    have k34 : ai_hv t131 389 167 = some (.inl ns) := (e131 389 167 (by first | decide | omega)).trans k24
    have k35 : ai_hv t131 389 168 = some (.inl nl) := (e131 389 168 (by first | decide | omega)).trans k25
    have k36 : ai_hv t131 389 160 = some (.inl ov) := (e131 389 160 (by first | decide | omega)).trans k26
    have k37 : ai_hv t131 389 161 = some (.inl dn) := (e131 389 161 (by first | decide | omega)).trans k27
    have k38 : ai_hv t131 389 165 = some (.inl pa) := (e131 389 165 (by first | decide | omega)).trans k28
    have k39 : ai_hv t131 383 13 = some (.inl c) := (e131 383 13 (by first | decide | omega)).trans k29
    have k40 : ai_hv t131 383 19 = some (.inl rm102) := (e131 383 19 (by first | decide | omega)).trans k30
    have k41 : ai_hv t131 389 (284 + (2 * ng)) = some (.inl v111) := (e131 389 (284 + (2 * ng)) (by first | decide | omega)).trans k121
    refine gx_ap rfl (fun _ => rfl) s131.1 rfl rfl rfl (show (284 + (2 * ng)) + 1 < 320 from by omega) (px_run_gap (2 * ng + 1) (by first | decide | omega) (by first | decide | omega)) (ai_in_h (by first | decide | omega) (by first | decide | omega) (by first | decide | omega)) rfl (fun t142 g142 k142 e142 => ?_)
    have k43 : ai_hv t142 389 162 = some (.inl nt) := (e142 389 162 (by first | decide | omega)).trans k32
    have k44 : ai_hv t142 389 166 = some (.inl ng) := (e142 389 166 (by first | decide | omega)).trans k33
    have k45 : ai_hv t142 389 167 = some (.inl ns) := (e142 389 167 (by first | decide | omega)).trans k34
    have k46 : ai_hv t142 389 168 = some (.inl nl) := (e142 389 168 (by first | decide | omega)).trans k35
    have k47 : ai_hv t142 389 160 = some (.inl ov) := (e142 389 160 (by first | decide | omega)).trans k36
    have k48 : ai_hv t142 389 161 = some (.inl dn) := (e142 389 161 (by first | decide | omega)).trans k37
    have k49 : ai_hv t142 389 165 = some (.inl pa) := (e142 389 165 (by first | decide | omega)).trans k38
    have k50 : ai_hv t142 383 13 = some (.inl c) := (e142 383 13 (by first | decide | omega)).trans k39
    have k51 : ai_hv t142 383 19 = some (.inl rm102) := (e142 383 19 (by first | decide | omega)).trans k40
    have k52 : ai_hv t142 389 (284 + (2 * ng)) = some (.inl v111) := (e142 389 (284 + (2 * ng)) (by first | decide | omega)).trans k41
    have s142 : px_S t142 a131 f131 := ⟨g142, (e142 383 7 (by first | decide | omega)).trans s131.2.1, (e142 383 8 (by first | decide | omega)).trans s131.2.2.1, s131.2.2.2⟩
    refine ex_go (S := (71, [(1, .inl ng), (0, gx_r 383)], [gx_r 383], t142, n, 0)) rfl (fun _ => rfl) rfl ?_
    refine gx_ref (c := 389) rfl s142.1 rfl rfl rfl rfl ?_
    refine ex_go (S := (77, [(1, .inl ng), (0, gx_r 383)], [.inl 166, gx_r 389], t142, n, 0)) rfl (fun _ => rfl) rfl ?_
    refine ex_go (S := (78, [(1, .inl ng), (0, gx_r 383)], [.inl 166, gx_r 389, .inl 166, gx_r 389], t142, n, 0)) rfl (fun _ => rfl) rfl ?_
    refine gx_ag (v := .inl ng) (cb := fun c => Nat.beq c 0) rfl (fun _ => rfl) s142.1 rfl rfl k44 (by first | decide | omega) rfl ?_
    refine ex_go (S := (80, [(1, .inl ng), (0, gx_r 383)], [.inl 1, .inl ng, .inl 166, gx_r 389], t142, n, 0)) rfl (fun _ => rfl) rfl ?_
    refine ex_iadd rfl (by first | decide | omega) rfl ?_
    refine gx_ap rfl (fun _ => rfl) s142.1 rfl rfl rfl (show 166 < 320 from by omega) rfl (ai_in_h (by first | decide | omega) (by first | decide | omega) (by first | decide | omega)) rfl (fun t153 g153 k153 e153 => ?_)
    have k54 : ai_hv t153 389 162 = some (.inl nt) := (e153 389 162 (by first | decide | omega)).trans k43
    have k55 : ai_hv t153 389 167 = some (.inl ns) := (e153 389 167 (by first | decide | omega)).trans k45
    have k56 : ai_hv t153 389 168 = some (.inl nl) := (e153 389 168 (by first | decide | omega)).trans k46
    have k57 : ai_hv t153 389 160 = some (.inl ov) := (e153 389 160 (by first | decide | omega)).trans k47
    have k58 : ai_hv t153 389 161 = some (.inl dn) := (e153 389 161 (by first | decide | omega)).trans k48
    have k59 : ai_hv t153 389 165 = some (.inl pa) := (e153 389 165 (by first | decide | omega)).trans k49
    have k60 : ai_hv t153 383 13 = some (.inl c) := (e153 383 13 (by first | decide | omega)).trans k50
    have k61 : ai_hv t153 383 19 = some (.inl rm102) := (e153 383 19 (by first | decide | omega)).trans k51
    have k62 : ai_hv t153 389 (284 + (2 * ng)) = some (.inl v111) := (e153 389 (284 + (2 * ng)) (by first | decide | omega)).trans k52
    have k63 : ai_hv t153 389 ((284 + (2 * ng)) + 1) = some (.inl v131) := (e153 389 ((284 + (2 * ng)) + 1) (by first | decide | omega)).trans k142
    have s153 : px_S t153 a131 f131 := ⟨g153, (e153 383 7 (by first | decide | omega)).trans s142.2.1, (e153 383 8 (by first | decide | omega)).trans s142.2.2.1, s142.2.2.2⟩
    refine ex_ret (r := (none, t153, n, 0)) rfl (fun _ => rfl) ?_
    refine ⟨_, rfl, t153, a131, f131, rfl, s153, (fun c i h => (e153 c i (by first | decide | omega)).trans ((e142 c i (by first | decide | omega)).trans ((e131 c i (by first | decide | omega)).trans ((e121 c i (by first | decide | omega)).trans ((e111 c i (by first | decide | omega)).trans (e102 c i (by first | decide | omega))))))), fun h0 => ?_⟩
    refine ⟨by omega, c, ⟨rm102, nt, ng + 1, ns, nl, ov, dn, pa, k61, k54, k153, k55, k56, k57, k58, k59, k60, by omega, ?_, ?_⟩, by omega⟩
    · exact px_E1_kept hE1 ((e153 389 163 (by first | decide | omega)).trans ((e142 389 163 (by first | decide | omega)).trans ((e131 389 163 (by first | decide | omega)).trans ((e121 389 163 (by first | decide | omega)).trans ((e111 389 163 (by first | decide | omega)).trans (e102 389 163 (by first | decide | omega))))))) (fun k hk => (e153 389 (255 + 4 * k) (by first | decide | omega)).trans ((e142 389 (255 + 4 * k) (by first | decide | omega)).trans ((e131 389 (255 + 4 * k) (by first | decide | omega)).trans ((e121 389 (255 + 4 * k) (by first | decide | omega)).trans ((e111 389 (255 + 4 * k) (by first | decide | omega)).trans (e102 389 (255 + 4 * k) (by first | decide | omega)))))))
    · exact px_E4_kept hE4 (Nat.le_refl _) (fun l hl => (e153 389 (169 + l) (by first | decide | omega)).trans ((e142 389 (169 + l) (by first | decide | omega)).trans ((e131 389 (169 + l) (by first | decide | omega)).trans ((e121 389 (169 + l) (by first | decide | omega)).trans ((e111 389 (169 + l) (by first | decide | omega)).trans (e102 389 (169 + l) (by first | decide | omega))))))) (fun i hi => (e153 390 (1100 + i) (by first | decide | omega)).trans ((e142 390 (1100 + i) (by first | decide | omega)).trans ((e131 390 (1100 + i) (by first | decide | omega)).trans ((e121 390 (1100 + i) (by first | decide | omega)).trans ((e111 390 (1100 + i) (by first | decide | omega)).trans (e102 390 (1100 + i) (by first | decide | omega))))))) (fun i hi => (e153 391 (1100 + i) (by first | decide | omega)).trans ((e142 391 (1100 + i) (by first | decide | omega)).trans ((e131 391 (1100 + i) (by first | decide | omega)).trans ((e121 391 (1100 + i) (by first | decide | omega)).trans ((e111 391 (1100 + i) (by first | decide | omega)).trans (e102 391 (1100 + i) (by first | decide | omega)))))))
  · refine gx_2f (c := .ne) rfl (by first | decide | omega) (by first | decide | omega) hc1 rfl ?_
    refine ex_go (S := (15, [(1, .inl ng), (0, gx_r 383)], [gx_r 383], t0, n, 0)) rfl (fun _ => rfl) rfl ?_
    refine ex_go (S := (16, [(1, .inl ng), (0, gx_r 383)], [.inl 5, gx_r 383], t0, n, 0)) rfl (fun _ => rfl) rfl ?_
    obtain ⟨_, r164, t164, a164, f164, rfl, s164, e164, q164⟩ := pk_wrong (d + 3) n (s0) (w := 5) (by first | decide | omega)
    have b164 := s164.2.2.2
    refine gx_call0 rfl rfl s0.1 rfl rfl r164 rfl ?_
    have k65 : ai_hv t164 383 19 = some (.inl r) := (e164 383 19 (by first | decide | omega)).trans kr
    have k66 : ai_hv t164 389 162 = some (.inl nt) := (e164 389 162 (by first | decide | omega)).trans knt
    have k67 : ai_hv t164 389 166 = some (.inl ng) := (e164 389 166 (by first | decide | omega)).trans kng
    have k68 : ai_hv t164 389 167 = some (.inl ns) := (e164 389 167 (by first | decide | omega)).trans kns
    have k69 : ai_hv t164 389 168 = some (.inl nl) := (e164 389 168 (by first | decide | omega)).trans knl
    have k70 : ai_hv t164 389 160 = some (.inl ov) := (e164 389 160 (by first | decide | omega)).trans kov
    have k71 : ai_hv t164 389 161 = some (.inl dn) := (e164 389 161 (by first | decide | omega)).trans kdn
    have k72 : ai_hv t164 389 165 = some (.inl pa) := (e164 389 165 (by first | decide | omega)).trans kpa
    have k73 : ai_hv t164 383 13 = some (.inl c) := (e164 383 13 (by first | decide | omega)).trans kc
    refine ex_ret (r := (none, t164, n, 0)) rfl (fun _ => rfl) ?_
    exact ⟨_, rfl, t164, a164, f164, rfl, s164, (fun c i h => e164 c i (by first | decide | omega)), fun h0 => by omega⟩
theorem pk_readSign (d n : Nat) {t0 : en_H} {a c : Nat} (s0 : px_S t0 a 0) (ha : a ≤ 999) (hca : c ≤ a) (hO : px_O t0 c) : ∃ r, en_u (d + 5) 191 [gx_r 383] t0 n = some r ∧ ∃ t' a' f', r = (none, t', n, 0) ∧ px_S t' a' f' ∧ px_PG t0 t' ∧ (f' = 0 → a < a' ∧ ∃ c', px_O t' c' ∧ c' ≤ a') := by
  have b0 := s0.2.2.2
  obtain ⟨r, nt, ng, ns, nl, ov, dn, pa, kr, knt, kng, kns, knl, kov, kdn, kpa, kc, hA, hE1, hE4⟩ := hO
  refine en_u_ex (d := d + 4) rfl ?_
  show en_ex _ _ _ _ (0, [(0, gx_r 383)], [], t0, n, 0) _
  refine ex_go (S := (1, [(0, gx_r 383)], [gx_r 383], t0, n, 0)) rfl (fun _ => rfl) rfl ?_
  refine gx_ref (c := 389) rfl s0.1 rfl rfl rfl rfl ?_
  refine ex_go (S := (7, [(0, gx_r 383)], [.inl 167, gx_r 389], t0, n, 0)) rfl (fun _ => rfl) rfl ?_
  refine gx_ag (v := .inl ns) (cb := fun c => Nat.beq c 0) rfl (fun _ => rfl) s0.1 rfl rfl kns (by first | decide | omega) rfl ?_
  refine ex_go (S := (9, [(1, .inl ns), (0, gx_r 383)], [], t0, n, 0)) rfl (fun _ => rfl) rfl ?_
  refine ex_go (S := (10, [(1, .inl ns), (0, gx_r 383)], [.inl ns], t0, n, 0)) rfl (fun _ => rfl) rfl ?_
  refine ex_go (S := (12, [(1, .inl ns), (0, gx_r 383)], [.inl 6, .inl ns], t0, n, 0)) rfl (fun _ => rfl) rfl ?_
  by_cases hc1 : ns ≠ 6
  · refine gx_2t (c := .ne) rfl (by first | decide | omega) (by first | decide | omega) hc1 rfl ?_
    refine ex_go (S := (22, [(1, .inl ns), (0, gx_r 383)], [gx_r 383], t0, n, 0)) rfl (fun _ => rfl) rfl ?_
    refine ex_go (S := (24, [(1, .inl ns), (0, gx_r 383)], [.inl 20, gx_r 383], t0, n, 0)) rfl (fun _ => rfl) rfl ?_
    obtain ⟨_, r102, t102, a102, f102, rm102, rfl, s102, e102, k102, q102⟩ := pk_readName d n (s0) (w := 20) (rm := r) (by first | decide | omega) (by first | decide | omega) (by first | decide | omega) (by first | decide | omega) kr
    have b102 := s102.2.2.2
    refine gx_call0 rfl rfl s0.1 rfl rfl r102 rfl ?_
    have k3 : ai_hv t102 389 162 = some (.inl nt) := (e102 389 162 (by first | decide | omega)).trans knt
    have k4 : ai_hv t102 389 166 = some (.inl ng) := (e102 389 166 (by first | decide | omega)).trans kng
    have k5 : ai_hv t102 389 167 = some (.inl ns) := (e102 389 167 (by first | decide | omega)).trans kns
    have k6 : ai_hv t102 389 168 = some (.inl nl) := (e102 389 168 (by first | decide | omega)).trans knl
    have k7 : ai_hv t102 389 160 = some (.inl ov) := (e102 389 160 (by first | decide | omega)).trans kov
    have k8 : ai_hv t102 389 161 = some (.inl dn) := (e102 389 161 (by first | decide | omega)).trans kdn
    have k9 : ai_hv t102 389 165 = some (.inl pa) := (e102 389 165 (by first | decide | omega)).trans kpa
    have k10 : ai_hv t102 383 13 = some (.inl c) := (e102 383 13 (by first | decide | omega)).trans kc
    refine ex_go (S := (28, [(1, .inl ns), (0, gx_r 383)], [gx_r 383], t102, n, 0)) rfl (fun _ => rfl) rfl ?_
    refine gx_ref (c := 389) rfl s102.1 rfl rfl rfl rfl ?_
    refine ex_go (S := (34, [(1, .inl ns), (0, gx_r 383)], [.inl 294, gx_r 389], t102, n, 0)) rfl (fun _ => rfl) rfl ?_
    refine ex_go (S := (35, [(1, .inl ns), (0, gx_r 383)], [.inl ns, .inl 294, gx_r 389], t102, n, 0)) rfl (fun _ => rfl) rfl ?_
    refine ex_iadd rfl (by first | decide | omega) rfl ?_
    refine ex_go (S := (37, [(1, .inl ns), (0, gx_r 383)], [gx_r 383, .inl (294 + ns), gx_r 389], t102, n, 0)) rfl (fun _ => rfl) rfl ?_
    refine ex_go (S := (39, [(1, .inl ns), (0, gx_r 383)], [.inl 16, gx_r 383, .inl (294 + ns), gx_r 389], t102, n, 0)) rfl (fun _ => rfl) rfl ?_
    refine ex_go (S := (40, [(1, .inl ns), (0, gx_r 383)], [.inl 1, .inl 16, gx_r 383, .inl (294 + ns), gx_r 389], t102, n, 0)) rfl (fun _ => rfl) rfl ?_
    refine ex_go (S := (42, [(1, .inl ns), (0, gx_r 383)], [.inl 99, .inl 1, .inl 16, gx_r 383, .inl (294 + ns), gx_r 389], t102, n, 0)) rfl (fun _ => rfl) rfl ?_
    obtain ⟨_, r111, v111, t111, a111, f111, rfl, s111, e111, q111⟩ := pk_takeAfter d n (s102) (w := 16) (lo := 1) (hi := 99) (by first | decide | omega) (by first | decide | omega) (by first | decide | omega)
    have b111 := s111.2.2.2
    refine gx_call1 rfl rfl s102.1 rfl rfl r111 rfl ?_
    have k12 : ai_hv t111 389 162 = some (.inl nt) := (e111 389 162 (by first | decide | omega)).trans k3
    have k13 : ai_hv t111 389 166 = some (.inl ng) := (e111 389 166 (by first | decide | omega)).trans k4
    have k14 : ai_hv t111 389 167 = some (.inl ns) := (e111 389 167 (by first | decide | omega)).trans k5
    have k15 : ai_hv t111 389 168 = some (.inl nl) := (e111 389 168 (by first | decide | omega)).trans k6
    have k16 : ai_hv t111 389 160 = some (.inl ov) := (e111 389 160 (by first | decide | omega)).trans k7
    have k17 : ai_hv t111 389 161 = some (.inl dn) := (e111 389 161 (by first | decide | omega)).trans k8
    have k18 : ai_hv t111 389 165 = some (.inl pa) := (e111 389 165 (by first | decide | omega)).trans k9
    have k19 : ai_hv t111 383 13 = some (.inl c) := (e111 383 13 (by first | decide | omega)).trans k10
    have k20 : ai_hv t111 383 19 = some (.inl rm102) := (e111 383 19 (by first | decide | omega)).trans k102
    refine gx_ap rfl (fun _ => rfl) s111.1 rfl rfl rfl (show 294 + ns < 320 from by omega) (px_run_sign (ns) (by first | decide | omega) (by first | decide | omega)) (ai_in_h (by first | decide | omega) (by first | decide | omega) (by first | decide | omega)) rfl (fun t121 g121 k121 e121 => ?_)
    have k22 : ai_hv t121 389 162 = some (.inl nt) := (e121 389 162 (by first | decide | omega)).trans k12
    have k23 : ai_hv t121 389 166 = some (.inl ng) := (e121 389 166 (by first | decide | omega)).trans k13
    have k24 : ai_hv t121 389 167 = some (.inl ns) := (e121 389 167 (by first | decide | omega)).trans k14
    have k25 : ai_hv t121 389 168 = some (.inl nl) := (e121 389 168 (by first | decide | omega)).trans k15
    have k26 : ai_hv t121 389 160 = some (.inl ov) := (e121 389 160 (by first | decide | omega)).trans k16
    have k27 : ai_hv t121 389 161 = some (.inl dn) := (e121 389 161 (by first | decide | omega)).trans k17
    have k28 : ai_hv t121 389 165 = some (.inl pa) := (e121 389 165 (by first | decide | omega)).trans k18
    have k29 : ai_hv t121 383 13 = some (.inl c) := (e121 383 13 (by first | decide | omega)).trans k19
    have k30 : ai_hv t121 383 19 = some (.inl rm102) := (e121 383 19 (by first | decide | omega)).trans k20
    have s121 : px_S t121 a111 f111 := ⟨g121, (e121 383 7 (by first | decide | omega)).trans s111.2.1, (e121 383 8 (by first | decide | omega)).trans s111.2.2.1, s111.2.2.2⟩
    refine ex_go (S := (47, [(1, .inl ns), (0, gx_r 383)], [gx_r 383], t121, n, 0)) rfl (fun _ => rfl) rfl ?_
    refine gx_ref (c := 389) rfl s121.1 rfl rfl rfl rfl ?_
    refine ex_go (S := (53, [(1, .inl ns), (0, gx_r 383)], [.inl 167, gx_r 389], t121, n, 0)) rfl (fun _ => rfl) rfl ?_
    refine ex_go (S := (54, [(1, .inl ns), (0, gx_r 383)], [.inl 167, gx_r 389, .inl 167, gx_r 389], t121, n, 0)) rfl (fun _ => rfl) rfl ?_
    refine gx_ag (v := .inl ns) (cb := fun c => Nat.beq c 0) rfl (fun _ => rfl) s121.1 rfl rfl k24 (by first | decide | omega) rfl ?_
    refine ex_go (S := (56, [(1, .inl ns), (0, gx_r 383)], [.inl 1, .inl ns, .inl 167, gx_r 389], t121, n, 0)) rfl (fun _ => rfl) rfl ?_
    refine ex_iadd rfl (by first | decide | omega) rfl ?_
    refine gx_ap rfl (fun _ => rfl) s121.1 rfl rfl rfl (show 167 < 320 from by omega) rfl (ai_in_h (by first | decide | omega) (by first | decide | omega) (by first | decide | omega)) rfl (fun t131 g131 k131 e131 => ?_)
    have k32 : ai_hv t131 389 162 = some (.inl nt) := (e131 389 162 (by first | decide | omega)).trans k22
    have k33 : ai_hv t131 389 166 = some (.inl ng) := (e131 389 166 (by first | decide | omega)).trans k23
    have k34 : ai_hv t131 389 168 = some (.inl nl) := (e131 389 168 (by first | decide | omega)).trans k25
    have k35 : ai_hv t131 389 160 = some (.inl ov) := (e131 389 160 (by first | decide | omega)).trans k26
    have k36 : ai_hv t131 389 161 = some (.inl dn) := (e131 389 161 (by first | decide | omega)).trans k27
    have k37 : ai_hv t131 389 165 = some (.inl pa) := (e131 389 165 (by first | decide | omega)).trans k28
    have k38 : ai_hv t131 383 13 = some (.inl c) := (e131 383 13 (by first | decide | omega)).trans k29
    have k39 : ai_hv t131 383 19 = some (.inl rm102) := (e131 383 19 (by first | decide | omega)).trans k30
    have k40 : ai_hv t131 389 (294 + ns) = some (.inl v111) := (e131 389 (294 + ns) (by first | decide | omega)).trans k121
    have s131 : px_S t131 a111 f111 := ⟨g131, (e131 383 7 (by first | decide | omega)).trans s121.2.1, (e131 383 8 (by first | decide | omega)).trans s121.2.2.1, s121.2.2.2⟩
    refine ex_ret (r := (none, t131, n, 0)) rfl (fun _ => rfl) ?_
    refine ⟨_, rfl, t131, a111, f111, rfl, s131, (fun c i h => (e131 c i (by first | decide | omega)).trans ((e121 c i (by first | decide | omega)).trans ((e111 c i (by first | decide | omega)).trans (e102 c i (by first | decide | omega))))), fun h0 => ?_⟩
    refine ⟨by omega, c, ⟨rm102, nt, ng, ns + 1, nl, ov, dn, pa, k39, k32, k33, k131, k34, k35, k36, k37, k38, by omega, ?_, ?_⟩, by omega⟩
    · exact px_E1_kept hE1 ((e131 389 163 (by first | decide | omega)).trans ((e121 389 163 (by first | decide | omega)).trans ((e111 389 163 (by first | decide | omega)).trans (e102 389 163 (by first | decide | omega))))) (fun k hk => (e131 389 (255 + 4 * k) (by first | decide | omega)).trans ((e121 389 (255 + 4 * k) (by first | decide | omega)).trans ((e111 389 (255 + 4 * k) (by first | decide | omega)).trans (e102 389 (255 + 4 * k) (by first | decide | omega)))))
    · exact px_E4_kept hE4 (Nat.le_refl _) (fun l hl => (e131 389 (169 + l) (by first | decide | omega)).trans ((e121 389 (169 + l) (by first | decide | omega)).trans ((e111 389 (169 + l) (by first | decide | omega)).trans (e102 389 (169 + l) (by first | decide | omega))))) (fun i hi => (e131 390 (1100 + i) (by first | decide | omega)).trans ((e121 390 (1100 + i) (by first | decide | omega)).trans ((e111 390 (1100 + i) (by first | decide | omega)).trans (e102 390 (1100 + i) (by first | decide | omega))))) (fun i hi => (e131 391 (1100 + i) (by first | decide | omega)).trans ((e121 391 (1100 + i) (by first | decide | omega)).trans ((e111 391 (1100 + i) (by first | decide | omega)).trans (e102 391 (1100 + i) (by first | decide | omega)))))
  · refine gx_2f (c := .ne) rfl (by first | decide | omega) (by first | decide | omega) hc1 rfl ?_
    refine ex_go (S := (16, [(1, .inl ns), (0, gx_r 383)], [gx_r 383], t0, n, 0)) rfl (fun _ => rfl) rfl ?_
    refine ex_go (S := (17, [(1, .inl ns), (0, gx_r 383)], [.inl 5, gx_r 383], t0, n, 0)) rfl (fun _ => rfl) rfl ?_
    obtain ⟨_, r141, t141, a141, f141, rfl, s141, e141, q141⟩ := pk_wrong (d + 3) n (s0) (w := 5) (by first | decide | omega)
    have b141 := s141.2.2.2
    refine gx_call0 rfl rfl s0.1 rfl rfl r141 rfl ?_
    have k42 : ai_hv t141 383 19 = some (.inl r) := (e141 383 19 (by first | decide | omega)).trans kr
    have k43 : ai_hv t141 389 162 = some (.inl nt) := (e141 389 162 (by first | decide | omega)).trans knt
    have k44 : ai_hv t141 389 166 = some (.inl ng) := (e141 389 166 (by first | decide | omega)).trans kng
    have k45 : ai_hv t141 389 167 = some (.inl ns) := (e141 389 167 (by first | decide | omega)).trans kns
    have k46 : ai_hv t141 389 168 = some (.inl nl) := (e141 389 168 (by first | decide | omega)).trans knl
    have k47 : ai_hv t141 389 160 = some (.inl ov) := (e141 389 160 (by first | decide | omega)).trans kov
    have k48 : ai_hv t141 389 161 = some (.inl dn) := (e141 389 161 (by first | decide | omega)).trans kdn
    have k49 : ai_hv t141 389 165 = some (.inl pa) := (e141 389 165 (by first | decide | omega)).trans kpa
    have k50 : ai_hv t141 383 13 = some (.inl c) := (e141 383 13 (by first | decide | omega)).trans kc
    refine ex_ret (r := (none, t141, n, 0)) rfl (fun _ => rfl) ?_
    exact ⟨_, rfl, t141, a141, f141, rfl, s141, (fun c i h => e141 c i (by first | decide | omega)), fun h0 => by omega⟩
theorem pk_readLoad (d n : Nat) {t0 : en_H} {a c : Nat} (s0 : px_S t0 a 0) (ha : a ≤ 999) (hca : c ≤ a) (hO : px_O t0 c) : ∃ r, en_u (d + 5) 192 [gx_r 383] t0 n = some r ∧ ∃ t' a' f', r = (none, t', n, 0) ∧ px_S t' a' f' ∧ px_PG t0 t' ∧ (f' = 0 → a < a' ∧ ∃ c', px_O t' c' ∧ c' ≤ a') := by
  have b0 := s0.2.2.2
  obtain ⟨r, nt, ng, ns, nl, ov, dn, pa, kr, knt, kng, kns, knl, kov, kdn, kpa, kc, hA, hE1, hE4⟩ := hO
  refine en_u_ex (d := d + 4) rfl ?_
  show en_ex _ _ _ _ (0, [(0, gx_r 383)], [], t0, n, 0) _
  refine ex_go (S := (1, [(0, gx_r 383)], [gx_r 383], t0, n, 0)) rfl (fun _ => rfl) rfl ?_
  refine gx_ref (c := 389) rfl s0.1 rfl rfl rfl rfl ?_
  refine ex_go (S := (7, [(0, gx_r 383)], [.inl 168, gx_r 389], t0, n, 0)) rfl (fun _ => rfl) rfl ?_
  refine gx_ag (v := .inl nl) (cb := fun c => Nat.beq c 0) rfl (fun _ => rfl) s0.1 rfl rfl knl (by first | decide | omega) rfl ?_
  refine ex_go (S := (9, [(1, .inl nl), (0, gx_r 383)], [], t0, n, 0)) rfl (fun _ => rfl) rfl ?_
  refine ex_go (S := (10, [(1, .inl nl), (0, gx_r 383)], [.inl nl], t0, n, 0)) rfl (fun _ => rfl) rfl ?_
  refine ex_go (S := (12, [(1, .inl nl), (0, gx_r 383)], [.inl 6, .inl nl], t0, n, 0)) rfl (fun _ => rfl) rfl ?_
  by_cases hc1 : nl ≠ 6
  · refine gx_2t (c := .ne) rfl (by first | decide | omega) (by first | decide | omega) hc1 rfl ?_
    refine ex_go (S := (22, [(1, .inl nl), (0, gx_r 383)], [gx_r 383], t0, n, 0)) rfl (fun _ => rfl) rfl ?_
    refine ex_go (S := (24, [(1, .inl nl), (0, gx_r 383)], [.inl 20, gx_r 383], t0, n, 0)) rfl (fun _ => rfl) rfl ?_
    obtain ⟨_, r102, t102, a102, f102, rm102, rfl, s102, e102, k102, q102⟩ := pk_readName d n (s0) (w := 20) (rm := r) (by first | decide | omega) (by first | decide | omega) (by first | decide | omega) (by first | decide | omega) kr
    have b102 := s102.2.2.2
    refine gx_call0 rfl rfl s0.1 rfl rfl r102 rfl ?_
    have k3 : ai_hv t102 389 162 = some (.inl nt) := (e102 389 162 (by first | decide | omega)).trans knt
    have k4 : ai_hv t102 389 166 = some (.inl ng) := (e102 389 166 (by first | decide | omega)).trans kng
    have k5 : ai_hv t102 389 167 = some (.inl ns) := (e102 389 167 (by first | decide | omega)).trans kns
    have k6 : ai_hv t102 389 168 = some (.inl nl) := (e102 389 168 (by first | decide | omega)).trans knl
    have k7 : ai_hv t102 389 160 = some (.inl ov) := (e102 389 160 (by first | decide | omega)).trans kov
    have k8 : ai_hv t102 389 161 = some (.inl dn) := (e102 389 161 (by first | decide | omega)).trans kdn
    have k9 : ai_hv t102 389 165 = some (.inl pa) := (e102 389 165 (by first | decide | omega)).trans kpa
    have k10 : ai_hv t102 383 13 = some (.inl c) := (e102 383 13 (by first | decide | omega)).trans kc
    refine ex_go (S := (28, [(1, .inl nl), (0, gx_r 383)], [gx_r 383], t102, n, 0)) rfl (fun _ => rfl) rfl ?_
    refine gx_ref (c := 389) rfl s102.1 rfl rfl rfl rfl ?_
    refine ex_go (S := (34, [(1, .inl nl), (0, gx_r 383)], [.inl 300, gx_r 389], t102, n, 0)) rfl (fun _ => rfl) rfl ?_
    refine ex_go (S := (35, [(1, .inl nl), (0, gx_r 383)], [.inl 2, .inl 300, gx_r 389], t102, n, 0)) rfl (fun _ => rfl) rfl ?_
    refine ex_go (S := (36, [(1, .inl nl), (0, gx_r 383)], [.inl nl, .inl 2, .inl 300, gx_r 389], t102, n, 0)) rfl (fun _ => rfl) rfl ?_
    refine gx_imul rfl (by first | decide | omega) rfl ?_
    refine ex_iadd rfl (by first | decide | omega) rfl ?_
    refine ex_go (S := (39, [(1, .inl nl), (0, gx_r 383)], [gx_r 383, .inl (300 + (2 * nl)), gx_r 389], t102, n, 0)) rfl (fun _ => rfl) rfl ?_
    refine ex_go (S := (41, [(1, .inl nl), (0, gx_r 383)], [.inl 18, gx_r 383, .inl (300 + (2 * nl)), gx_r 389], t102, n, 0)) rfl (fun _ => rfl) rfl ?_
    refine ex_go (S := (42, [(1, .inl nl), (0, gx_r 383)], [.inl 0, .inl 18, gx_r 383, .inl (300 + (2 * nl)), gx_r 389], t102, n, 0)) rfl (fun _ => rfl) rfl ?_
    refine ex_go (S := (45, [(1, .inl nl), (0, gx_r 383)], [.inl 999, .inl 0, .inl 18, gx_r 383, .inl (300 + (2 * nl)), gx_r 389], t102, n, 0)) rfl (fun _ => rfl) rfl ?_
    obtain ⟨_, r111, v111, t111, a111, f111, rfl, s111, e111, q111⟩ := pk_takeAfter d n (s102) (w := 18) (lo := 0) (hi := 999) (by first | decide | omega) (by first | decide | omega) (by first | decide | omega)
    have b111 := s111.2.2.2
    refine gx_call1 rfl rfl s102.1 rfl rfl r111 rfl ?_
    have k12 : ai_hv t111 389 162 = some (.inl nt) := (e111 389 162 (by first | decide | omega)).trans k3
    have k13 : ai_hv t111 389 166 = some (.inl ng) := (e111 389 166 (by first | decide | omega)).trans k4
    have k14 : ai_hv t111 389 167 = some (.inl ns) := (e111 389 167 (by first | decide | omega)).trans k5
    have k15 : ai_hv t111 389 168 = some (.inl nl) := (e111 389 168 (by first | decide | omega)).trans k6
    have k16 : ai_hv t111 389 160 = some (.inl ov) := (e111 389 160 (by first | decide | omega)).trans k7
    have k17 : ai_hv t111 389 161 = some (.inl dn) := (e111 389 161 (by first | decide | omega)).trans k8
    have k18 : ai_hv t111 389 165 = some (.inl pa) := (e111 389 165 (by first | decide | omega)).trans k9
    have k19 : ai_hv t111 383 13 = some (.inl c) := (e111 383 13 (by first | decide | omega)).trans k10
    have k20 : ai_hv t111 383 19 = some (.inl rm102) := (e111 383 19 (by first | decide | omega)).trans k102
    refine gx_ap rfl (fun _ => rfl) s111.1 rfl rfl rfl (show 300 + (2 * nl) < 320 from by omega) (px_run_load0 (nl) (by first | decide | omega) (by first | decide | omega)) (ai_in_h (by first | decide | omega) (by first | decide | omega) (by first | decide | omega)) rfl (fun t121 g121 k121 e121 => ?_)
    have k22 : ai_hv t121 389 162 = some (.inl nt) := (e121 389 162 (by first | decide | omega)).trans k12
    have k23 : ai_hv t121 389 166 = some (.inl ng) := (e121 389 166 (by first | decide | omega)).trans k13
    have k24 : ai_hv t121 389 167 = some (.inl ns) := (e121 389 167 (by first | decide | omega)).trans k14
    have k25 : ai_hv t121 389 168 = some (.inl nl) := (e121 389 168 (by first | decide | omega)).trans k15
    have k26 : ai_hv t121 389 160 = some (.inl ov) := (e121 389 160 (by first | decide | omega)).trans k16
    have k27 : ai_hv t121 389 161 = some (.inl dn) := (e121 389 161 (by first | decide | omega)).trans k17
    have k28 : ai_hv t121 389 165 = some (.inl pa) := (e121 389 165 (by first | decide | omega)).trans k18
    have k29 : ai_hv t121 383 13 = some (.inl c) := (e121 383 13 (by first | decide | omega)).trans k19
    have k30 : ai_hv t121 383 19 = some (.inl rm102) := (e121 383 19 (by first | decide | omega)).trans k20
    have s121 : px_S t121 a111 f111 := ⟨g121, (e121 383 7 (by first | decide | omega)).trans s111.2.1, (e121 383 8 (by first | decide | omega)).trans s111.2.2.1, s111.2.2.2⟩
    refine ex_go (S := (50, [(1, .inl nl), (0, gx_r 383)], [gx_r 383], t121, n, 0)) rfl (fun _ => rfl) rfl ?_
    refine gx_ref (c := 389) rfl s121.1 rfl rfl rfl rfl ?_
    refine ex_go (S := (56, [(1, .inl nl), (0, gx_r 383)], [.inl 300, gx_r 389], t121, n, 0)) rfl (fun _ => rfl) rfl ?_
    refine ex_go (S := (57, [(1, .inl nl), (0, gx_r 383)], [.inl 2, .inl 300, gx_r 389], t121, n, 0)) rfl (fun _ => rfl) rfl ?_
    refine ex_go (S := (58, [(1, .inl nl), (0, gx_r 383)], [.inl nl, .inl 2, .inl 300, gx_r 389], t121, n, 0)) rfl (fun _ => rfl) rfl ?_
    refine gx_imul rfl (by first | decide | omega) rfl ?_
    refine ex_iadd rfl (by first | decide | omega) rfl ?_
    refine ex_go (S := (61, [(1, .inl nl), (0, gx_r 383)], [.inl 1, .inl (300 + (2 * nl)), gx_r 389], t121, n, 0)) rfl (fun _ => rfl) rfl ?_
    refine ex_iadd rfl (by first | decide | omega) rfl ?_
    refine ex_go (S := (63, [(1, .inl nl), (0, gx_r 383)], [gx_r 383, .inl ((300 + (2 * nl)) + 1), gx_r 389], t121, n, 0)) rfl (fun _ => rfl) rfl ?_
    refine ex_go (S := (65, [(1, .inl nl), (0, gx_r 383)], [.inl 19, gx_r 383, .inl ((300 + (2 * nl)) + 1), gx_r 389], t121, n, 0)) rfl (fun _ => rfl) rfl ?_
    refine ex_go (S := (66, [(1, .inl nl), (0, gx_r 383)], [.inl 1, .inl 19, gx_r 383, .inl ((300 + (2 * nl)) + 1), gx_r 389], t121, n, 0)) rfl (fun _ => rfl) rfl ?_
    refine ex_go (S := (68, [(1, .inl nl), (0, gx_r 383)], [.inl 9, .inl 1, .inl 19, gx_r 383, .inl ((300 + (2 * nl)) + 1), gx_r 389], t121, n, 0)) rfl (fun _ => rfl) rfl ?_
    obtain ⟨_, r131, v131, t131, a131, f131, rfl, s131, e131, q131⟩ := pk_takeAfter d n (s121) (w := 19) (lo := 1) (hi := 9) (by first | decide | omega) (by first | decide | omega) (by first | decide | omega)
    have b131 := s131.2.2.2
    refine gx_call1 rfl rfl s121.1 rfl rfl r131 rfl ?_
    have k32 : ai_hv t131 389 162 = some (.inl nt) := (e131 389 162 (by first | decide | omega)).trans k22
    have k33 : ai_hv t131 389 166 = some (.inl ng) := (e131 389 166 (by first | decide | omega)).trans k23
    have k34 : ai_hv t131 389 167 = some (.inl ns) := (e131 389 167 (by first | decide | omega)).trans k24
    have k35 : ai_hv t131 389 168 = some (.inl nl) := (e131 389 168 (by first | decide | omega)).trans k25
    have k36 : ai_hv t131 389 160 = some (.inl ov) := (e131 389 160 (by first | decide | omega)).trans k26
    have k37 : ai_hv t131 389 161 = some (.inl dn) := (e131 389 161 (by first | decide | omega)).trans k27
    have k38 : ai_hv t131 389 165 = some (.inl pa) := (e131 389 165 (by first | decide | omega)).trans k28
    have k39 : ai_hv t131 383 13 = some (.inl c) := (e131 383 13 (by first | decide | omega)).trans k29
    have k40 : ai_hv t131 383 19 = some (.inl rm102) := (e131 383 19 (by first | decide | omega)).trans k30
    have k41 : ai_hv t131 389 (300 + (2 * nl)) = some (.inl v111) := (e131 389 (300 + (2 * nl)) (by first | decide | omega)).trans k121
    refine gx_ap rfl (fun _ => rfl) s131.1 rfl rfl rfl (show (300 + (2 * nl)) + 1 < 320 from by omega) (px_run_load1 (nl) (by first | decide | omega) (by first | decide | omega)) (ai_in_h (by first | decide | omega) (by first | decide | omega) (by first | decide | omega)) rfl (fun t142 g142 k142 e142 => ?_)
    have k43 : ai_hv t142 389 162 = some (.inl nt) := (e142 389 162 (by first | decide | omega)).trans k32
    have k44 : ai_hv t142 389 166 = some (.inl ng) := (e142 389 166 (by first | decide | omega)).trans k33
    have k45 : ai_hv t142 389 167 = some (.inl ns) := (e142 389 167 (by first | decide | omega)).trans k34
    have k46 : ai_hv t142 389 168 = some (.inl nl) := (e142 389 168 (by first | decide | omega)).trans k35
    have k47 : ai_hv t142 389 160 = some (.inl ov) := (e142 389 160 (by first | decide | omega)).trans k36
    have k48 : ai_hv t142 389 161 = some (.inl dn) := (e142 389 161 (by first | decide | omega)).trans k37
    have k49 : ai_hv t142 389 165 = some (.inl pa) := (e142 389 165 (by first | decide | omega)).trans k38
    have k50 : ai_hv t142 383 13 = some (.inl c) := (e142 383 13 (by first | decide | omega)).trans k39
    have k51 : ai_hv t142 383 19 = some (.inl rm102) := (e142 383 19 (by first | decide | omega)).trans k40
    have k52 : ai_hv t142 389 (300 + (2 * nl)) = some (.inl v111) := (e142 389 (300 + (2 * nl)) (by first | decide | omega)).trans k41
    have s142 : px_S t142 a131 f131 := ⟨g142, (e142 383 7 (by first | decide | omega)).trans s131.2.1, (e142 383 8 (by first | decide | omega)).trans s131.2.2.1, s131.2.2.2⟩
    refine ex_go (S := (73, [(1, .inl nl), (0, gx_r 383)], [gx_r 383], t142, n, 0)) rfl (fun _ => rfl) rfl ?_
    refine gx_ref (c := 389) rfl s142.1 rfl rfl rfl rfl ?_
    refine ex_go (S := (79, [(1, .inl nl), (0, gx_r 383)], [.inl 168, gx_r 389], t142, n, 0)) rfl (fun _ => rfl) rfl ?_
    refine ex_go (S := (80, [(1, .inl nl), (0, gx_r 383)], [.inl 168, gx_r 389, .inl 168, gx_r 389], t142, n, 0)) rfl (fun _ => rfl) rfl ?_
    refine gx_ag (v := .inl nl) (cb := fun c => Nat.beq c 0) rfl (fun _ => rfl) s142.1 rfl rfl k46 (by first | decide | omega) rfl ?_
    refine ex_go (S := (82, [(1, .inl nl), (0, gx_r 383)], [.inl 1, .inl nl, .inl 168, gx_r 389], t142, n, 0)) rfl (fun _ => rfl) rfl ?_
    refine ex_iadd rfl (by first | decide | omega) rfl ?_
    refine gx_ap rfl (fun _ => rfl) s142.1 rfl rfl rfl (show 168 < 320 from by omega) rfl (ai_in_h (by first | decide | omega) (by first | decide | omega) (by first | decide | omega)) rfl (fun t153 g153 k153 e153 => ?_)
    have k54 : ai_hv t153 389 162 = some (.inl nt) := (e153 389 162 (by first | decide | omega)).trans k43
    have k55 : ai_hv t153 389 166 = some (.inl ng) := (e153 389 166 (by first | decide | omega)).trans k44
    have k56 : ai_hv t153 389 167 = some (.inl ns) := (e153 389 167 (by first | decide | omega)).trans k45
    have k57 : ai_hv t153 389 160 = some (.inl ov) := (e153 389 160 (by first | decide | omega)).trans k47
    have k58 : ai_hv t153 389 161 = some (.inl dn) := (e153 389 161 (by first | decide | omega)).trans k48
    have k59 : ai_hv t153 389 165 = some (.inl pa) := (e153 389 165 (by first | decide | omega)).trans k49
    have k60 : ai_hv t153 383 13 = some (.inl c) := (e153 383 13 (by first | decide | omega)).trans k50
    have k61 : ai_hv t153 383 19 = some (.inl rm102) := (e153 383 19 (by first | decide | omega)).trans k51
    have k62 : ai_hv t153 389 (300 + (2 * nl)) = some (.inl v111) := (e153 389 (300 + (2 * nl)) (by first | decide | omega)).trans k52
    have k63 : ai_hv t153 389 ((300 + (2 * nl)) + 1) = some (.inl v131) := (e153 389 ((300 + (2 * nl)) + 1) (by first | decide | omega)).trans k142
    have s153 : px_S t153 a131 f131 := ⟨g153, (e153 383 7 (by first | decide | omega)).trans s142.2.1, (e153 383 8 (by first | decide | omega)).trans s142.2.2.1, s142.2.2.2⟩
    refine ex_ret (r := (none, t153, n, 0)) rfl (fun _ => rfl) ?_
    refine ⟨_, rfl, t153, a131, f131, rfl, s153, (fun c i h => (e153 c i (by first | decide | omega)).trans ((e142 c i (by first | decide | omega)).trans ((e131 c i (by first | decide | omega)).trans ((e121 c i (by first | decide | omega)).trans ((e111 c i (by first | decide | omega)).trans (e102 c i (by first | decide | omega))))))), fun h0 => ?_⟩
    refine ⟨by omega, c, ⟨rm102, nt, ng, ns, nl + 1, ov, dn, pa, k61, k54, k55, k56, k153, k57, k58, k59, k60, by omega, ?_, ?_⟩, by omega⟩
    · exact px_E1_kept hE1 ((e153 389 163 (by first | decide | omega)).trans ((e142 389 163 (by first | decide | omega)).trans ((e131 389 163 (by first | decide | omega)).trans ((e121 389 163 (by first | decide | omega)).trans ((e111 389 163 (by first | decide | omega)).trans (e102 389 163 (by first | decide | omega))))))) (fun k hk => (e153 389 (255 + 4 * k) (by first | decide | omega)).trans ((e142 389 (255 + 4 * k) (by first | decide | omega)).trans ((e131 389 (255 + 4 * k) (by first | decide | omega)).trans ((e121 389 (255 + 4 * k) (by first | decide | omega)).trans ((e111 389 (255 + 4 * k) (by first | decide | omega)).trans (e102 389 (255 + 4 * k) (by first | decide | omega)))))))
    · exact px_E4_kept hE4 (Nat.le_refl _) (fun l hl => (e153 389 (169 + l) (by first | decide | omega)).trans ((e142 389 (169 + l) (by first | decide | omega)).trans ((e131 389 (169 + l) (by first | decide | omega)).trans ((e121 389 (169 + l) (by first | decide | omega)).trans ((e111 389 (169 + l) (by first | decide | omega)).trans (e102 389 (169 + l) (by first | decide | omega))))))) (fun i hi => (e153 390 (1100 + i) (by first | decide | omega)).trans ((e142 390 (1100 + i) (by first | decide | omega)).trans ((e131 390 (1100 + i) (by first | decide | omega)).trans ((e121 390 (1100 + i) (by first | decide | omega)).trans ((e111 390 (1100 + i) (by first | decide | omega)).trans (e102 390 (1100 + i) (by first | decide | omega))))))) (fun i hi => (e153 391 (1100 + i) (by first | decide | omega)).trans ((e142 391 (1100 + i) (by first | decide | omega)).trans ((e131 391 (1100 + i) (by first | decide | omega)).trans ((e121 391 (1100 + i) (by first | decide | omega)).trans ((e111 391 (1100 + i) (by first | decide | omega)).trans (e102 391 (1100 + i) (by first | decide | omega)))))))
  · refine gx_2f (c := .ne) rfl (by first | decide | omega) (by first | decide | omega) hc1 rfl ?_
    refine ex_go (S := (16, [(1, .inl nl), (0, gx_r 383)], [gx_r 383], t0, n, 0)) rfl (fun _ => rfl) rfl ?_
    refine ex_go (S := (17, [(1, .inl nl), (0, gx_r 383)], [.inl 5, gx_r 383], t0, n, 0)) rfl (fun _ => rfl) rfl ?_
    obtain ⟨_, r164, t164, a164, f164, rfl, s164, e164, q164⟩ := pk_wrong (d + 3) n (s0) (w := 5) (by first | decide | omega)
    have b164 := s164.2.2.2
    refine gx_call0 rfl rfl s0.1 rfl rfl r164 rfl ?_
    have k65 : ai_hv t164 383 19 = some (.inl r) := (e164 383 19 (by first | decide | omega)).trans kr
    have k66 : ai_hv t164 389 162 = some (.inl nt) := (e164 389 162 (by first | decide | omega)).trans knt
    have k67 : ai_hv t164 389 166 = some (.inl ng) := (e164 389 166 (by first | decide | omega)).trans kng
    have k68 : ai_hv t164 389 167 = some (.inl ns) := (e164 389 167 (by first | decide | omega)).trans kns
    have k69 : ai_hv t164 389 168 = some (.inl nl) := (e164 389 168 (by first | decide | omega)).trans knl
    have k70 : ai_hv t164 389 160 = some (.inl ov) := (e164 389 160 (by first | decide | omega)).trans kov
    have k71 : ai_hv t164 389 161 = some (.inl dn) := (e164 389 161 (by first | decide | omega)).trans kdn
    have k72 : ai_hv t164 389 165 = some (.inl pa) := (e164 389 165 (by first | decide | omega)).trans kpa
    have k73 : ai_hv t164 383 13 = some (.inl c) := (e164 383 13 (by first | decide | omega)).trans kc
    refine ex_ret (r := (none, t164, n, 0)) rfl (fun _ => rfl) ?_
    exact ⟨_, rfl, t164, a164, f164, rfl, s164, (fun c i h => e164 c i (by first | decide | omega)), fun h0 => by omega⟩
theorem pk_drift_l {fn : en_F} {n a f row fl fr to : Nat} {tb : en_H} {Q : en_O → Prop} (hr : row ≤ 7) (hfl : fl ≤ 4) (hto : to ≤ 7) (hQ : ∀ t1, px_S t1 a f → (∀ c i, ¬ (c = 389 ∧ 172 ≤ i ∧ i < 236) → ai_hv t1 c i = ai_hv tb c i) → Q (.inl (none, t1, n, 0))) : ∀ j x t0, x + j = 8 → px_S t0 a f → (∀ c i, ¬ (c = 389 ∧ 172 ≤ i ∧ i < 236) → ai_hv t0 c i = ai_hv tb c i) → en_ex none fn (en_code 186) (fun _ => false) (52, [(5, .inl x), (4, .inl to), (3, .inl fr), (2, .inl fl), (1, .inl row), (0, gx_r 383)], [], t0, n, 0) Q := by
  intro j
  induction j with
  | zero =>
    intro x t0 hx s0 h0
    have b0 := s0.2.2.2
    refine ex_go (S := (54, [(5, .inl x), (4, .inl to), (3, .inl fr), (2, .inl fl), (1, .inl row), (0, gx_r 383)], [.inl x], t0, n, 0)) rfl (fun _ => rfl) rfl ?_
    refine ex_go (S := (56, [(5, .inl x), (4, .inl to), (3, .inl fr), (2, .inl fl), (1, .inl row), (0, gx_r 383)], [.inl to, .inl x], t0, n, 0)) rfl (fun _ => rfl) rfl ?_
    refine gx_2t (c := .gt) rfl (by first | decide | omega) (by first | decide | omega) (show to < x from by omega) rfl ?_
    refine ex_ret (r := (none, t0, n, 0)) rfl (fun _ => rfl) ?_
    exact hQ t0 s0 (fun c i h => h0 c i h)
  | succ j ih =>
    intro x t0 hx s0 h0
    have b0 := s0.2.2.2
    refine ex_go (S := (54, [(5, .inl x), (4, .inl to), (3, .inl fr), (2, .inl fl), (1, .inl row), (0, gx_r 383)], [.inl x], t0, n, 0)) rfl (fun _ => rfl) rfl ?_
    refine ex_go (S := (56, [(5, .inl x), (4, .inl to), (3, .inl fr), (2, .inl fl), (1, .inl row), (0, gx_r 383)], [.inl to, .inl x], t0, n, 0)) rfl (fun _ => rfl) rfl ?_
    by_cases hc1 : to < x
    · refine gx_2t (c := .gt) rfl (by first | decide | omega) (by first | decide | omega) hc1 rfl ?_
      refine ex_ret (r := (none, t0, n, 0)) rfl (fun _ => rfl) ?_
      exact hQ t0 s0 (fun c i h => h0 c i h)
    · refine gx_2f (c := .gt) rfl (by first | decide | omega) (by first | decide | omega) hc1 rfl ?_
      refine ex_go (S := (60, [(5, .inl x), (4, .inl to), (3, .inl fr), (2, .inl fl), (1, .inl row), (0, gx_r 383)], [gx_r 383], t0, n, 0)) rfl (fun _ => rfl) rfl ?_
      refine gx_get rfl s0.1 rfl s0.2.2.1 rfl ?_
      by_cases hc2 : f ≠ 0
      · refine gx_1t (c := .ne) rfl (by first | decide | omega) hc2 rfl ?_
        refine ex_ret (r := (none, t0, n, 0)) rfl (fun _ => rfl) ?_
        exact hQ t0 s0 (fun c i h => h0 c i h)
      · refine gx_1f (c := .ne) rfl (by first | decide | omega) hc2 rfl ?_
        refine ex_go (S := (67, [(5, .inl x), (4, .inl to), (3, .inl fr), (2, .inl fl), (1, .inl row), (0, gx_r 383)], [gx_r 383], t0, n, 0)) rfl (fun _ => rfl) rfl ?_
        refine gx_ref (c := 389) rfl s0.1 rfl rfl rfl rfl ?_
        refine ex_go (S := (73, [(5, .inl x), (4, .inl to), (3, .inl fr), (2, .inl fl), (1, .inl row), (0, gx_r 383)], [.inl 172, gx_r 389], t0, n, 0)) rfl (fun _ => rfl) rfl ?_
        refine ex_go (S := (75, [(5, .inl x), (4, .inl to), (3, .inl fr), (2, .inl fl), (1, .inl row), (0, gx_r 383)], [.inl 8, .inl 172, gx_r 389], t0, n, 0)) rfl (fun _ => rfl) rfl ?_
        refine ex_go (S := (76, [(5, .inl x), (4, .inl to), (3, .inl fr), (2, .inl fl), (1, .inl row), (0, gx_r 383)], [.inl row, .inl 8, .inl 172, gx_r 389], t0, n, 0)) rfl (fun _ => rfl) rfl ?_
        refine gx_imul rfl (by first | decide | omega) rfl ?_
        refine ex_iadd rfl (by first | decide | omega) rfl ?_
        refine ex_go (S := (80, [(5, .inl x), (4, .inl to), (3, .inl fr), (2, .inl fl), (1, .inl row), (0, gx_r 383)], [.inl x, .inl (172 + (8 * row)), gx_r 389], t0, n, 0)) rfl (fun _ => rfl) rfl ?_
        refine ex_iadd rfl (by first | decide | omega) rfl ?_
        refine ex_go (S := (82, [(5, .inl x), (4, .inl to), (3, .inl fr), (2, .inl fl), (1, .inl row), (0, gx_r 383)], [.inl fl, .inl ((172 + (8 * row)) + x), gx_r 389], t0, n, 0)) rfl (fun _ => rfl) rfl ?_
        refine gx_ap rfl (fun _ => rfl) s0.1 rfl rfl rfl (show (172 + (8 * row)) + x < 320 from by omega) (px_run_flow (8 * row + x) (by first | decide | omega) (by first | decide | omega)) (ai_in_h (by first | decide | omega) (by first | decide | omega) (by first | decide | omega)) rfl (fun t103 g103 k103 e103 => ?_)
        have s103 : px_S t103 a f := ⟨g103, (e103 383 7 (by first | decide | omega)).trans s0.2.1, (e103 383 8 (by first | decide | omega)).trans s0.2.2.1, s0.2.2.2⟩
        refine gx_iinc (i := 5) (k := 1) rfl (fun _ => rfl) (by first | decide | omega) rfl ?_
        show en_ex _ _ _ _ (86, [(5, .inl (x + 1)), (4, .inl to), (3, .inl fr), (2, .inl fl), (1, .inl row), (0, gx_r 383)], [], t103, n, 0) _
        refine ex_go (S := (52, [(5, .inl (x + 1)), (4, .inl to), (3, .inl fr), (2, .inl fl), (1, .inl row), (0, gx_r 383)], [], t103, n, 0)) rfl (fun _ => rfl) rfl ?_
        exact ih (x + 1) t103 (by first | decide | omega) s103 (fun c i h => (e103 c i (by first | decide | omega)).trans (h0 c i h))
theorem pk_readDrift (d n : Nat) {t0 : en_H} {a c : Nat} (s0 : px_S t0 a 0) (ha : a ≤ 999) (hca : c ≤ a) (hO : px_O t0 c) : ∃ r, en_u (d + 5) 186 [gx_r 383] t0 n = some r ∧ ∃ t' a' f', r = (none, t', n, 0) ∧ px_S t' a' f' ∧ px_PG t0 t' ∧ (f' = 0 → a < a' ∧ ∃ c', px_O t' c' ∧ c' ≤ a') := by
  have b0 := s0.2.2.2
  obtain ⟨r, nt, ng, ns, nl, ov, dn, pa, kr, knt, kng, kns, knl, kov, kdn, kpa, kc, hA, hE1, hE4⟩ := hO
  refine en_u_ex (d := d + 4) rfl ?_
  show en_ex _ _ _ _ (0, [(0, gx_r 383)], [], t0, n, 0) _
  refine ex_go (S := (1, [(0, gx_r 383)], [gx_r 383], t0, n, 0)) rfl (fun _ => rfl) rfl ?_
  refine ex_go (S := (2, [(0, gx_r 383)], [gx_r 383, gx_r 383], t0, n, 0)) rfl (fun _ => rfl) rfl ?_
  refine gx_get rfl s0.1 rfl s0.2.1 rfl ?_
  refine ex_go (S := (6, [(0, gx_r 383)], [.inl 1, .inl a, gx_r 383], t0, n, 0)) rfl (fun _ => rfl) rfl ?_
  refine ex_iadd rfl (by first | decide | omega) rfl ?_
  refine gx_put rfl s0.1 rfl rfl (ai_in_h (by first | decide | omega) (by first | decide | omega) (by first | decide | omega)) rfl (fun t101 g101 k101 e101 => ?_)
  have k2 : ai_hv t101 383 19 = some (.inl r) := (e101 383 19 (by first | decide | omega)).trans kr
  have k3 : ai_hv t101 389 162 = some (.inl nt) := (e101 389 162 (by first | decide | omega)).trans knt
  have k4 : ai_hv t101 389 166 = some (.inl ng) := (e101 389 166 (by first | decide | omega)).trans kng
  have k5 : ai_hv t101 389 167 = some (.inl ns) := (e101 389 167 (by first | decide | omega)).trans kns
  have k6 : ai_hv t101 389 168 = some (.inl nl) := (e101 389 168 (by first | decide | omega)).trans knl
  have k7 : ai_hv t101 389 160 = some (.inl ov) := (e101 389 160 (by first | decide | omega)).trans kov
  have k8 : ai_hv t101 389 161 = some (.inl dn) := (e101 389 161 (by first | decide | omega)).trans kdn
  have k9 : ai_hv t101 389 165 = some (.inl pa) := (e101 389 165 (by first | decide | omega)).trans kpa
  have k10 : ai_hv t101 383 13 = some (.inl c) := (e101 383 13 (by first | decide | omega)).trans kc
  have s101 : px_S t101 (a + 1) 0 := ⟨g101, k101, (e101 383 8 (by first | decide | omega)).trans s0.2.2.1, by omega, s0.2.2.2.2⟩
  refine ex_go (S := (11, [(0, gx_r 383)], [gx_r 383], t101, n, 0)) rfl (fun _ => rfl) rfl ?_
  refine ex_go (S := (12, [(0, gx_r 383)], [.inl 0, gx_r 383], t101, n, 0)) rfl (fun _ => rfl) rfl ?_
  refine ex_go (S := (13, [(0, gx_r 383)], [gx_r 383, .inl 0, gx_r 383], t101, n, 0)) rfl (fun _ => rfl) rfl ?_
  obtain ⟨_, r11, rfl⟩ := pk_lastDown (d + 3) n s101.1 k8 (by first | decide | omega)
  refine gx_call1 rfl rfl s101.1 rfl rfl r11 rfl ?_
  obtain ⟨_, r112, v112, t112, a112, f112, rfl, s112, e112, q112⟩ := pk_takeNumber (d + 2) n (s101) (lo := 0) (hi := dn - 1) (by first | decide | omega) (by first | decide | omega)
  have b112 := s112.2.2.2
  refine gx_call1 rfl rfl s101.1 rfl rfl r112 rfl ?_
  have k13 : ai_hv t112 383 19 = some (.inl r) := (e112 383 19 (by first | decide | omega)).trans k2
  have k14 : ai_hv t112 389 162 = some (.inl nt) := (e112 389 162 (by first | decide | omega)).trans k3
  have k15 : ai_hv t112 389 166 = some (.inl ng) := (e112 389 166 (by first | decide | omega)).trans k4
  have k16 : ai_hv t112 389 167 = some (.inl ns) := (e112 389 167 (by first | decide | omega)).trans k5
  have k17 : ai_hv t112 389 168 = some (.inl nl) := (e112 389 168 (by first | decide | omega)).trans k6
  have k18 : ai_hv t112 389 160 = some (.inl ov) := (e112 389 160 (by first | decide | omega)).trans k7
  have k19 : ai_hv t112 389 161 = some (.inl dn) := (e112 389 161 (by first | decide | omega)).trans k8
  have k20 : ai_hv t112 389 165 = some (.inl pa) := (e112 389 165 (by first | decide | omega)).trans k9
  have k21 : ai_hv t112 383 13 = some (.inl c) := (e112 383 13 (by first | decide | omega)).trans k10
  refine ex_go (S := (20, [(1, .inl v112), (0, gx_r 383)], [], t112, n, 0)) rfl (fun _ => rfl) rfl ?_
  refine ex_go (S := (21, [(1, .inl v112), (0, gx_r 383)], [gx_r 383], t112, n, 0)) rfl (fun _ => rfl) rfl ?_
  refine ex_go (S := (23, [(1, .inl v112), (0, gx_r 383)], [.inl 26, gx_r 383], t112, n, 0)) rfl (fun _ => rfl) rfl ?_
  refine ex_go (S := (24, [(1, .inl v112), (0, gx_r 383)], [.inl 5, .inl 26, gx_r 383], t112, n, 0)) rfl (fun _ => rfl) rfl ?_
  obtain ⟨_, r122, v122, t122, a122, f122, rfl, s122, e122, q122⟩ := pk_takeOne (d + 1) n (s112) (w := 26) (m := 5) (by first | decide | omega) (by first | decide | omega)
  have b122 := s122.2.2.2
  refine gx_call1 rfl rfl s112.1 rfl rfl r122 rfl ?_
  have k23 : ai_hv t122 383 19 = some (.inl r) := (e122 383 19 (by first | decide | omega)).trans k13
  have k24 : ai_hv t122 389 162 = some (.inl nt) := (e122 389 162 (by first | decide | omega)).trans k14
  have k25 : ai_hv t122 389 166 = some (.inl ng) := (e122 389 166 (by first | decide | omega)).trans k15
  have k26 : ai_hv t122 389 167 = some (.inl ns) := (e122 389 167 (by first | decide | omega)).trans k16
  have k27 : ai_hv t122 389 168 = some (.inl nl) := (e122 389 168 (by first | decide | omega)).trans k17
  have k28 : ai_hv t122 389 160 = some (.inl ov) := (e122 389 160 (by first | decide | omega)).trans k18
  have k29 : ai_hv t122 389 161 = some (.inl dn) := (e122 389 161 (by first | decide | omega)).trans k19
  have k30 : ai_hv t122 389 165 = some (.inl pa) := (e122 389 165 (by first | decide | omega)).trans k20
  have k31 : ai_hv t122 383 13 = some (.inl c) := (e122 383 13 (by first | decide | omega)).trans k21
  refine ex_go (S := (28, [(2, .inl v122), (1, .inl v112), (0, gx_r 383)], [], t122, n, 0)) rfl (fun _ => rfl) rfl ?_
  refine ex_go (S := (29, [(2, .inl v122), (1, .inl v112), (0, gx_r 383)], [gx_r 383], t122, n, 0)) rfl (fun _ => rfl) rfl ?_
  refine ex_go (S := (30, [(2, .inl v122), (1, .inl v112), (0, gx_r 383)], [.inl 0, gx_r 383], t122, n, 0)) rfl (fun _ => rfl) rfl ?_
  refine ex_go (S := (31, [(2, .inl v122), (1, .inl v112), (0, gx_r 383)], [gx_r 383, .inl 0, gx_r 383], t122, n, 0)) rfl (fun _ => rfl) rfl ?_
  obtain ⟨_, r32, rfl⟩ := pk_lastOver (d + 3) n s122.1 k28 (by first | decide | omega)
  refine gx_call1 rfl rfl s122.1 rfl rfl r32 rfl ?_
  obtain ⟨_, r133, v133, t133, a133, f133, rfl, s133, e133, q133⟩ := pk_takeNumber (d + 2) n (s122) (lo := 0) (hi := ov - 1) (by first | decide | omega) (by first | decide | omega)
  have b133 := s133.2.2.2
  refine gx_call1 rfl rfl s122.1 rfl rfl r133 rfl ?_
  have k34 : ai_hv t133 383 19 = some (.inl r) := (e133 383 19 (by first | decide | omega)).trans k23
  have k35 : ai_hv t133 389 162 = some (.inl nt) := (e133 389 162 (by first | decide | omega)).trans k24
  have k36 : ai_hv t133 389 166 = some (.inl ng) := (e133 389 166 (by first | decide | omega)).trans k25
  have k37 : ai_hv t133 389 167 = some (.inl ns) := (e133 389 167 (by first | decide | omega)).trans k26
  have k38 : ai_hv t133 389 168 = some (.inl nl) := (e133 389 168 (by first | decide | omega)).trans k27
  have k39 : ai_hv t133 389 160 = some (.inl ov) := (e133 389 160 (by first | decide | omega)).trans k28
  have k40 : ai_hv t133 389 161 = some (.inl dn) := (e133 389 161 (by first | decide | omega)).trans k29
  have k41 : ai_hv t133 389 165 = some (.inl pa) := (e133 389 165 (by first | decide | omega)).trans k30
  have k42 : ai_hv t133 383 13 = some (.inl c) := (e133 383 13 (by first | decide | omega)).trans k31
  refine ex_go (S := (38, [(3, .inl v133), (2, .inl v122), (1, .inl v112), (0, gx_r 383)], [], t133, n, 0)) rfl (fun _ => rfl) rfl ?_
  refine ex_go (S := (39, [(3, .inl v133), (2, .inl v122), (1, .inl v112), (0, gx_r 383)], [gx_r 383], t133, n, 0)) rfl (fun _ => rfl) rfl ?_
  refine ex_go (S := (40, [(3, .inl v133), (2, .inl v122), (1, .inl v112), (0, gx_r 383)], [.inl v133, gx_r 383], t133, n, 0)) rfl (fun _ => rfl) rfl ?_
  refine ex_go (S := (41, [(3, .inl v133), (2, .inl v122), (1, .inl v112), (0, gx_r 383)], [gx_r 383, .inl v133, gx_r 383], t133, n, 0)) rfl (fun _ => rfl) rfl ?_
  obtain ⟨_, r43, rfl⟩ := pk_lastOver (d + 3) n s133.1 k39 (by first | decide | omega)
  refine gx_call1 rfl rfl s133.1 rfl rfl r43 rfl ?_
  obtain ⟨_, r144, v144, t144, a144, f144, rfl, s144, e144, q144⟩ := pk_takeNumber (d + 2) n (s133) (lo := v133) (hi := ov - 1) (by first | decide | omega) (by first | decide | omega)
  have b144 := s144.2.2.2
  refine gx_call1 rfl rfl s133.1 rfl rfl r144 rfl ?_
  have k45 : ai_hv t144 383 19 = some (.inl r) := (e144 383 19 (by first | decide | omega)).trans k34
  have k46 : ai_hv t144 389 162 = some (.inl nt) := (e144 389 162 (by first | decide | omega)).trans k35
  have k47 : ai_hv t144 389 166 = some (.inl ng) := (e144 389 166 (by first | decide | omega)).trans k36
  have k48 : ai_hv t144 389 167 = some (.inl ns) := (e144 389 167 (by first | decide | omega)).trans k37
  have k49 : ai_hv t144 389 168 = some (.inl nl) := (e144 389 168 (by first | decide | omega)).trans k38
  have k50 : ai_hv t144 389 160 = some (.inl ov) := (e144 389 160 (by first | decide | omega)).trans k39
  have k51 : ai_hv t144 389 161 = some (.inl dn) := (e144 389 161 (by first | decide | omega)).trans k40
  have k52 : ai_hv t144 389 165 = some (.inl pa) := (e144 389 165 (by first | decide | omega)).trans k41
  have k53 : ai_hv t144 383 13 = some (.inl c) := (e144 383 13 (by first | decide | omega)).trans k42
  refine ex_go (S := (49, [(4, .inl v144), (3, .inl v133), (2, .inl v122), (1, .inl v112), (0, gx_r 383)], [], t144, n, 0)) rfl (fun _ => rfl) rfl ?_
  refine ex_go (S := (50, [(4, .inl v144), (3, .inl v133), (2, .inl v122), (1, .inl v112), (0, gx_r 383)], [.inl v133], t144, n, 0)) rfl (fun _ => rfl) rfl ?_
  refine ex_go (S := (52, [(5, .inl v133), (4, .inl v144), (3, .inl v133), (2, .inl v122), (1, .inl v112), (0, gx_r 383)], [], t144, n, 0)) rfl (fun _ => rfl) rfl ?_
  refine pk_drift_l (tb := t144) (by first | decide | omega) (by first | decide | omega) (by first | decide | omega) (fun t154 s154 e154 => ?_) (8 - v133) _ _ (by first | decide | omega) s144 (fun _ _ _ => rfl)
  have k55 : ai_hv t154 383 19 = some (.inl r) := (e154 383 19 (by first | decide | omega)).trans k45
  have k56 : ai_hv t154 389 162 = some (.inl nt) := (e154 389 162 (by first | decide | omega)).trans k46
  have k57 : ai_hv t154 389 166 = some (.inl ng) := (e154 389 166 (by first | decide | omega)).trans k47
  have k58 : ai_hv t154 389 167 = some (.inl ns) := (e154 389 167 (by first | decide | omega)).trans k48
  have k59 : ai_hv t154 389 168 = some (.inl nl) := (e154 389 168 (by first | decide | omega)).trans k49
  have k60 : ai_hv t154 389 160 = some (.inl ov) := (e154 389 160 (by first | decide | omega)).trans k50
  have k61 : ai_hv t154 389 161 = some (.inl dn) := (e154 389 161 (by first | decide | omega)).trans k51
  have k62 : ai_hv t154 389 165 = some (.inl pa) := (e154 389 165 (by first | decide | omega)).trans k52
  have k63 : ai_hv t154 383 13 = some (.inl c) := (e154 383 13 (by first | decide | omega)).trans k53
  refine ⟨_, rfl, t154, a144, f144, rfl, s154, (fun c i h => (e154 c i (by first | decide | omega)).trans ((e144 c i (by first | decide | omega)).trans ((e133 c i (by first | decide | omega)).trans ((e122 c i (by first | decide | omega)).trans ((e112 c i (by first | decide | omega)).trans (e101 c i (by first | decide | omega))))))), fun h0 => ?_⟩
  refine ⟨by omega, c, ⟨r, nt, ng, ns, nl, ov, dn, pa, k55, k56, k57, k58, k59, k60, k61, k62, k63, by omega, ?_, ?_⟩, by omega⟩
  · exact px_E1_kept hE1 ((e154 389 163 (by first | decide | omega)).trans ((e144 389 163 (by first | decide | omega)).trans ((e133 389 163 (by first | decide | omega)).trans ((e122 389 163 (by first | decide | omega)).trans ((e112 389 163 (by first | decide | omega)).trans (e101 389 163 (by first | decide | omega))))))) (fun k hk => (e154 389 (255 + 4 * k) (by first | decide | omega)).trans ((e144 389 (255 + 4 * k) (by first | decide | omega)).trans ((e133 389 (255 + 4 * k) (by first | decide | omega)).trans ((e122 389 (255 + 4 * k) (by first | decide | omega)).trans ((e112 389 (255 + 4 * k) (by first | decide | omega)).trans (e101 389 (255 + 4 * k) (by first | decide | omega)))))))
  · exact px_E4_kept hE4 (Nat.le_refl _) (fun l hl => (e154 389 (169 + l) (by first | decide | omega)).trans ((e144 389 (169 + l) (by first | decide | omega)).trans ((e133 389 (169 + l) (by first | decide | omega)).trans ((e122 389 (169 + l) (by first | decide | omega)).trans ((e112 389 (169 + l) (by first | decide | omega)).trans (e101 389 (169 + l) (by first | decide | omega))))))) (fun i hi => (e154 390 (1100 + i) (by first | decide | omega)).trans ((e144 390 (1100 + i) (by first | decide | omega)).trans ((e133 390 (1100 + i) (by first | decide | omega)).trans ((e122 390 (1100 + i) (by first | decide | omega)).trans ((e112 390 (1100 + i) (by first | decide | omega)).trans (e101 390 (1100 + i) (by first | decide | omega))))))) (fun i hi => (e154 391 (1100 + i) (by first | decide | omega)).trans ((e144 391 (1100 + i) (by first | decide | omega)).trans ((e133 391 (1100 + i) (by first | decide | omega)).trans ((e122 391 (1100 + i) (by first | decide | omega)).trans ((e112 391 (1100 + i) (by first | decide | omega)).trans (e101 391 (1100 + i) (by first | decide | omega)))))))
theorem pk_lead_l (d n : Nat) {a f x y m : Nat} {tb : en_H} {Q : en_O → Prop} (hm : m ≤ 6) (hx : x ≤ 7) (hy : y ≤ 7) (ha : 1 ≤ a) (hQ : ∀ k t1 a1 f1, px_S t1 a1 f1 → px_F tb t1 → (f1 = 0 → a1 = a ∧ f = 0) → en_ex none (en_u (d + 4)) (en_code 188) (fun _ => false) (110, [(4, .inl k), (3, .inl y), (2, .inl x), (1, .inl m), (0, gx_r 383)], [], t1, n, 0) Q) : ∀ j k t0 a0 f0, k + j = m → px_S t0 a0 f0 → px_F tb t0 → (f0 = 0 → a0 = a ∧ f = 0) → en_ex none (en_u (d + 4)) (en_code 188) (fun _ => false) (54, [(4, .inl k), (3, .inl y), (2, .inl x), (1, .inl m), (0, gx_r 383)], [], t0, n, 0) Q := by
  intro j
  induction j with
  | zero =>
    intro k t0 a0 f0 hk s0 e0 h0
    have b0 := s0.2.2.2
    refine ex_go (S := (56, [(4, .inl k), (3, .inl y), (2, .inl x), (1, .inl m), (0, gx_r 383)], [.inl k], t0, n, 0)) rfl (fun _ => rfl) rfl ?_
    refine ex_go (S := (57, [(4, .inl k), (3, .inl y), (2, .inl x), (1, .inl m), (0, gx_r 383)], [.inl m, .inl k], t0, n, 0)) rfl (fun _ => rfl) rfl ?_
    refine gx_2t (c := .ge) rfl (by first | decide | omega) (by first | decide | omega) (show m ≤ k from by omega) rfl ?_
    exact hQ k t0 a0 f0 s0 (fun c i h => e0 c i h) (by first | decide | omega)
  | succ j ih =>
    intro k t0 a0 f0 hk s0 e0 h0
    have b0 := s0.2.2.2
    refine ex_go (S := (56, [(4, .inl k), (3, .inl y), (2, .inl x), (1, .inl m), (0, gx_r 383)], [.inl k], t0, n, 0)) rfl (fun _ => rfl) rfl ?_
    refine ex_go (S := (57, [(4, .inl k), (3, .inl y), (2, .inl x), (1, .inl m), (0, gx_r 383)], [.inl m, .inl k], t0, n, 0)) rfl (fun _ => rfl) rfl ?_
    refine gx_2f (c := .ge) rfl (by first | decide | omega) (by first | decide | omega) (show ¬ (m ≤ k) from by omega) rfl ?_
    refine ex_go (S := (61, [(4, .inl k), (3, .inl y), (2, .inl x), (1, .inl m), (0, gx_r 383)], [gx_r 383], t0, n, 0)) rfl (fun _ => rfl) rfl ?_
    refine gx_get rfl s0.1 rfl s0.2.2.1 rfl ?_
    by_cases hc1 : f0 ≠ 0
    · refine gx_1t (c := .ne) rfl (by first | decide | omega) hc1 rfl ?_
      exact hQ k t0 a0 f0 s0 (fun c i h => e0 c i h) (by first | decide | omega)
    · refine gx_1f (c := .ne) rfl (by first | decide | omega) hc1 rfl ?_
      refine ex_go (S := (68, [(4, .inl k), (3, .inl y), (2, .inl x), (1, .inl m), (0, gx_r 383)], [gx_r 383], t0, n, 0)) rfl (fun _ => rfl) rfl ?_
      refine gx_ref (c := 389) rfl s0.1 rfl rfl rfl rfl ?_
      refine ex_go (S := (74, [(4, .inl k), (3, .inl y), (2, .inl x), (1, .inl m), (0, gx_r 383)], [.inl 254, gx_r 389], t0, n, 0)) rfl (fun _ => rfl) rfl ?_
      refine ex_go (S := (75, [(4, .inl k), (3, .inl y), (2, .inl x), (1, .inl m), (0, gx_r 383)], [.inl 4, .inl 254, gx_r 389], t0, n, 0)) rfl (fun _ => rfl) rfl ?_
      refine ex_go (S := (77, [(4, .inl k), (3, .inl y), (2, .inl x), (1, .inl m), (0, gx_r 383)], [.inl k, .inl 4, .inl 254, gx_r 389], t0, n, 0)) rfl (fun _ => rfl) rfl ?_
      refine gx_imul rfl (by first | decide | omega) rfl ?_
      refine ex_iadd rfl (by first | decide | omega) rfl ?_
      obtain ⟨m2, k3, m2l, m2h⟩ := gx_inb (c := 389) (i := 254 + (4 * k)) (lo := 0) (hi := 63) s0.1 rfl (show 254 + (4 * k) < 320 from by omega) (px_run_lead0 (k) (by first | decide | omega) (by first | decide | omega)) (by decide) (by decide) rfl
      refine gx_ag (v := .inl m2) (cb := fun c => Nat.beq c 0) rfl (fun _ => rfl) s0.1 rfl rfl k3 (by first | decide | omega) rfl ?_
      refine ex_go (S := (82, [(4, .inl k), (3, .inl y), (2, .inl x), (1, .inl m), (0, gx_r 383)], [.inl 8, .inl m2], t0, n, 0)) rfl (fun _ => rfl) rfl ?_
      refine ex_go (S := (83, [(4, .inl k), (3, .inl y), (2, .inl x), (1, .inl m), (0, gx_r 383)], [.inl y, .inl 8, .inl m2], t0, n, 0)) rfl (fun _ => rfl) rfl ?_
      refine gx_imul rfl (by first | decide | omega) rfl ?_
      refine ex_go (S := (85, [(4, .inl k), (3, .inl y), (2, .inl x), (1, .inl m), (0, gx_r 383)], [.inl x, .inl (8 * y), .inl m2], t0, n, 0)) rfl (fun _ => rfl) rfl ?_
      refine ex_iadd rfl (by first | decide | omega) rfl ?_
      by_cases hc4 : m2 ≠ (8 * y) + x
      · refine gx_2t (c := .ne) rfl (by first | decide | omega) (by first | decide | omega) hc4 rfl ?_
        refine gx_iinc (i := 4) (k := 1) rfl (fun _ => rfl) (by first | decide | omega) rfl ?_
        show en_ex _ _ _ _ (107, [(4, .inl (k + 1)), (3, .inl y), (2, .inl x), (1, .inl m), (0, gx_r 383)], [], t0, n, 0) _
        refine ex_go (S := (54, [(4, .inl (k + 1)), (3, .inl y), (2, .inl x), (1, .inl m), (0, gx_r 383)], [], t0, n, 0)) rfl (fun _ => rfl) rfl ?_
        exact ih (k + 1) t0 a0 f0 (by first | decide | omega) s0 (fun c i h => e0 c i h) (by first | decide | omega)
      · refine gx_2f (c := .ne) rfl (by first | decide | omega) (by first | decide | omega) hc4 rfl ?_
        refine ex_go (S := (90, [(4, .inl k), (3, .inl y), (2, .inl x), (1, .inl m), (0, gx_r 383)], [gx_r 383], t0, n, 0)) rfl (fun _ => rfl) rfl ?_
        refine ex_go (S := (91, [(4, .inl k), (3, .inl y), (2, .inl x), (1, .inl m), (0, gx_r 383)], [gx_r 383, gx_r 383], t0, n, 0)) rfl (fun _ => rfl) rfl ?_
        refine gx_get rfl s0.1 rfl s0.2.1 rfl ?_
        refine ex_go (S := (95, [(4, .inl k), (3, .inl y), (2, .inl x), (1, .inl m), (0, gx_r 383)], [.inl 1, .inl a0, gx_r 383], t0, n, 0)) rfl (fun _ => rfl) rfl ?_
        refine gx_isub rfl (by first | decide | omega) (by first | decide | omega) rfl ?_
        refine gx_put rfl s0.1 rfl rfl (ai_in_h (by first | decide | omega) (by first | decide | omega) (by first | decide | omega)) rfl (fun t105 g105 k105 e105 => ?_)
        have k6 : ai_hv t105 389 (254 + (4 * k)) = some (.inl m2) := (e105 389 (254 + (4 * k)) (by first | decide | omega)).trans k3
        have s105 : px_S t105 (a0 - 1) f0 := ⟨g105, k105, (e105 383 8 (by first | decide | omega)).trans s0.2.2.1, by omega, s0.2.2.2.2⟩
        refine ex_go (S := (100, [(4, .inl k), (3, .inl y), (2, .inl x), (1, .inl m), (0, gx_r 383)], [gx_r 383], t105, n, 0)) rfl (fun _ => rfl) rfl ?_
        refine ex_go (S := (101, [(4, .inl k), (3, .inl y), (2, .inl x), (1, .inl m), (0, gx_r 383)], [.inl 3, gx_r 383], t105, n, 0)) rfl (fun _ => rfl) rfl ?_
        obtain ⟨_, r107, t107, a107, f107, rfl, s107, e107, q107⟩ := pk_wrong (d + 3) n (s105) (w := 3) (by first | decide | omega)
        have b107 := s107.2.2.2
        refine gx_call0 rfl rfl s105.1 rfl rfl r107 rfl ?_
        have k8 : ai_hv t107 389 (254 + (4 * k)) = some (.inl m2) := (e107 389 (254 + (4 * k)) (by first | decide | omega)).trans k6
        refine gx_iinc (i := 4) (k := 1) rfl (fun _ => rfl) (by first | decide | omega) rfl ?_
        show en_ex _ _ _ _ (107, [(4, .inl (k + 1)), (3, .inl y), (2, .inl x), (1, .inl m), (0, gx_r 383)], [], t107, n, 0) _
        refine ex_go (S := (54, [(4, .inl (k + 1)), (3, .inl y), (2, .inl x), (1, .inl m), (0, gx_r 383)], [], t107, n, 0)) rfl (fun _ => rfl) rfl ?_
        exact ih (k + 1) t107 a107 f107 (by first | decide | omega) s107 (fun c i h => ((e107 c i (by first | decide | omega)).trans (e105 c i (by first | decide | omega))).trans (e0 c i h)) (by first | decide | omega)
theorem pk_readLead (d n : Nat) {t0 : en_H} {a c : Nat} (s0 : px_S t0 a 0) (ha : a ≤ 999) (hca : c ≤ a) (hO : px_O t0 c) : ∃ r, en_u (d + 5) 188 [gx_r 383] t0 n = some r ∧ ∃ t' a' f', r = (none, t', n, 0) ∧ px_S t' a' f' ∧ px_PG t0 t' ∧ (f' = 0 → a < a' ∧ ∃ c', px_O t' c' ∧ c' ≤ a') := by
  have b0 := s0.2.2.2
  obtain ⟨r, nt, ng, ns, nl, ov, dn, pa, kr, knt, kng, kns, knl, kov, kdn, kpa, kc, hA, hE1, hE4⟩ := hO
  obtain ⟨nL, kL, -, hL⟩ := gx_in (c := 389) (i := 163) (lo := 0) (hi := 6) s0.1 rfl rfl rfl rfl
  refine en_u_ex (d := d + 4) rfl ?_
  show en_ex _ _ _ _ (0, [(0, gx_r 383)], [], t0, n, 0) _
  refine ex_go (S := (1, [(0, gx_r 383)], [gx_r 383], t0, n, 0)) rfl (fun _ => rfl) rfl ?_
  refine gx_ref (c := 389) rfl s0.1 rfl rfl rfl rfl ?_
  refine ex_go (S := (7, [(0, gx_r 383)], [.inl 163, gx_r 389], t0, n, 0)) rfl (fun _ => rfl) rfl ?_
  refine gx_ag (v := .inl nL) (cb := fun c => Nat.beq c 0) rfl (fun _ => rfl) s0.1 rfl rfl kL (by first | decide | omega) rfl ?_
  refine ex_go (S := (9, [(1, .inl nL), (0, gx_r 383)], [], t0, n, 0)) rfl (fun _ => rfl) rfl ?_
  refine ex_go (S := (10, [(1, .inl nL), (0, gx_r 383)], [.inl nL], t0, n, 0)) rfl (fun _ => rfl) rfl ?_
  refine ex_go (S := (12, [(1, .inl nL), (0, gx_r 383)], [.inl 6, .inl nL], t0, n, 0)) rfl (fun _ => rfl) rfl ?_
  by_cases hc1 : nL ≠ 6
  · refine gx_2t (c := .ne) rfl (by first | decide | omega) (by first | decide | omega) hc1 rfl ?_
    refine ex_go (S := (22, [(1, .inl nL), (0, gx_r 383)], [gx_r 383], t0, n, 0)) rfl (fun _ => rfl) rfl ?_
    refine ex_go (S := (23, [(1, .inl nL), (0, gx_r 383)], [gx_r 383, gx_r 383], t0, n, 0)) rfl (fun _ => rfl) rfl ?_
    refine gx_get rfl s0.1 rfl s0.2.1 rfl ?_
    refine ex_go (S := (27, [(1, .inl nL), (0, gx_r 383)], [.inl 1, .inl a, gx_r 383], t0, n, 0)) rfl (fun _ => rfl) rfl ?_
    refine ex_iadd rfl (by first | decide | omega) rfl ?_
    refine gx_put rfl s0.1 rfl rfl (ai_in_h (by first | decide | omega) (by first | decide | omega) (by first | decide | omega)) rfl (fun t102 g102 k102 e102 => ?_)
    have k3 : ai_hv t102 383 19 = some (.inl r) := (e102 383 19 (by first | decide | omega)).trans kr
    have k4 : ai_hv t102 389 162 = some (.inl nt) := (e102 389 162 (by first | decide | omega)).trans knt
    have k5 : ai_hv t102 389 166 = some (.inl ng) := (e102 389 166 (by first | decide | omega)).trans kng
    have k6 : ai_hv t102 389 167 = some (.inl ns) := (e102 389 167 (by first | decide | omega)).trans kns
    have k7 : ai_hv t102 389 168 = some (.inl nl) := (e102 389 168 (by first | decide | omega)).trans knl
    have k8 : ai_hv t102 389 160 = some (.inl ov) := (e102 389 160 (by first | decide | omega)).trans kov
    have k9 : ai_hv t102 389 161 = some (.inl dn) := (e102 389 161 (by first | decide | omega)).trans kdn
    have k10 : ai_hv t102 389 165 = some (.inl pa) := (e102 389 165 (by first | decide | omega)).trans kpa
    have k11 : ai_hv t102 383 13 = some (.inl c) := (e102 383 13 (by first | decide | omega)).trans kc
    have k12 : ai_hv t102 389 163 = some (.inl nL) := (e102 389 163 (by first | decide | omega)).trans kL
    have s102 : px_S t102 (a + 1) 0 := ⟨g102, k102, (e102 383 8 (by first | decide | omega)).trans s0.2.2.1, by omega, s0.2.2.2.2⟩
    refine ex_go (S := (32, [(1, .inl nL), (0, gx_r 383)], [gx_r 383], t102, n, 0)) rfl (fun _ => rfl) rfl ?_
    refine ex_go (S := (33, [(1, .inl nL), (0, gx_r 383)], [.inl 0, gx_r 383], t102, n, 0)) rfl (fun _ => rfl) rfl ?_
    refine ex_go (S := (34, [(1, .inl nL), (0, gx_r 383)], [gx_r 383, .inl 0, gx_r 383], t102, n, 0)) rfl (fun _ => rfl) rfl ?_
    obtain ⟨_, r13, rfl⟩ := pk_lastOver (d + 3) n s102.1 k8 (by first | decide | omega)
    refine gx_call1 rfl rfl s102.1 rfl rfl r13 rfl ?_
    obtain ⟨_, r114, v114, t114, a114, f114, rfl, s114, e114, q114⟩ := pk_takeNumber (d + 2) n (s102) (lo := 0) (hi := ov - 1) (by first | decide | omega) (by first | decide | omega)
    have b114 := s114.2.2.2
    refine gx_call1 rfl rfl s102.1 rfl rfl r114 rfl ?_
    have k15 : ai_hv t114 383 19 = some (.inl r) := (e114 383 19 (by first | decide | omega)).trans k3
    have k16 : ai_hv t114 389 162 = some (.inl nt) := (e114 389 162 (by first | decide | omega)).trans k4
    have k17 : ai_hv t114 389 166 = some (.inl ng) := (e114 389 166 (by first | decide | omega)).trans k5
    have k18 : ai_hv t114 389 167 = some (.inl ns) := (e114 389 167 (by first | decide | omega)).trans k6
    have k19 : ai_hv t114 389 168 = some (.inl nl) := (e114 389 168 (by first | decide | omega)).trans k7
    have k20 : ai_hv t114 389 160 = some (.inl ov) := (e114 389 160 (by first | decide | omega)).trans k8
    have k21 : ai_hv t114 389 161 = some (.inl dn) := (e114 389 161 (by first | decide | omega)).trans k9
    have k22 : ai_hv t114 389 165 = some (.inl pa) := (e114 389 165 (by first | decide | omega)).trans k10
    have k23 : ai_hv t114 383 13 = some (.inl c) := (e114 383 13 (by first | decide | omega)).trans k11
    have k24 : ai_hv t114 389 163 = some (.inl nL) := (e114 389 163 (by first | decide | omega)).trans k12
    refine ex_go (S := (41, [(2, .inl v114), (1, .inl nL), (0, gx_r 383)], [], t114, n, 0)) rfl (fun _ => rfl) rfl ?_
    refine ex_go (S := (42, [(2, .inl v114), (1, .inl nL), (0, gx_r 383)], [gx_r 383], t114, n, 0)) rfl (fun _ => rfl) rfl ?_
    refine ex_go (S := (43, [(2, .inl v114), (1, .inl nL), (0, gx_r 383)], [.inl 0, gx_r 383], t114, n, 0)) rfl (fun _ => rfl) rfl ?_
    refine ex_go (S := (44, [(2, .inl v114), (1, .inl nL), (0, gx_r 383)], [gx_r 383, .inl 0, gx_r 383], t114, n, 0)) rfl (fun _ => rfl) rfl ?_
    obtain ⟨_, r25, rfl⟩ := pk_lastDown (d + 3) n s114.1 k21 (by first | decide | omega)
    refine gx_call1 rfl rfl s114.1 rfl rfl r25 rfl ?_
    obtain ⟨_, r126, v126, t126, a126, f126, rfl, s126, e126, q126⟩ := pk_takeNumber (d + 2) n (s114) (lo := 0) (hi := dn - 1) (by first | decide | omega) (by first | decide | omega)
    have b126 := s126.2.2.2
    refine gx_call1 rfl rfl s114.1 rfl rfl r126 rfl ?_
    have k27 : ai_hv t126 383 19 = some (.inl r) := (e126 383 19 (by first | decide | omega)).trans k15
    have k28 : ai_hv t126 389 162 = some (.inl nt) := (e126 389 162 (by first | decide | omega)).trans k16
    have k29 : ai_hv t126 389 166 = some (.inl ng) := (e126 389 166 (by first | decide | omega)).trans k17
    have k30 : ai_hv t126 389 167 = some (.inl ns) := (e126 389 167 (by first | decide | omega)).trans k18
    have k31 : ai_hv t126 389 168 = some (.inl nl) := (e126 389 168 (by first | decide | omega)).trans k19
    have k32 : ai_hv t126 389 160 = some (.inl ov) := (e126 389 160 (by first | decide | omega)).trans k20
    have k33 : ai_hv t126 389 161 = some (.inl dn) := (e126 389 161 (by first | decide | omega)).trans k21
    have k34 : ai_hv t126 389 165 = some (.inl pa) := (e126 389 165 (by first | decide | omega)).trans k22
    have k35 : ai_hv t126 383 13 = some (.inl c) := (e126 383 13 (by first | decide | omega)).trans k23
    have k36 : ai_hv t126 389 163 = some (.inl nL) := (e126 389 163 (by first | decide | omega)).trans k24
    refine ex_go (S := (51, [(3, .inl v126), (2, .inl v114), (1, .inl nL), (0, gx_r 383)], [], t126, n, 0)) rfl (fun _ => rfl) rfl ?_
    refine ex_go (S := (52, [(3, .inl v126), (2, .inl v114), (1, .inl nL), (0, gx_r 383)], [.inl 0], t126, n, 0)) rfl (fun _ => rfl) rfl ?_
    refine ex_go (S := (54, [(4, .inl 0), (3, .inl v126), (2, .inl v114), (1, .inl nL), (0, gx_r 383)], [], t126, n, 0)) rfl (fun _ => rfl) rfl ?_
    have b9 : 1 ≤ a126 := by omega
    refine pk_lead_l d n (tb := t126) (a := a126) (f := f126) (by first | decide | omega) (by first | decide | omega) (by first | decide | omega) (by first | decide | omega) (fun k137 t137 a137 f137 s137 e137 q137 => ?_) nL 0 _ _ _ (by first | decide | omega) s126 (fun _ _ _ => rfl) (by first | decide | omega)
    have b137 := s137.2.2.2
    have k38 : ai_hv t137 383 19 = some (.inl r) := (e137 383 19 (by first | decide | omega)).trans k27
    have k39 : ai_hv t137 389 162 = some (.inl nt) := (e137 389 162 (by first | decide | omega)).trans k28
    have k40 : ai_hv t137 389 166 = some (.inl ng) := (e137 389 166 (by first | decide | omega)).trans k29
    have k41 : ai_hv t137 389 167 = some (.inl ns) := (e137 389 167 (by first | decide | omega)).trans k30
    have k42 : ai_hv t137 389 168 = some (.inl nl) := (e137 389 168 (by first | decide | omega)).trans k31
    have k43 : ai_hv t137 389 160 = some (.inl ov) := (e137 389 160 (by first | decide | omega)).trans k32
    have k44 : ai_hv t137 389 161 = some (.inl dn) := (e137 389 161 (by first | decide | omega)).trans k33
    have k45 : ai_hv t137 389 165 = some (.inl pa) := (e137 389 165 (by first | decide | omega)).trans k34
    have k46 : ai_hv t137 383 13 = some (.inl c) := (e137 383 13 (by first | decide | omega)).trans k35
    have k47 : ai_hv t137 389 163 = some (.inl nL) := (e137 389 163 (by first | decide | omega)).trans k36
    refine ex_go (S := (113, [(4, .inl k137), (3, .inl v126), (2, .inl v114), (1, .inl nL), (0, gx_r 383)], [.inl 254], t137, n, 0)) rfl (fun _ => rfl) rfl ?_
    refine ex_go (S := (114, [(4, .inl k137), (3, .inl v126), (2, .inl v114), (1, .inl nL), (0, gx_r 383)], [.inl 4, .inl 254], t137, n, 0)) rfl (fun _ => rfl) rfl ?_
    refine ex_go (S := (115, [(4, .inl k137), (3, .inl v126), (2, .inl v114), (1, .inl nL), (0, gx_r 383)], [.inl nL, .inl 4, .inl 254], t137, n, 0)) rfl (fun _ => rfl) rfl ?_
    refine gx_imul rfl (by first | decide | omega) rfl ?_
    refine ex_iadd rfl (by first | decide | omega) rfl ?_
    refine ex_go (S := (119, [(4, .inl (254 + (4 * nL))), (3, .inl v126), (2, .inl v114), (1, .inl nL), (0, gx_r 383)], [], t137, n, 0)) rfl (fun _ => rfl) rfl ?_
    refine ex_go (S := (120, [(4, .inl (254 + (4 * nL))), (3, .inl v126), (2, .inl v114), (1, .inl nL), (0, gx_r 383)], [gx_r 383], t137, n, 0)) rfl (fun _ => rfl) rfl ?_
    refine gx_ref (c := 389) rfl s137.1 rfl rfl rfl rfl ?_
    refine ex_go (S := (125, [(4, .inl (254 + (4 * nL))), (3, .inl v126), (2, .inl v114), (1, .inl nL), (0, gx_r 383)], [.inl (254 + (4 * nL)), gx_r 389], t137, n, 0)) rfl (fun _ => rfl) rfl ?_
    refine ex_go (S := (127, [(4, .inl (254 + (4 * nL))), (3, .inl v126), (2, .inl v114), (1, .inl nL), (0, gx_r 383)], [.inl 8, .inl (254 + (4 * nL)), gx_r 389], t137, n, 0)) rfl (fun _ => rfl) rfl ?_
    refine ex_go (S := (128, [(4, .inl (254 + (4 * nL))), (3, .inl v126), (2, .inl v114), (1, .inl nL), (0, gx_r 383)], [.inl v126, .inl 8, .inl (254 + (4 * nL)), gx_r 389], t137, n, 0)) rfl (fun _ => rfl) rfl ?_
    refine gx_imul rfl (by first | decide | omega) rfl ?_
    refine ex_go (S := (130, [(4, .inl (254 + (4 * nL))), (3, .inl v126), (2, .inl v114), (1, .inl nL), (0, gx_r 383)], [.inl v114, .inl (8 * v126), .inl (254 + (4 * nL)), gx_r 389], t137, n, 0)) rfl (fun _ => rfl) rfl ?_
    refine ex_iadd rfl (by first | decide | omega) rfl ?_
    refine gx_ap rfl (fun _ => rfl) s137.1 rfl rfl rfl (show 254 + (4 * nL) < 320 from by omega) (px_run_lead0 (nL) (by first | decide | omega) (by first | decide | omega)) (ai_in_h (by first | decide | omega) (by first | decide | omega) (by first | decide | omega)) rfl (fun t148 g148 k148 e148 => ?_)
    have k49 : ai_hv t148 383 19 = some (.inl r) := (e148 383 19 (by first | decide | omega)).trans k38
    have k50 : ai_hv t148 389 162 = some (.inl nt) := (e148 389 162 (by first | decide | omega)).trans k39
    have k51 : ai_hv t148 389 166 = some (.inl ng) := (e148 389 166 (by first | decide | omega)).trans k40
    have k52 : ai_hv t148 389 167 = some (.inl ns) := (e148 389 167 (by first | decide | omega)).trans k41
    have k53 : ai_hv t148 389 168 = some (.inl nl) := (e148 389 168 (by first | decide | omega)).trans k42
    have k54 : ai_hv t148 389 160 = some (.inl ov) := (e148 389 160 (by first | decide | omega)).trans k43
    have k55 : ai_hv t148 389 161 = some (.inl dn) := (e148 389 161 (by first | decide | omega)).trans k44
    have k56 : ai_hv t148 389 165 = some (.inl pa) := (e148 389 165 (by first | decide | omega)).trans k45
    have k57 : ai_hv t148 383 13 = some (.inl c) := (e148 383 13 (by first | decide | omega)).trans k46
    have k58 : ai_hv t148 389 163 = some (.inl nL) := (e148 389 163 (by first | decide | omega)).trans k47
    have s148 : px_S t148 a137 f137 := ⟨g148, (e148 383 7 (by first | decide | omega)).trans s137.2.1, (e148 383 8 (by first | decide | omega)).trans s137.2.2.1, s137.2.2.2⟩
    refine ex_go (S := (133, [(4, .inl (254 + (4 * nL))), (3, .inl v126), (2, .inl v114), (1, .inl nL), (0, gx_r 383)], [gx_r 383], t148, n, 0)) rfl (fun _ => rfl) rfl ?_
    refine gx_ref (c := 389) rfl s148.1 rfl rfl rfl rfl ?_
    refine ex_go (S := (138, [(4, .inl (254 + (4 * nL))), (3, .inl v126), (2, .inl v114), (1, .inl nL), (0, gx_r 383)], [.inl (254 + (4 * nL)), gx_r 389], t148, n, 0)) rfl (fun _ => rfl) rfl ?_
    refine ex_go (S := (139, [(4, .inl (254 + (4 * nL))), (3, .inl v126), (2, .inl v114), (1, .inl nL), (0, gx_r 383)], [.inl 1, .inl (254 + (4 * nL)), gx_r 389], t148, n, 0)) rfl (fun _ => rfl) rfl ?_
    refine ex_iadd rfl (by first | decide | omega) rfl ?_
    refine ex_go (S := (141, [(4, .inl (254 + (4 * nL))), (3, .inl v126), (2, .inl v114), (1, .inl nL), (0, gx_r 383)], [gx_r 383, .inl ((254 + (4 * nL)) + 1), gx_r 389], t148, n, 0)) rfl (fun _ => rfl) rfl ?_
    refine ex_go (S := (142, [(4, .inl (254 + (4 * nL))), (3, .inl v126), (2, .inl v114), (1, .inl nL), (0, gx_r 383)], [.inl 5, gx_r 383, .inl ((254 + (4 * nL)) + 1), gx_r 389], t148, n, 0)) rfl (fun _ => rfl) rfl ?_
    refine ex_go (S := (143, [(4, .inl (254 + (4 * nL))), (3, .inl v126), (2, .inl v114), (1, .inl nL), (0, gx_r 383)], [.inl 1, .inl 5, gx_r 383, .inl ((254 + (4 * nL)) + 1), gx_r 389], t148, n, 0)) rfl (fun _ => rfl) rfl ?_
    refine ex_go (S := (145, [(4, .inl (254 + (4 * nL))), (3, .inl v126), (2, .inl v114), (1, .inl nL), (0, gx_r 383)], [.inl 30, .inl 1, .inl 5, gx_r 383, .inl ((254 + (4 * nL)) + 1), gx_r 389], t148, n, 0)) rfl (fun _ => rfl) rfl ?_
    obtain ⟨_, r159, v159, t159, a159, f159, rfl, s159, e159, q159⟩ := pk_takeAfter d n (s148) (w := 5) (lo := 1) (hi := 30) (by first | decide | omega) (by first | decide | omega) (by first | decide | omega)
    have b159 := s159.2.2.2
    refine gx_call1 rfl rfl s148.1 rfl rfl r159 rfl ?_
    have k60 : ai_hv t159 383 19 = some (.inl r) := (e159 383 19 (by first | decide | omega)).trans k49
    have k61 : ai_hv t159 389 162 = some (.inl nt) := (e159 389 162 (by first | decide | omega)).trans k50
    have k62 : ai_hv t159 389 166 = some (.inl ng) := (e159 389 166 (by first | decide | omega)).trans k51
    have k63 : ai_hv t159 389 167 = some (.inl ns) := (e159 389 167 (by first | decide | omega)).trans k52
    have k64 : ai_hv t159 389 168 = some (.inl nl) := (e159 389 168 (by first | decide | omega)).trans k53
    have k65 : ai_hv t159 389 160 = some (.inl ov) := (e159 389 160 (by first | decide | omega)).trans k54
    have k66 : ai_hv t159 389 161 = some (.inl dn) := (e159 389 161 (by first | decide | omega)).trans k55
    have k67 : ai_hv t159 389 165 = some (.inl pa) := (e159 389 165 (by first | decide | omega)).trans k56
    have k68 : ai_hv t159 383 13 = some (.inl c) := (e159 383 13 (by first | decide | omega)).trans k57
    have k69 : ai_hv t159 389 163 = some (.inl nL) := (e159 389 163 (by first | decide | omega)).trans k58
    have k70 : ai_hv t159 389 (254 + (4 * nL)) = some (.inl ((8 * v126) + v114)) := (e159 389 (254 + (4 * nL)) (by first | decide | omega)).trans k148
    refine gx_ap rfl (fun _ => rfl) s159.1 rfl rfl rfl (show (254 + (4 * nL)) + 1 < 320 from by omega) (px_run_lead1 (nL) (by first | decide | omega) (by first | decide | omega)) (ai_in_h (by first | decide | omega) (by first | decide | omega) (by first | decide | omega)) rfl (fun t171 g171 k171 e171 => ?_)
    have k72 : ai_hv t171 383 19 = some (.inl r) := (e171 383 19 (by first | decide | omega)).trans k60
    have k73 : ai_hv t171 389 162 = some (.inl nt) := (e171 389 162 (by first | decide | omega)).trans k61
    have k74 : ai_hv t171 389 166 = some (.inl ng) := (e171 389 166 (by first | decide | omega)).trans k62
    have k75 : ai_hv t171 389 167 = some (.inl ns) := (e171 389 167 (by first | decide | omega)).trans k63
    have k76 : ai_hv t171 389 168 = some (.inl nl) := (e171 389 168 (by first | decide | omega)).trans k64
    have k77 : ai_hv t171 389 160 = some (.inl ov) := (e171 389 160 (by first | decide | omega)).trans k65
    have k78 : ai_hv t171 389 161 = some (.inl dn) := (e171 389 161 (by first | decide | omega)).trans k66
    have k79 : ai_hv t171 389 165 = some (.inl pa) := (e171 389 165 (by first | decide | omega)).trans k67
    have k80 : ai_hv t171 383 13 = some (.inl c) := (e171 383 13 (by first | decide | omega)).trans k68
    have k81 : ai_hv t171 389 163 = some (.inl nL) := (e171 389 163 (by first | decide | omega)).trans k69
    have k82 : ai_hv t171 389 (254 + (4 * nL)) = some (.inl ((8 * v126) + v114)) := (e171 389 (254 + (4 * nL)) (by first | decide | omega)).trans k70
    have s171 : px_S t171 a159 f159 := ⟨g171, (e171 383 7 (by first | decide | omega)).trans s159.2.1, (e171 383 8 (by first | decide | omega)).trans s159.2.2.1, s159.2.2.2⟩
    refine ex_go (S := (150, [(4, .inl (254 + (4 * nL))), (3, .inl v126), (2, .inl v114), (1, .inl nL), (0, gx_r 383)], [gx_r 383], t171, n, 0)) rfl (fun _ => rfl) rfl ?_
    refine gx_ref (c := 389) rfl s171.1 rfl rfl rfl rfl ?_
    refine ex_go (S := (155, [(4, .inl (254 + (4 * nL))), (3, .inl v126), (2, .inl v114), (1, .inl nL), (0, gx_r 383)], [.inl (254 + (4 * nL)), gx_r 389], t171, n, 0)) rfl (fun _ => rfl) rfl ?_
    refine ex_go (S := (156, [(4, .inl (254 + (4 * nL))), (3, .inl v126), (2, .inl v114), (1, .inl nL), (0, gx_r 383)], [.inl 2, .inl (254 + (4 * nL)), gx_r 389], t171, n, 0)) rfl (fun _ => rfl) rfl ?_
    refine ex_iadd rfl (by first | decide | omega) rfl ?_
    refine ex_go (S := (158, [(4, .inl (254 + (4 * nL))), (3, .inl v126), (2, .inl v114), (1, .inl nL), (0, gx_r 383)], [gx_r 383, .inl ((254 + (4 * nL)) + 2), gx_r 389], t171, n, 0)) rfl (fun _ => rfl) rfl ?_
    refine ex_go (S := (160, [(4, .inl (254 + (4 * nL))), (3, .inl v126), (2, .inl v114), (1, .inl nL), (0, gx_r 383)], [.inl 6, gx_r 383, .inl ((254 + (4 * nL)) + 2), gx_r 389], t171, n, 0)) rfl (fun _ => rfl) rfl ?_
    refine ex_go (S := (161, [(4, .inl (254 + (4 * nL))), (3, .inl v126), (2, .inl v114), (1, .inl nL), (0, gx_r 383)], [.inl 0, .inl 6, gx_r 383, .inl ((254 + (4 * nL)) + 2), gx_r 389], t171, n, 0)) rfl (fun _ => rfl) rfl ?_
    refine ex_go (S := (162, [(4, .inl (254 + (4 * nL))), (3, .inl v126), (2, .inl v114), (1, .inl nL), (0, gx_r 383)], [gx_r 383, .inl 0, .inl 6, gx_r 383, .inl ((254 + (4 * nL)) + 2), gx_r 389], t171, n, 0)) rfl (fun _ => rfl) rfl ?_
    refine gx_ref (c := 389) rfl s171.1 rfl rfl rfl rfl ?_
    refine ex_go (S := (167, [(4, .inl (254 + (4 * nL))), (3, .inl v126), (2, .inl v114), (1, .inl nL), (0, gx_r 383)], [.inl (254 + (4 * nL)), gx_r 389, .inl 0, .inl 6, gx_r 383, .inl ((254 + (4 * nL)) + 2), gx_r 389], t171, n, 0)) rfl (fun _ => rfl) rfl ?_
    refine ex_go (S := (168, [(4, .inl (254 + (4 * nL))), (3, .inl v126), (2, .inl v114), (1, .inl nL), (0, gx_r 383)], [.inl 1, .inl (254 + (4 * nL)), gx_r 389, .inl 0, .inl 6, gx_r 383, .inl ((254 + (4 * nL)) + 2), gx_r 389], t171, n, 0)) rfl (fun _ => rfl) rfl ?_
    refine ex_iadd rfl (by first | decide | omega) rfl ?_
    refine gx_ag (v := .inl v159) (cb := fun c => Nat.beq c 0) rfl (fun _ => rfl) s171.1 rfl rfl k171 (by first | decide | omega) rfl ?_
    refine ex_go (S := (171, [(4, .inl (254 + (4 * nL))), (3, .inl v126), (2, .inl v114), (1, .inl nL), (0, gx_r 383)], [.inl 1, .inl v159, .inl 0, .inl 6, gx_r 383, .inl ((254 + (4 * nL)) + 2), gx_r 389], t171, n, 0)) rfl (fun _ => rfl) rfl ?_
    rcases Nat.eq_zero_or_pos v159 with hz83 | hz83
    · subst hz83
      refine ex_go (S := (172, [(4, .inl (254 + (4 * nL))), (3, .inl v126), (2, .inl v114), (1, .inl nL), (0, gx_r 383)], [.inl 4294967295, .inl 0, .inl 6, gx_r 383, .inl ((254 + (4 * nL)) + 2), gx_r 389], t171, n, 0)) rfl (fun _ => rfl) rfl ?_
      obtain ⟨_, r184, v184, t184, a184, f184, rfl, s184, e184, q184⟩ := pk_takeAfter d n (s171) (w := 6) (lo := 0) (hi := 4294967295) (by first | decide | omega) (by first | decide | omega) (by first | decide | omega)
      have b184 := s184.2.2.2
      refine gx_call1 rfl rfl s171.1 rfl rfl r184 rfl ?_
      have k85 : ai_hv t184 383 19 = some (.inl r) := (e184 383 19 (by first | decide | omega)).trans k72
      have k86 : ai_hv t184 389 162 = some (.inl nt) := (e184 389 162 (by first | decide | omega)).trans k73
      have k87 : ai_hv t184 389 166 = some (.inl ng) := (e184 389 166 (by first | decide | omega)).trans k74
      have k88 : ai_hv t184 389 167 = some (.inl ns) := (e184 389 167 (by first | decide | omega)).trans k75
      have k89 : ai_hv t184 389 168 = some (.inl nl) := (e184 389 168 (by first | decide | omega)).trans k76
      have k90 : ai_hv t184 389 160 = some (.inl ov) := (e184 389 160 (by first | decide | omega)).trans k77
      have k91 : ai_hv t184 389 161 = some (.inl dn) := (e184 389 161 (by first | decide | omega)).trans k78
      have k92 : ai_hv t184 389 165 = some (.inl pa) := (e184 389 165 (by first | decide | omega)).trans k79
      have k93 : ai_hv t184 383 13 = some (.inl c) := (e184 383 13 (by first | decide | omega)).trans k80
      have k94 : ai_hv t184 389 163 = some (.inl nL) := (e184 389 163 (by first | decide | omega)).trans k81
      have k95 : ai_hv t184 389 (254 + (4 * nL)) = some (.inl ((8 * v126) + v114)) := (e184 389 (254 + (4 * nL)) (by first | decide | omega)).trans k82
      have k96 : ai_hv t184 389 ((254 + (4 * nL)) + 1) = some (.inl 0) := (e184 389 ((254 + (4 * nL)) + 1) (by first | decide | omega)).trans k171
      refine gx_ap rfl (fun _ => rfl) s184.1 rfl rfl rfl (show (254 + (4 * nL)) + 2 < 320 from by omega) (px_run_lead2 (nL) (by first | decide | omega) (by first | decide | omega)) (ai_in_h (by first | decide | omega) (by first | decide | omega) (by first | decide | omega)) rfl (fun t197 g197 k197 e197 => ?_)
      have k98 : ai_hv t197 383 19 = some (.inl r) := (e197 383 19 (by first | decide | omega)).trans k85
      have k99 : ai_hv t197 389 162 = some (.inl nt) := (e197 389 162 (by first | decide | omega)).trans k86
      have k100 : ai_hv t197 389 166 = some (.inl ng) := (e197 389 166 (by first | decide | omega)).trans k87
      have k101 : ai_hv t197 389 167 = some (.inl ns) := (e197 389 167 (by first | decide | omega)).trans k88
      have k102 : ai_hv t197 389 168 = some (.inl nl) := (e197 389 168 (by first | decide | omega)).trans k89
      have k103 : ai_hv t197 389 160 = some (.inl ov) := (e197 389 160 (by first | decide | omega)).trans k90
      have k104 : ai_hv t197 389 161 = some (.inl dn) := (e197 389 161 (by first | decide | omega)).trans k91
      have k105 : ai_hv t197 389 165 = some (.inl pa) := (e197 389 165 (by first | decide | omega)).trans k92
      have k106 : ai_hv t197 383 13 = some (.inl c) := (e197 383 13 (by first | decide | omega)).trans k93
      have k107 : ai_hv t197 389 163 = some (.inl nL) := (e197 389 163 (by first | decide | omega)).trans k94
      have k108 : ai_hv t197 389 (254 + (4 * nL)) = some (.inl ((8 * v126) + v114)) := (e197 389 (254 + (4 * nL)) (by first | decide | omega)).trans k95
      have k109 : ai_hv t197 389 ((254 + (4 * nL)) + 1) = some (.inl 0) := (e197 389 ((254 + (4 * nL)) + 1) (by first | decide | omega)).trans k96
      have s197 : px_S t197 a184 f184 := ⟨g197, (e197 383 7 (by first | decide | omega)).trans s184.2.1, (e197 383 8 (by first | decide | omega)).trans s184.2.2.1, s184.2.2.2⟩
      refine ex_go (S := (177, [(4, .inl (254 + (4 * nL))), (3, .inl v126), (2, .inl v114), (1, .inl nL), (0, gx_r 383)], [gx_r 383], t197, n, 0)) rfl (fun _ => rfl) rfl ?_
      refine gx_ref (c := 389) rfl s197.1 rfl rfl rfl rfl ?_
      refine ex_go (S := (182, [(4, .inl (254 + (4 * nL))), (3, .inl v126), (2, .inl v114), (1, .inl nL), (0, gx_r 383)], [.inl (254 + (4 * nL)), gx_r 389], t197, n, 0)) rfl (fun _ => rfl) rfl ?_
      refine ex_go (S := (183, [(4, .inl (254 + (4 * nL))), (3, .inl v126), (2, .inl v114), (1, .inl nL), (0, gx_r 383)], [.inl 3, .inl (254 + (4 * nL)), gx_r 389], t197, n, 0)) rfl (fun _ => rfl) rfl ?_
      refine ex_iadd rfl (by first | decide | omega) rfl ?_
      refine ex_go (S := (185, [(4, .inl (254 + (4 * nL))), (3, .inl v126), (2, .inl v114), (1, .inl nL), (0, gx_r 383)], [gx_r 383, .inl ((254 + (4 * nL)) + 3), gx_r 389], t197, n, 0)) rfl (fun _ => rfl) rfl ?_
      refine ex_go (S := (187, [(4, .inl (254 + (4 * nL))), (3, .inl v126), (2, .inl v114), (1, .inl nL), (0, gx_r 383)], [.inl 7, gx_r 383, .inl ((254 + (4 * nL)) + 3), gx_r 389], t197, n, 0)) rfl (fun _ => rfl) rfl ?_
      refine ex_go (S := (188, [(4, .inl (254 + (4 * nL))), (3, .inl v126), (2, .inl v114), (1, .inl nL), (0, gx_r 383)], [.inl 0, .inl 7, gx_r 383, .inl ((254 + (4 * nL)) + 3), gx_r 389], t197, n, 0)) rfl (fun _ => rfl) rfl ?_
      refine ex_go (S := (189, [(4, .inl (254 + (4 * nL))), (3, .inl v126), (2, .inl v114), (1, .inl nL), (0, gx_r 383)], [gx_r 383, .inl 0, .inl 7, gx_r 383, .inl ((254 + (4 * nL)) + 3), gx_r 389], t197, n, 0)) rfl (fun _ => rfl) rfl ?_
      refine gx_ref (c := 389) rfl s197.1 rfl rfl rfl rfl ?_
      refine ex_go (S := (194, [(4, .inl (254 + (4 * nL))), (3, .inl v126), (2, .inl v114), (1, .inl nL), (0, gx_r 383)], [.inl (254 + (4 * nL)), gx_r 389, .inl 0, .inl 7, gx_r 383, .inl ((254 + (4 * nL)) + 3), gx_r 389], t197, n, 0)) rfl (fun _ => rfl) rfl ?_
      refine ex_go (S := (195, [(4, .inl (254 + (4 * nL))), (3, .inl v126), (2, .inl v114), (1, .inl nL), (0, gx_r 383)], [.inl 1, .inl (254 + (4 * nL)), gx_r 389, .inl 0, .inl 7, gx_r 383, .inl ((254 + (4 * nL)) + 3), gx_r 389], t197, n, 0)) rfl (fun _ => rfl) rfl ?_
      refine ex_iadd rfl (by first | decide | omega) rfl ?_
      refine gx_ag (v := .inl 0) (cb := fun c => Nat.beq c 0) rfl (fun _ => rfl) s197.1 rfl rfl k109 (by first | decide | omega) rfl ?_
      obtain ⟨_, r210, v210, t210, a210, f210, rfl, s210, e210, q210⟩ := pk_takeAfter d n (s197) (w := 7) (lo := 0) (hi := 0) (by first | decide | omega) (by first | decide | omega) (by first | decide | omega)
      have b210 := s210.2.2.2
      refine gx_call1 rfl rfl s197.1 rfl rfl r210 rfl ?_
      have k111 : ai_hv t210 383 19 = some (.inl r) := (e210 383 19 (by first | decide | omega)).trans k98
      have k112 : ai_hv t210 389 162 = some (.inl nt) := (e210 389 162 (by first | decide | omega)).trans k99
      have k113 : ai_hv t210 389 166 = some (.inl ng) := (e210 389 166 (by first | decide | omega)).trans k100
      have k114 : ai_hv t210 389 167 = some (.inl ns) := (e210 389 167 (by first | decide | omega)).trans k101
      have k115 : ai_hv t210 389 168 = some (.inl nl) := (e210 389 168 (by first | decide | omega)).trans k102
      have k116 : ai_hv t210 389 160 = some (.inl ov) := (e210 389 160 (by first | decide | omega)).trans k103
      have k117 : ai_hv t210 389 161 = some (.inl dn) := (e210 389 161 (by first | decide | omega)).trans k104
      have k118 : ai_hv t210 389 165 = some (.inl pa) := (e210 389 165 (by first | decide | omega)).trans k105
      have k119 : ai_hv t210 383 13 = some (.inl c) := (e210 383 13 (by first | decide | omega)).trans k106
      have k120 : ai_hv t210 389 163 = some (.inl nL) := (e210 389 163 (by first | decide | omega)).trans k107
      have k121 : ai_hv t210 389 (254 + (4 * nL)) = some (.inl ((8 * v126) + v114)) := (e210 389 (254 + (4 * nL)) (by first | decide | omega)).trans k108
      have k122 : ai_hv t210 389 ((254 + (4 * nL)) + 1) = some (.inl 0) := (e210 389 ((254 + (4 * nL)) + 1) (by first | decide | omega)).trans k109
      have k123 : ai_hv t210 389 ((254 + (4 * nL)) + 2) = some (.inl v184) := (e210 389 ((254 + (4 * nL)) + 2) (by first | decide | omega)).trans k197
      refine gx_ap rfl (fun _ => rfl) s210.1 rfl rfl rfl (show (254 + (4 * nL)) + 3 < 320 from by omega) (px_run_lead3 (nL) (by first | decide | omega) (by first | decide | omega)) (ai_in_h (by first | decide | omega) (by first | decide | omega) (by first | decide | omega)) rfl (fun t224 g224 k224 e224 => ?_)
      have k125 : ai_hv t224 383 19 = some (.inl r) := (e224 383 19 (by first | decide | omega)).trans k111
      have k126 : ai_hv t224 389 162 = some (.inl nt) := (e224 389 162 (by first | decide | omega)).trans k112
      have k127 : ai_hv t224 389 166 = some (.inl ng) := (e224 389 166 (by first | decide | omega)).trans k113
      have k128 : ai_hv t224 389 167 = some (.inl ns) := (e224 389 167 (by first | decide | omega)).trans k114
      have k129 : ai_hv t224 389 168 = some (.inl nl) := (e224 389 168 (by first | decide | omega)).trans k115
      have k130 : ai_hv t224 389 160 = some (.inl ov) := (e224 389 160 (by first | decide | omega)).trans k116
      have k131 : ai_hv t224 389 161 = some (.inl dn) := (e224 389 161 (by first | decide | omega)).trans k117
      have k132 : ai_hv t224 389 165 = some (.inl pa) := (e224 389 165 (by first | decide | omega)).trans k118
      have k133 : ai_hv t224 383 13 = some (.inl c) := (e224 383 13 (by first | decide | omega)).trans k119
      have k134 : ai_hv t224 389 163 = some (.inl nL) := (e224 389 163 (by first | decide | omega)).trans k120
      have k135 : ai_hv t224 389 (254 + (4 * nL)) = some (.inl ((8 * v126) + v114)) := (e224 389 (254 + (4 * nL)) (by first | decide | omega)).trans k121
      have k136 : ai_hv t224 389 ((254 + (4 * nL)) + 1) = some (.inl 0) := (e224 389 ((254 + (4 * nL)) + 1) (by first | decide | omega)).trans k122
      have k137 : ai_hv t224 389 ((254 + (4 * nL)) + 2) = some (.inl v184) := (e224 389 ((254 + (4 * nL)) + 2) (by first | decide | omega)).trans k123
      have s224 : px_S t224 a210 f210 := ⟨g224, (e224 383 7 (by first | decide | omega)).trans s210.2.1, (e224 383 8 (by first | decide | omega)).trans s210.2.2.1, s210.2.2.2⟩
      refine ex_go (S := (202, [(4, .inl (254 + (4 * nL))), (3, .inl v126), (2, .inl v114), (1, .inl nL), (0, gx_r 383)], [gx_r 383], t224, n, 0)) rfl (fun _ => rfl) rfl ?_
      refine gx_ref (c := 389) rfl s224.1 rfl rfl rfl rfl ?_
      refine ex_go (S := (208, [(4, .inl (254 + (4 * nL))), (3, .inl v126), (2, .inl v114), (1, .inl nL), (0, gx_r 383)], [.inl 163, gx_r 389], t224, n, 0)) rfl (fun _ => rfl) rfl ?_
      refine ex_go (S := (209, [(4, .inl (254 + (4 * nL))), (3, .inl v126), (2, .inl v114), (1, .inl nL), (0, gx_r 383)], [.inl 163, gx_r 389, .inl 163, gx_r 389], t224, n, 0)) rfl (fun _ => rfl) rfl ?_
      refine gx_ag (v := .inl nL) (cb := fun c => Nat.beq c 0) rfl (fun _ => rfl) s224.1 rfl rfl k134 (by first | decide | omega) rfl ?_
      refine ex_go (S := (211, [(4, .inl (254 + (4 * nL))), (3, .inl v126), (2, .inl v114), (1, .inl nL), (0, gx_r 383)], [.inl 1, .inl nL, .inl 163, gx_r 389], t224, n, 0)) rfl (fun _ => rfl) rfl ?_
      refine ex_iadd rfl (by first | decide | omega) rfl ?_
      refine gx_ap rfl (fun _ => rfl) s224.1 rfl rfl rfl (show 163 < 320 from by omega) rfl (ai_in_h (by first | decide | omega) (by first | decide | omega) (by first | decide | omega)) rfl (fun t238 g238 k238 e238 => ?_)
      have k139 : ai_hv t238 383 19 = some (.inl r) := (e238 383 19 (by first | decide | omega)).trans k125
      have k140 : ai_hv t238 389 162 = some (.inl nt) := (e238 389 162 (by first | decide | omega)).trans k126
      have k141 : ai_hv t238 389 166 = some (.inl ng) := (e238 389 166 (by first | decide | omega)).trans k127
      have k142 : ai_hv t238 389 167 = some (.inl ns) := (e238 389 167 (by first | decide | omega)).trans k128
      have k143 : ai_hv t238 389 168 = some (.inl nl) := (e238 389 168 (by first | decide | omega)).trans k129
      have k144 : ai_hv t238 389 160 = some (.inl ov) := (e238 389 160 (by first | decide | omega)).trans k130
      have k145 : ai_hv t238 389 161 = some (.inl dn) := (e238 389 161 (by first | decide | omega)).trans k131
      have k146 : ai_hv t238 389 165 = some (.inl pa) := (e238 389 165 (by first | decide | omega)).trans k132
      have k147 : ai_hv t238 383 13 = some (.inl c) := (e238 383 13 (by first | decide | omega)).trans k133
      have k148 : ai_hv t238 389 (254 + (4 * nL)) = some (.inl ((8 * v126) + v114)) := (e238 389 (254 + (4 * nL)) (by first | decide | omega)).trans k135
      have k149 : ai_hv t238 389 ((254 + (4 * nL)) + 1) = some (.inl 0) := (e238 389 ((254 + (4 * nL)) + 1) (by first | decide | omega)).trans k136
      have k150 : ai_hv t238 389 ((254 + (4 * nL)) + 2) = some (.inl v184) := (e238 389 ((254 + (4 * nL)) + 2) (by first | decide | omega)).trans k137
      have k151 : ai_hv t238 389 ((254 + (4 * nL)) + 3) = some (.inl v210) := (e238 389 ((254 + (4 * nL)) + 3) (by first | decide | omega)).trans k224
      have s238 : px_S t238 a210 f210 := ⟨g238, (e238 383 7 (by first | decide | omega)).trans s224.2.1, (e238 383 8 (by first | decide | omega)).trans s224.2.2.1, s224.2.2.2⟩
      refine ex_ret (r := (none, t238, n, 0)) rfl (fun _ => rfl) ?_
      by_cases h9 : f210 = 0
      · have hE : px_E1 t238 := fun k hk => by
          by_cases e9 : k = nL
          · exact Or.inr ⟨0, by rw [show 255 + 4 * k = (254 + (4 * nL)) + 1 by omega]; exact k149, by omega, by omega⟩
          · by_cases e8 : k < nL
            · refine Or.inr ?_
              rcases hE1 k hk with ⟨m9, z1, z2, z3⟩ | ⟨m9, z1, z2, z3⟩
              · have z4 : m9 = nL := by have := z1.symm.trans kL; cases this; rfl
                omega
              · exact ⟨m9, ((e238 389 (255 + 4 * k) (by first | decide | omega)).trans ((e224 389 (255 + 4 * k) (by first | decide | omega)).trans ((e210 389 (255 + 4 * k) (by first | decide | omega)).trans ((e197 389 (255 + 4 * k) (by first | decide | omega)).trans ((e184 389 (255 + 4 * k) (by first | decide | omega)).trans ((e171 389 (255 + 4 * k) (by first | decide | omega)).trans ((e159 389 (255 + 4 * k) (by first | decide | omega)).trans ((e148 389 (255 + 4 * k) (by first | decide | omega)).trans ((e137 389 (255 + 4 * k) (by first | decide | omega)).trans ((e126 389 (255 + 4 * k) (by first | decide | omega)).trans ((e114 389 (255 + 4 * k) (by first | decide | omega)).trans (e102 389 (255 + 4 * k) (by first | decide | omega))))))))))))).trans z1, z2, z3⟩
            · exact Or.inl ⟨nL + 1, k238, Nat.zero_le _, by omega⟩
        refine ⟨_, rfl, t238, a210, f210, rfl, s238, (fun c i h => (e238 c i (by first | decide | omega)).trans ((e224 c i (by first | decide | omega)).trans ((e210 c i (by first | decide | omega)).trans ((e197 c i (by first | decide | omega)).trans ((e184 c i (by first | decide | omega)).trans ((e171 c i (by first | decide | omega)).trans ((e159 c i (by first | decide | omega)).trans ((e148 c i (by first | decide | omega)).trans ((e137 c i (by first | decide | omega)).trans ((e126 c i (by first | decide | omega)).trans ((e114 c i (by first | decide | omega)).trans (e102 c i (by first | decide | omega))))))))))))), fun h0 => ?_⟩
        refine ⟨by omega, c, ⟨r, nt, ng, ns, nl, ov, dn, pa, k139, k140, k141, k142, k143, k144, k145, k146, k147, by omega, ?_, ?_⟩, by omega⟩
        · exact hE
        · exact px_E4_kept hE4 (Nat.le_refl _) (fun l hl => (e238 389 (169 + l) (by first | decide | omega)).trans ((e224 389 (169 + l) (by first | decide | omega)).trans ((e210 389 (169 + l) (by first | decide | omega)).trans ((e197 389 (169 + l) (by first | decide | omega)).trans ((e184 389 (169 + l) (by first | decide | omega)).trans ((e171 389 (169 + l) (by first | decide | omega)).trans ((e159 389 (169 + l) (by first | decide | omega)).trans ((e148 389 (169 + l) (by first | decide | omega)).trans ((e137 389 (169 + l) (by first | decide | omega)).trans ((e126 389 (169 + l) (by first | decide | omega)).trans ((e114 389 (169 + l) (by first | decide | omega)).trans (e102 389 (169 + l) (by first | decide | omega))))))))))))) (fun i hi => (e238 390 (1100 + i) (by first | decide | omega)).trans ((e224 390 (1100 + i) (by first | decide | omega)).trans ((e210 390 (1100 + i) (by first | decide | omega)).trans ((e197 390 (1100 + i) (by first | decide | omega)).trans ((e184 390 (1100 + i) (by first | decide | omega)).trans ((e171 390 (1100 + i) (by first | decide | omega)).trans ((e159 390 (1100 + i) (by first | decide | omega)).trans ((e148 390 (1100 + i) (by first | decide | omega)).trans ((e137 390 (1100 + i) (by first | decide | omega)).trans ((e126 390 (1100 + i) (by first | decide | omega)).trans ((e114 390 (1100 + i) (by first | decide | omega)).trans (e102 390 (1100 + i) (by first | decide | omega))))))))))))) (fun i hi => (e238 391 (1100 + i) (by first | decide | omega)).trans ((e224 391 (1100 + i) (by first | decide | omega)).trans ((e210 391 (1100 + i) (by first | decide | omega)).trans ((e197 391 (1100 + i) (by first | decide | omega)).trans ((e184 391 (1100 + i) (by first | decide | omega)).trans ((e171 391 (1100 + i) (by first | decide | omega)).trans ((e159 391 (1100 + i) (by first | decide | omega)).trans ((e148 391 (1100 + i) (by first | decide | omega)).trans ((e137 391 (1100 + i) (by first | decide | omega)).trans ((e126 391 (1100 + i) (by first | decide | omega)).trans ((e114 391 (1100 + i) (by first | decide | omega)).trans (e102 391 (1100 + i) (by first | decide | omega)))))))))))))
      · exact ⟨_, rfl, t238, a210, f210, rfl, s238, (fun c i h => (e238 c i (by first | decide | omega)).trans ((e224 c i (by first | decide | omega)).trans ((e210 c i (by first | decide | omega)).trans ((e197 c i (by first | decide | omega)).trans ((e184 c i (by first | decide | omega)).trans ((e171 c i (by first | decide | omega)).trans ((e159 c i (by first | decide | omega)).trans ((e148 c i (by first | decide | omega)).trans ((e137 c i (by first | decide | omega)).trans ((e126 c i (by first | decide | omega)).trans ((e114 c i (by first | decide | omega)).trans (e102 c i (by first | decide | omega))))))))))))), fun h0 => absurd h0 h9⟩
    · have := hz83
      refine gx_isub rfl (by first | decide | omega) (by first | decide | omega) rfl ?_
      obtain ⟨_, r252, v252, t252, a252, f252, rfl, s252, e252, q252⟩ := pk_takeAfter d n (s171) (w := 6) (lo := 0) (hi := v159 - 1) (by first | decide | omega) (by first | decide | omega) (by first | decide | omega)
      have b252 := s252.2.2.2
      refine gx_call1 rfl rfl s171.1 rfl rfl r252 rfl ?_
      have k153 : ai_hv t252 383 19 = some (.inl r) := (e252 383 19 (by first | decide | omega)).trans k72
      have k154 : ai_hv t252 389 162 = some (.inl nt) := (e252 389 162 (by first | decide | omega)).trans k73
      have k155 : ai_hv t252 389 166 = some (.inl ng) := (e252 389 166 (by first | decide | omega)).trans k74
      have k156 : ai_hv t252 389 167 = some (.inl ns) := (e252 389 167 (by first | decide | omega)).trans k75
      have k157 : ai_hv t252 389 168 = some (.inl nl) := (e252 389 168 (by first | decide | omega)).trans k76
      have k158 : ai_hv t252 389 160 = some (.inl ov) := (e252 389 160 (by first | decide | omega)).trans k77
      have k159 : ai_hv t252 389 161 = some (.inl dn) := (e252 389 161 (by first | decide | omega)).trans k78
      have k160 : ai_hv t252 389 165 = some (.inl pa) := (e252 389 165 (by first | decide | omega)).trans k79
      have k161 : ai_hv t252 383 13 = some (.inl c) := (e252 383 13 (by first | decide | omega)).trans k80
      have k162 : ai_hv t252 389 163 = some (.inl nL) := (e252 389 163 (by first | decide | omega)).trans k81
      have k163 : ai_hv t252 389 (254 + (4 * nL)) = some (.inl ((8 * v126) + v114)) := (e252 389 (254 + (4 * nL)) (by first | decide | omega)).trans k82
      have k164 : ai_hv t252 389 ((254 + (4 * nL)) + 1) = some (.inl v159) := (e252 389 ((254 + (4 * nL)) + 1) (by first | decide | omega)).trans k171
      refine gx_ap rfl (fun _ => rfl) s252.1 rfl rfl rfl (show (254 + (4 * nL)) + 2 < 320 from by omega) (px_run_lead2 (nL) (by first | decide | omega) (by first | decide | omega)) (ai_in_h (by first | decide | omega) (by first | decide | omega) (by first | decide | omega)) rfl (fun t265 g265 k265 e265 => ?_)
      have k166 : ai_hv t265 383 19 = some (.inl r) := (e265 383 19 (by first | decide | omega)).trans k153
      have k167 : ai_hv t265 389 162 = some (.inl nt) := (e265 389 162 (by first | decide | omega)).trans k154
      have k168 : ai_hv t265 389 166 = some (.inl ng) := (e265 389 166 (by first | decide | omega)).trans k155
      have k169 : ai_hv t265 389 167 = some (.inl ns) := (e265 389 167 (by first | decide | omega)).trans k156
      have k170 : ai_hv t265 389 168 = some (.inl nl) := (e265 389 168 (by first | decide | omega)).trans k157
      have k171 : ai_hv t265 389 160 = some (.inl ov) := (e265 389 160 (by first | decide | omega)).trans k158
      have k172 : ai_hv t265 389 161 = some (.inl dn) := (e265 389 161 (by first | decide | omega)).trans k159
      have k173 : ai_hv t265 389 165 = some (.inl pa) := (e265 389 165 (by first | decide | omega)).trans k160
      have k174 : ai_hv t265 383 13 = some (.inl c) := (e265 383 13 (by first | decide | omega)).trans k161
      have k175 : ai_hv t265 389 163 = some (.inl nL) := (e265 389 163 (by first | decide | omega)).trans k162
      have k176 : ai_hv t265 389 (254 + (4 * nL)) = some (.inl ((8 * v126) + v114)) := (e265 389 (254 + (4 * nL)) (by first | decide | omega)).trans k163
      have k177 : ai_hv t265 389 ((254 + (4 * nL)) + 1) = some (.inl v159) := (e265 389 ((254 + (4 * nL)) + 1) (by first | decide | omega)).trans k164
      have s265 : px_S t265 a252 f252 := ⟨g265, (e265 383 7 (by first | decide | omega)).trans s252.2.1, (e265 383 8 (by first | decide | omega)).trans s252.2.2.1, s252.2.2.2⟩
      refine ex_go (S := (177, [(4, .inl (254 + (4 * nL))), (3, .inl v126), (2, .inl v114), (1, .inl nL), (0, gx_r 383)], [gx_r 383], t265, n, 0)) rfl (fun _ => rfl) rfl ?_
      refine gx_ref (c := 389) rfl s265.1 rfl rfl rfl rfl ?_
      refine ex_go (S := (182, [(4, .inl (254 + (4 * nL))), (3, .inl v126), (2, .inl v114), (1, .inl nL), (0, gx_r 383)], [.inl (254 + (4 * nL)), gx_r 389], t265, n, 0)) rfl (fun _ => rfl) rfl ?_
      refine ex_go (S := (183, [(4, .inl (254 + (4 * nL))), (3, .inl v126), (2, .inl v114), (1, .inl nL), (0, gx_r 383)], [.inl 3, .inl (254 + (4 * nL)), gx_r 389], t265, n, 0)) rfl (fun _ => rfl) rfl ?_
      refine ex_iadd rfl (by first | decide | omega) rfl ?_
      refine ex_go (S := (185, [(4, .inl (254 + (4 * nL))), (3, .inl v126), (2, .inl v114), (1, .inl nL), (0, gx_r 383)], [gx_r 383, .inl ((254 + (4 * nL)) + 3), gx_r 389], t265, n, 0)) rfl (fun _ => rfl) rfl ?_
      refine ex_go (S := (187, [(4, .inl (254 + (4 * nL))), (3, .inl v126), (2, .inl v114), (1, .inl nL), (0, gx_r 383)], [.inl 7, gx_r 383, .inl ((254 + (4 * nL)) + 3), gx_r 389], t265, n, 0)) rfl (fun _ => rfl) rfl ?_
      refine ex_go (S := (188, [(4, .inl (254 + (4 * nL))), (3, .inl v126), (2, .inl v114), (1, .inl nL), (0, gx_r 383)], [.inl 0, .inl 7, gx_r 383, .inl ((254 + (4 * nL)) + 3), gx_r 389], t265, n, 0)) rfl (fun _ => rfl) rfl ?_
      refine ex_go (S := (189, [(4, .inl (254 + (4 * nL))), (3, .inl v126), (2, .inl v114), (1, .inl nL), (0, gx_r 383)], [gx_r 383, .inl 0, .inl 7, gx_r 383, .inl ((254 + (4 * nL)) + 3), gx_r 389], t265, n, 0)) rfl (fun _ => rfl) rfl ?_
      refine gx_ref (c := 389) rfl s265.1 rfl rfl rfl rfl ?_
      refine ex_go (S := (194, [(4, .inl (254 + (4 * nL))), (3, .inl v126), (2, .inl v114), (1, .inl nL), (0, gx_r 383)], [.inl (254 + (4 * nL)), gx_r 389, .inl 0, .inl 7, gx_r 383, .inl ((254 + (4 * nL)) + 3), gx_r 389], t265, n, 0)) rfl (fun _ => rfl) rfl ?_
      refine ex_go (S := (195, [(4, .inl (254 + (4 * nL))), (3, .inl v126), (2, .inl v114), (1, .inl nL), (0, gx_r 383)], [.inl 1, .inl (254 + (4 * nL)), gx_r 389, .inl 0, .inl 7, gx_r 383, .inl ((254 + (4 * nL)) + 3), gx_r 389], t265, n, 0)) rfl (fun _ => rfl) rfl ?_
      refine ex_iadd rfl (by first | decide | omega) rfl ?_
      refine gx_ag (v := .inl v159) (cb := fun c => Nat.beq c 0) rfl (fun _ => rfl) s265.1 rfl rfl k177 (by first | decide | omega) rfl ?_
      obtain ⟨_, r278, v278, t278, a278, f278, rfl, s278, e278, q278⟩ := pk_takeAfter d n (s265) (w := 7) (lo := 0) (hi := v159) (by first | decide | omega) (by first | decide | omega) (by first | decide | omega)
      have b278 := s278.2.2.2
      refine gx_call1 rfl rfl s265.1 rfl rfl r278 rfl ?_
      have k179 : ai_hv t278 383 19 = some (.inl r) := (e278 383 19 (by first | decide | omega)).trans k166
      have k180 : ai_hv t278 389 162 = some (.inl nt) := (e278 389 162 (by first | decide | omega)).trans k167
      have k181 : ai_hv t278 389 166 = some (.inl ng) := (e278 389 166 (by first | decide | omega)).trans k168
      have k182 : ai_hv t278 389 167 = some (.inl ns) := (e278 389 167 (by first | decide | omega)).trans k169
      have k183 : ai_hv t278 389 168 = some (.inl nl) := (e278 389 168 (by first | decide | omega)).trans k170
      have k184 : ai_hv t278 389 160 = some (.inl ov) := (e278 389 160 (by first | decide | omega)).trans k171
      have k185 : ai_hv t278 389 161 = some (.inl dn) := (e278 389 161 (by first | decide | omega)).trans k172
      have k186 : ai_hv t278 389 165 = some (.inl pa) := (e278 389 165 (by first | decide | omega)).trans k173
      have k187 : ai_hv t278 383 13 = some (.inl c) := (e278 383 13 (by first | decide | omega)).trans k174
      have k188 : ai_hv t278 389 163 = some (.inl nL) := (e278 389 163 (by first | decide | omega)).trans k175
      have k189 : ai_hv t278 389 (254 + (4 * nL)) = some (.inl ((8 * v126) + v114)) := (e278 389 (254 + (4 * nL)) (by first | decide | omega)).trans k176
      have k190 : ai_hv t278 389 ((254 + (4 * nL)) + 1) = some (.inl v159) := (e278 389 ((254 + (4 * nL)) + 1) (by first | decide | omega)).trans k177
      have k191 : ai_hv t278 389 ((254 + (4 * nL)) + 2) = some (.inl v252) := (e278 389 ((254 + (4 * nL)) + 2) (by first | decide | omega)).trans k265
      refine gx_ap rfl (fun _ => rfl) s278.1 rfl rfl rfl (show (254 + (4 * nL)) + 3 < 320 from by omega) (px_run_lead3 (nL) (by first | decide | omega) (by first | decide | omega)) (ai_in_h (by first | decide | omega) (by first | decide | omega) (by first | decide | omega)) rfl (fun t292 g292 k292 e292 => ?_)
      have k193 : ai_hv t292 383 19 = some (.inl r) := (e292 383 19 (by first | decide | omega)).trans k179
      have k194 : ai_hv t292 389 162 = some (.inl nt) := (e292 389 162 (by first | decide | omega)).trans k180
      have k195 : ai_hv t292 389 166 = some (.inl ng) := (e292 389 166 (by first | decide | omega)).trans k181
      have k196 : ai_hv t292 389 167 = some (.inl ns) := (e292 389 167 (by first | decide | omega)).trans k182
      have k197 : ai_hv t292 389 168 = some (.inl nl) := (e292 389 168 (by first | decide | omega)).trans k183
      have k198 : ai_hv t292 389 160 = some (.inl ov) := (e292 389 160 (by first | decide | omega)).trans k184
      have k199 : ai_hv t292 389 161 = some (.inl dn) := (e292 389 161 (by first | decide | omega)).trans k185
      have k200 : ai_hv t292 389 165 = some (.inl pa) := (e292 389 165 (by first | decide | omega)).trans k186
      have k201 : ai_hv t292 383 13 = some (.inl c) := (e292 383 13 (by first | decide | omega)).trans k187
      have k202 : ai_hv t292 389 163 = some (.inl nL) := (e292 389 163 (by first | decide | omega)).trans k188
      have k203 : ai_hv t292 389 (254 + (4 * nL)) = some (.inl ((8 * v126) + v114)) := (e292 389 (254 + (4 * nL)) (by first | decide | omega)).trans k189
      have k204 : ai_hv t292 389 ((254 + (4 * nL)) + 1) = some (.inl v159) := (e292 389 ((254 + (4 * nL)) + 1) (by first | decide | omega)).trans k190
      have k205 : ai_hv t292 389 ((254 + (4 * nL)) + 2) = some (.inl v252) := (e292 389 ((254 + (4 * nL)) + 2) (by first | decide | omega)).trans k191
      have s292 : px_S t292 a278 f278 := ⟨g292, (e292 383 7 (by first | decide | omega)).trans s278.2.1, (e292 383 8 (by first | decide | omega)).trans s278.2.2.1, s278.2.2.2⟩
      refine ex_go (S := (202, [(4, .inl (254 + (4 * nL))), (3, .inl v126), (2, .inl v114), (1, .inl nL), (0, gx_r 383)], [gx_r 383], t292, n, 0)) rfl (fun _ => rfl) rfl ?_
      refine gx_ref (c := 389) rfl s292.1 rfl rfl rfl rfl ?_
      refine ex_go (S := (208, [(4, .inl (254 + (4 * nL))), (3, .inl v126), (2, .inl v114), (1, .inl nL), (0, gx_r 383)], [.inl 163, gx_r 389], t292, n, 0)) rfl (fun _ => rfl) rfl ?_
      refine ex_go (S := (209, [(4, .inl (254 + (4 * nL))), (3, .inl v126), (2, .inl v114), (1, .inl nL), (0, gx_r 383)], [.inl 163, gx_r 389, .inl 163, gx_r 389], t292, n, 0)) rfl (fun _ => rfl) rfl ?_
      refine gx_ag (v := .inl nL) (cb := fun c => Nat.beq c 0) rfl (fun _ => rfl) s292.1 rfl rfl k202 (by first | decide | omega) rfl ?_
      refine ex_go (S := (211, [(4, .inl (254 + (4 * nL))), (3, .inl v126), (2, .inl v114), (1, .inl nL), (0, gx_r 383)], [.inl 1, .inl nL, .inl 163, gx_r 389], t292, n, 0)) rfl (fun _ => rfl) rfl ?_
      refine ex_iadd rfl (by first | decide | omega) rfl ?_
      refine gx_ap rfl (fun _ => rfl) s292.1 rfl rfl rfl (show 163 < 320 from by omega) rfl (ai_in_h (by first | decide | omega) (by first | decide | omega) (by first | decide | omega)) rfl (fun t306 g306 k306 e306 => ?_)
      have k207 : ai_hv t306 383 19 = some (.inl r) := (e306 383 19 (by first | decide | omega)).trans k193
      have k208 : ai_hv t306 389 162 = some (.inl nt) := (e306 389 162 (by first | decide | omega)).trans k194
      have k209 : ai_hv t306 389 166 = some (.inl ng) := (e306 389 166 (by first | decide | omega)).trans k195
      have k210 : ai_hv t306 389 167 = some (.inl ns) := (e306 389 167 (by first | decide | omega)).trans k196
      have k211 : ai_hv t306 389 168 = some (.inl nl) := (e306 389 168 (by first | decide | omega)).trans k197
      have k212 : ai_hv t306 389 160 = some (.inl ov) := (e306 389 160 (by first | decide | omega)).trans k198
      have k213 : ai_hv t306 389 161 = some (.inl dn) := (e306 389 161 (by first | decide | omega)).trans k199
      have k214 : ai_hv t306 389 165 = some (.inl pa) := (e306 389 165 (by first | decide | omega)).trans k200
      have k215 : ai_hv t306 383 13 = some (.inl c) := (e306 383 13 (by first | decide | omega)).trans k201
      have k216 : ai_hv t306 389 (254 + (4 * nL)) = some (.inl ((8 * v126) + v114)) := (e306 389 (254 + (4 * nL)) (by first | decide | omega)).trans k203
      have k217 : ai_hv t306 389 ((254 + (4 * nL)) + 1) = some (.inl v159) := (e306 389 ((254 + (4 * nL)) + 1) (by first | decide | omega)).trans k204
      have k218 : ai_hv t306 389 ((254 + (4 * nL)) + 2) = some (.inl v252) := (e306 389 ((254 + (4 * nL)) + 2) (by first | decide | omega)).trans k205
      have k219 : ai_hv t306 389 ((254 + (4 * nL)) + 3) = some (.inl v278) := (e306 389 ((254 + (4 * nL)) + 3) (by first | decide | omega)).trans k292
      have s306 : px_S t306 a278 f278 := ⟨g306, (e306 383 7 (by first | decide | omega)).trans s292.2.1, (e306 383 8 (by first | decide | omega)).trans s292.2.2.1, s292.2.2.2⟩
      refine ex_ret (r := (none, t306, n, 0)) rfl (fun _ => rfl) ?_
      by_cases h9 : f278 = 0
      · have hE : px_E1 t306 := fun k hk => by
          by_cases e9 : k = nL
          · exact Or.inr ⟨v159, by rw [show 255 + 4 * k = (254 + (4 * nL)) + 1 by omega]; exact k217, by omega, by omega⟩
          · by_cases e8 : k < nL
            · refine Or.inr ?_
              rcases hE1 k hk with ⟨m9, z1, z2, z3⟩ | ⟨m9, z1, z2, z3⟩
              · have z4 : m9 = nL := by have := z1.symm.trans kL; cases this; rfl
                omega
              · exact ⟨m9, ((e306 389 (255 + 4 * k) (by first | decide | omega)).trans ((e292 389 (255 + 4 * k) (by first | decide | omega)).trans ((e278 389 (255 + 4 * k) (by first | decide | omega)).trans ((e265 389 (255 + 4 * k) (by first | decide | omega)).trans ((e252 389 (255 + 4 * k) (by first | decide | omega)).trans ((e171 389 (255 + 4 * k) (by first | decide | omega)).trans ((e159 389 (255 + 4 * k) (by first | decide | omega)).trans ((e148 389 (255 + 4 * k) (by first | decide | omega)).trans ((e137 389 (255 + 4 * k) (by first | decide | omega)).trans ((e126 389 (255 + 4 * k) (by first | decide | omega)).trans ((e114 389 (255 + 4 * k) (by first | decide | omega)).trans (e102 389 (255 + 4 * k) (by first | decide | omega))))))))))))).trans z1, z2, z3⟩
            · exact Or.inl ⟨nL + 1, k306, Nat.zero_le _, by omega⟩
        refine ⟨_, rfl, t306, a278, f278, rfl, s306, (fun c i h => (e306 c i (by first | decide | omega)).trans ((e292 c i (by first | decide | omega)).trans ((e278 c i (by first | decide | omega)).trans ((e265 c i (by first | decide | omega)).trans ((e252 c i (by first | decide | omega)).trans ((e171 c i (by first | decide | omega)).trans ((e159 c i (by first | decide | omega)).trans ((e148 c i (by first | decide | omega)).trans ((e137 c i (by first | decide | omega)).trans ((e126 c i (by first | decide | omega)).trans ((e114 c i (by first | decide | omega)).trans (e102 c i (by first | decide | omega))))))))))))), fun h0 => ?_⟩
        refine ⟨by omega, c, ⟨r, nt, ng, ns, nl, ov, dn, pa, k207, k208, k209, k210, k211, k212, k213, k214, k215, by omega, ?_, ?_⟩, by omega⟩
        · exact hE
        · exact px_E4_kept hE4 (Nat.le_refl _) (fun l hl => (e306 389 (169 + l) (by first | decide | omega)).trans ((e292 389 (169 + l) (by first | decide | omega)).trans ((e278 389 (169 + l) (by first | decide | omega)).trans ((e265 389 (169 + l) (by first | decide | omega)).trans ((e252 389 (169 + l) (by first | decide | omega)).trans ((e171 389 (169 + l) (by first | decide | omega)).trans ((e159 389 (169 + l) (by first | decide | omega)).trans ((e148 389 (169 + l) (by first | decide | omega)).trans ((e137 389 (169 + l) (by first | decide | omega)).trans ((e126 389 (169 + l) (by first | decide | omega)).trans ((e114 389 (169 + l) (by first | decide | omega)).trans (e102 389 (169 + l) (by first | decide | omega))))))))))))) (fun i hi => (e306 390 (1100 + i) (by first | decide | omega)).trans ((e292 390 (1100 + i) (by first | decide | omega)).trans ((e278 390 (1100 + i) (by first | decide | omega)).trans ((e265 390 (1100 + i) (by first | decide | omega)).trans ((e252 390 (1100 + i) (by first | decide | omega)).trans ((e171 390 (1100 + i) (by first | decide | omega)).trans ((e159 390 (1100 + i) (by first | decide | omega)).trans ((e148 390 (1100 + i) (by first | decide | omega)).trans ((e137 390 (1100 + i) (by first | decide | omega)).trans ((e126 390 (1100 + i) (by first | decide | omega)).trans ((e114 390 (1100 + i) (by first | decide | omega)).trans (e102 390 (1100 + i) (by first | decide | omega))))))))))))) (fun i hi => (e306 391 (1100 + i) (by first | decide | omega)).trans ((e292 391 (1100 + i) (by first | decide | omega)).trans ((e278 391 (1100 + i) (by first | decide | omega)).trans ((e265 391 (1100 + i) (by first | decide | omega)).trans ((e252 391 (1100 + i) (by first | decide | omega)).trans ((e171 391 (1100 + i) (by first | decide | omega)).trans ((e159 391 (1100 + i) (by first | decide | omega)).trans ((e148 391 (1100 + i) (by first | decide | omega)).trans ((e137 391 (1100 + i) (by first | decide | omega)).trans ((e126 391 (1100 + i) (by first | decide | omega)).trans ((e114 391 (1100 + i) (by first | decide | omega)).trans (e102 391 (1100 + i) (by first | decide | omega)))))))))))))
      · exact ⟨_, rfl, t306, a278, f278, rfl, s306, (fun c i h => (e306 c i (by first | decide | omega)).trans ((e292 c i (by first | decide | omega)).trans ((e278 c i (by first | decide | omega)).trans ((e265 c i (by first | decide | omega)).trans ((e252 c i (by first | decide | omega)).trans ((e171 c i (by first | decide | omega)).trans ((e159 c i (by first | decide | omega)).trans ((e148 c i (by first | decide | omega)).trans ((e137 c i (by first | decide | omega)).trans ((e126 c i (by first | decide | omega)).trans ((e114 c i (by first | decide | omega)).trans (e102 c i (by first | decide | omega))))))))))))), fun h0 => absurd h0 h9⟩
  · refine gx_2f (c := .ne) rfl (by first | decide | omega) (by first | decide | omega) hc1 rfl ?_
    refine ex_go (S := (16, [(1, .inl nL), (0, gx_r 383)], [gx_r 383], t0, n, 0)) rfl (fun _ => rfl) rfl ?_
    refine ex_go (S := (17, [(1, .inl nL), (0, gx_r 383)], [.inl 5, gx_r 383], t0, n, 0)) rfl (fun _ => rfl) rfl ?_
    obtain ⟨_, r320, t320, a320, f320, rfl, s320, e320, q320⟩ := pk_wrong (d + 3) n (s0) (w := 5) (by first | decide | omega)
    have b320 := s320.2.2.2
    refine gx_call0 rfl rfl s0.1 rfl rfl r320 rfl ?_
    have k221 : ai_hv t320 383 19 = some (.inl r) := (e320 383 19 (by first | decide | omega)).trans kr
    have k222 : ai_hv t320 389 162 = some (.inl nt) := (e320 389 162 (by first | decide | omega)).trans knt
    have k223 : ai_hv t320 389 166 = some (.inl ng) := (e320 389 166 (by first | decide | omega)).trans kng
    have k224 : ai_hv t320 389 167 = some (.inl ns) := (e320 389 167 (by first | decide | omega)).trans kns
    have k225 : ai_hv t320 389 168 = some (.inl nl) := (e320 389 168 (by first | decide | omega)).trans knl
    have k226 : ai_hv t320 389 160 = some (.inl ov) := (e320 389 160 (by first | decide | omega)).trans kov
    have k227 : ai_hv t320 389 161 = some (.inl dn) := (e320 389 161 (by first | decide | omega)).trans kdn
    have k228 : ai_hv t320 389 165 = some (.inl pa) := (e320 389 165 (by first | decide | omega)).trans kpa
    have k229 : ai_hv t320 383 13 = some (.inl c) := (e320 383 13 (by first | decide | omega)).trans kc
    have k230 : ai_hv t320 389 163 = some (.inl nL) := (e320 389 163 (by first | decide | omega)).trans kL
    refine ex_ret (r := (none, t320, n, 0)) rfl (fun _ => rfl) ?_
    exact ⟨_, rfl, t320, a320, f320, rfl, s320, (fun c i h => e320 c i (by first | decide | omega)), fun h0 => by omega⟩
theorem pk_readCrew (d n : Nat) {t0 : en_H} {a c : Nat} (s0 : px_S t0 a 0) (ha : a ≤ 999) (hca : c ≤ a) (hO : px_O t0 c) : ∃ r, en_u (d + 5) 189 [gx_r 383] t0 n = some r ∧ ∃ t' a' f', r = (none, t', n, 0) ∧ px_S t' a' f' ∧ px_PG t0 t' ∧ (f' = 0 → a < a' ∧ ∃ c', px_O t' c' ∧ c' ≤ a') := by
  have b0 := s0.2.2.2
  obtain ⟨r, nt, ng, ns, nl, ov, dn, pa, kr, knt, kng, kns, knl, kov, kdn, kpa, kc, hA, hE1, hE4⟩ := hO
  refine en_u_ex (d := d + 4) rfl ?_
  show en_ex _ _ _ _ (0, [(0, gx_r 383)], [], t0, n, 0) _
  refine ex_go (S := (1, [(0, gx_r 383)], [gx_r 383], t0, n, 0)) rfl (fun _ => rfl) rfl ?_
  refine gx_ref (c := 389) rfl s0.1 rfl rfl rfl rfl ?_
  refine ex_go (S := (7, [(0, gx_r 383)], [.inl 164, gx_r 389], t0, n, 0)) rfl (fun _ => rfl) rfl ?_
  obtain ⟨m1, k2, m1l, m1h⟩ := gx_in (c := 389) (i := 164) (lo := 0) (hi := 2) s0.1 rfl rfl rfl rfl
  refine gx_ag (v := .inl m1) (cb := fun c => Nat.beq c 0) rfl (fun _ => rfl) s0.1 rfl rfl k2 (by first | decide | omega) rfl ?_
  refine ex_go (S := (9, [(1, .inl m1), (0, gx_r 383)], [], t0, n, 0)) rfl (fun _ => rfl) rfl ?_
  refine ex_go (S := (10, [(1, .inl m1), (0, gx_r 383)], [.inl m1], t0, n, 0)) rfl (fun _ => rfl) rfl ?_
  refine ex_go (S := (11, [(1, .inl m1), (0, gx_r 383)], [.inl 2, .inl m1], t0, n, 0)) rfl (fun _ => rfl) rfl ?_
  by_cases hc3 : m1 ≠ 2
  · refine gx_2t (c := .ne) rfl (by first | decide | omega) (by first | decide | omega) hc3 rfl ?_
    refine ex_go (S := (21, [(1, .inl m1), (0, gx_r 383)], [gx_r 383], t0, n, 0)) rfl (fun _ => rfl) rfl ?_
    refine ex_go (S := (22, [(1, .inl m1), (0, gx_r 383)], [gx_r 383, gx_r 383], t0, n, 0)) rfl (fun _ => rfl) rfl ?_
    refine gx_get rfl s0.1 rfl s0.2.1 rfl ?_
    refine ex_go (S := (26, [(1, .inl m1), (0, gx_r 383)], [.inl 1, .inl a, gx_r 383], t0, n, 0)) rfl (fun _ => rfl) rfl ?_
    refine ex_iadd rfl (by first | decide | omega) rfl ?_
    refine gx_put rfl s0.1 rfl rfl (ai_in_h (by first | decide | omega) (by first | decide | omega) (by first | decide | omega)) rfl (fun t104 g104 k104 e104 => ?_)
    have k5 : ai_hv t104 383 19 = some (.inl r) := (e104 383 19 (by first | decide | omega)).trans kr
    have k6 : ai_hv t104 389 162 = some (.inl nt) := (e104 389 162 (by first | decide | omega)).trans knt
    have k7 : ai_hv t104 389 166 = some (.inl ng) := (e104 389 166 (by first | decide | omega)).trans kng
    have k8 : ai_hv t104 389 167 = some (.inl ns) := (e104 389 167 (by first | decide | omega)).trans kns
    have k9 : ai_hv t104 389 168 = some (.inl nl) := (e104 389 168 (by first | decide | omega)).trans knl
    have k10 : ai_hv t104 389 160 = some (.inl ov) := (e104 389 160 (by first | decide | omega)).trans kov
    have k11 : ai_hv t104 389 161 = some (.inl dn) := (e104 389 161 (by first | decide | omega)).trans kdn
    have k12 : ai_hv t104 389 165 = some (.inl pa) := (e104 389 165 (by first | decide | omega)).trans kpa
    have k13 : ai_hv t104 383 13 = some (.inl c) := (e104 383 13 (by first | decide | omega)).trans kc
    have k14 : ai_hv t104 389 164 = some (.inl m1) := (e104 389 164 (by first | decide | omega)).trans k2
    have s104 : px_S t104 (a + 1) 0 := ⟨g104, k104, (e104 383 8 (by first | decide | omega)).trans s0.2.2.1, by omega, s0.2.2.2.2⟩
    refine ex_go (S := (31, [(1, .inl m1), (0, gx_r 383)], [gx_r 383], t104, n, 0)) rfl (fun _ => rfl) rfl ?_
    obtain ⟨_, r17, b15, rfl, q16⟩ := pk_isName (d + 1) n (s104) 
    refine gx_call1 rfl rfl s104.1 rfl rfl r17 rfl ?_
    by_cases hc18 : b15 ≠ 0
    · refine gx_1t (c := .ne) rfl (by first | decide | omega) hc18 rfl ?_
      refine ex_go (S := (44, [(1, .inl m1), (0, gx_r 383)], [gx_r 383], t104, n, 0)) rfl (fun _ => rfl) rfl ?_
      refine ex_go (S := (45, [(1, .inl m1), (0, gx_r 383)], [.inl 1, gx_r 383], t104, n, 0)) rfl (fun _ => rfl) rfl ?_
      obtain ⟨_, r21, b19, rfl, q20⟩ := pk_find (d + 3) n (s104) (w := 1) (by first | decide | omega)
      refine gx_call1 rfl rfl s104.1 rfl rfl r21 rfl ?_
      refine ex_go (S := (49, [(2, .inl b19), (1, .inl m1), (0, gx_r 383)], [], t104, n, 0)) rfl (fun _ => rfl) rfl ?_
      refine ex_go (S := (50, [(2, .inl b19), (1, .inl m1), (0, gx_r 383)], [.inl b19], t104, n, 0)) rfl (fun _ => rfl) rfl ?_
      refine ex_go (S := (51, [(2, .inl b19), (1, .inl m1), (0, gx_r 383)], [.inl 0, .inl b19], t104, n, 0)) rfl (fun _ => rfl) rfl ?_
      refine ex_go (S := (52, [(2, .inl b19), (1, .inl m1), (0, gx_r 383)], [.inl 5, .inl 0, .inl b19], t104, n, 0)) rfl (fun _ => rfl) rfl ?_
      rcases q20 with hn22 | hn22
      · have := hn22
        obtain ⟨_, r23, b24, rfl, q25⟩ := pk_within (d + 3) n (t0 := t104) (x := b19) (lo := 0) (hi := 5) (by first | decide | omega) (by first | decide | omega) (by first | decide | omega)
        refine ex_stat rfl rfl rfl rfl rfl r23 (Nat.le_refl _) rfl ?_
        show en_ex _ _ _ _ (55, [(2, .inl b19), (1, .inl m1), (0, gx_r 383)], [.inl b24], t104, n, 0) _
        by_cases hc26 : b24 = 0
        · refine gx_1t (c := .eq) rfl (by first | decide | omega) hc26 rfl ?_
          refine ex_go (S := (74, [(2, .inl b19), (1, .inl m1), (0, gx_r 383)], [gx_r 383], t104, n, 0)) rfl (fun _ => rfl) rfl ?_
          refine ex_go (S := (75, [(2, .inl b19), (1, .inl m1), (0, gx_r 383)], [.inl 2, gx_r 383], t104, n, 0)) rfl (fun _ => rfl) rfl ?_
          obtain ⟨_, r127, t127, a127, f127, rfl, s127, e127, q127⟩ := pk_wrong (d + 3) n (s104) (w := 2) (by first | decide | omega)
          have b127 := s127.2.2.2
          refine gx_call0 rfl rfl s104.1 rfl rfl r127 rfl ?_
          have k28 : ai_hv t127 383 19 = some (.inl r) := (e127 383 19 (by first | decide | omega)).trans k5
          have k29 : ai_hv t127 389 162 = some (.inl nt) := (e127 389 162 (by first | decide | omega)).trans k6
          have k30 : ai_hv t127 389 166 = some (.inl ng) := (e127 389 166 (by first | decide | omega)).trans k7
          have k31 : ai_hv t127 389 167 = some (.inl ns) := (e127 389 167 (by first | decide | omega)).trans k8
          have k32 : ai_hv t127 389 168 = some (.inl nl) := (e127 389 168 (by first | decide | omega)).trans k9
          have k33 : ai_hv t127 389 160 = some (.inl ov) := (e127 389 160 (by first | decide | omega)).trans k10
          have k34 : ai_hv t127 389 161 = some (.inl dn) := (e127 389 161 (by first | decide | omega)).trans k11
          have k35 : ai_hv t127 389 165 = some (.inl pa) := (e127 389 165 (by first | decide | omega)).trans k12
          have k36 : ai_hv t127 383 13 = some (.inl c) := (e127 383 13 (by first | decide | omega)).trans k13
          have k37 : ai_hv t127 389 164 = some (.inl m1) := (e127 389 164 (by first | decide | omega)).trans k14
          refine ex_go (S := (103, [(2, .inl b19), (1, .inl m1), (0, gx_r 383)], [], t127, n, 0)) rfl (fun _ => rfl) rfl ?_
          refine ex_go (S := (104, [(2, .inl b19), (1, .inl m1), (0, gx_r 383)], [gx_r 383], t127, n, 0)) rfl (fun _ => rfl) rfl ?_
          refine gx_get rfl s127.1 rfl s127.2.2.1 rfl ?_
          refine gx_1f (c := .le) rfl (by first | decide | omega) (show ¬ (f127 ≤ 0) from by omega) rfl ?_
          refine ex_ret (r := (none, t127, n, 0)) rfl (fun _ => rfl) ?_
          exact ⟨_, rfl, t127, a127, f127, rfl, s127, (fun c i h => (e127 c i (by first | decide | omega)).trans (e104 c i (by first | decide | omega))), fun h0 => by omega⟩
        · refine gx_1f (c := .eq) rfl (by first | decide | omega) hc26 rfl ?_
          refine ex_go (S := (59, [(2, .inl b19), (1, .inl m1), (0, gx_r 383)], [gx_r 383], t104, n, 0)) rfl (fun _ => rfl) rfl ?_
          refine gx_ref (c := 389) rfl s104.1 rfl rfl rfl rfl ?_
          refine ex_go (S := (65, [(2, .inl b19), (1, .inl m1), (0, gx_r 383)], [.inl 236, gx_r 389], t104, n, 0)) rfl (fun _ => rfl) rfl ?_
          refine ex_go (S := (66, [(2, .inl b19), (1, .inl m1), (0, gx_r 383)], [.inl 3, .inl 236, gx_r 389], t104, n, 0)) rfl (fun _ => rfl) rfl ?_
          refine ex_go (S := (67, [(2, .inl b19), (1, .inl m1), (0, gx_r 383)], [.inl b19, .inl 3, .inl 236, gx_r 389], t104, n, 0)) rfl (fun _ => rfl) rfl ?_
          refine gx_imul rfl (by first | decide | omega) rfl ?_
          refine ex_iadd rfl (by first | decide | omega) rfl ?_
          obtain ⟨m38, k39, m38l, m38h⟩ := gx_inb (c := 389) (i := 236 + (3 * b19)) (lo := 0) (hi := 7) s104.1 rfl (show 236 + (3 * b19) < 320 from by omega) (px_run_thing (3 * b19) (by first | decide | omega) (by first | decide | omega)) (by decide) (by decide) rfl
          refine gx_ag (v := .inl m38) (cb := fun c => Nat.beq c 0) rfl (fun _ => rfl) s104.1 rfl rfl k39 (by first | decide | omega) rfl ?_
          by_cases hc40 : m38 = 0
          · refine gx_1t (c := .eq) rfl (by first | decide | omega) hc40 rfl ?_
            refine ex_go (S := (82, [(2, .inl b19), (1, .inl m1), (0, gx_r 383)], [.inl m1], t104, n, 0)) rfl (fun _ => rfl) rfl ?_
            refine ex_go (S := (83, [(2, .inl b19), (1, .inl m1), (0, gx_r 383)], [.inl 1, .inl m1], t104, n, 0)) rfl (fun _ => rfl) rfl ?_
            by_cases hc41 : m1 ≠ 1
            · refine gx_2t (c := .ne) rfl (by first | decide | omega) (by first | decide | omega) hc41 rfl ?_
              refine ex_go (S := (104, [(2, .inl b19), (1, .inl m1), (0, gx_r 383)], [gx_r 383], t104, n, 0)) rfl (fun _ => rfl) rfl ?_
              refine gx_get rfl s104.1 rfl s104.2.2.1 rfl ?_
              refine ex_go (S := (111, [(2, .inl b19), (1, .inl m1), (0, gx_r 383)], [], t104, n, 0)) rfl (fun _ => rfl) rfl ?_
              refine ex_go (S := (112, [(2, .inl b19), (1, .inl m1), (0, gx_r 383)], [gx_r 383], t104, n, 0)) rfl (fun _ => rfl) rfl ?_
              refine ex_go (S := (113, [(2, .inl b19), (1, .inl m1), (0, gx_r 383)], [gx_r 383, gx_r 383], t104, n, 0)) rfl (fun _ => rfl) rfl ?_
              refine gx_get rfl s104.1 rfl s104.2.1 rfl ?_
              refine ex_go (S := (117, [(2, .inl b19), (1, .inl m1), (0, gx_r 383)], [.inl 1, .inl (a + 1), gx_r 383], t104, n, 0)) rfl (fun _ => rfl) rfl ?_
              refine ex_iadd rfl (by first | decide | omega) rfl ?_
              refine gx_put rfl s104.1 rfl rfl (ai_in_h (by first | decide | omega) (by first | decide | omega) (by first | decide | omega)) rfl (fun t142 g142 k142 e142 => ?_)
              have k43 : ai_hv t142 383 19 = some (.inl r) := (e142 383 19 (by first | decide | omega)).trans k5
              have k44 : ai_hv t142 389 162 = some (.inl nt) := (e142 389 162 (by first | decide | omega)).trans k6
              have k45 : ai_hv t142 389 166 = some (.inl ng) := (e142 389 166 (by first | decide | omega)).trans k7
              have k46 : ai_hv t142 389 167 = some (.inl ns) := (e142 389 167 (by first | decide | omega)).trans k8
              have k47 : ai_hv t142 389 168 = some (.inl nl) := (e142 389 168 (by first | decide | omega)).trans k9
              have k48 : ai_hv t142 389 160 = some (.inl ov) := (e142 389 160 (by first | decide | omega)).trans k10
              have k49 : ai_hv t142 389 161 = some (.inl dn) := (e142 389 161 (by first | decide | omega)).trans k11
              have k50 : ai_hv t142 389 165 = some (.inl pa) := (e142 389 165 (by first | decide | omega)).trans k12
              have k51 : ai_hv t142 383 13 = some (.inl c) := (e142 383 13 (by first | decide | omega)).trans k13
              have k52 : ai_hv t142 389 164 = some (.inl m1) := (e142 389 164 (by first | decide | omega)).trans k14
              have k53 : ai_hv t142 389 (236 + (3 * b19)) = some (.inl m38) := (e142 389 (236 + (3 * b19)) (by first | decide | omega)).trans k39
              have s142 : px_S t142 ((a + 1) + 1) 0 := ⟨g142, k142, (e142 383 8 (by first | decide | omega)).trans s104.2.2.1, by omega, s104.2.2.2.2⟩
              refine ex_go (S := (124, [(2, .inl b19), (1, .inl m1), (0, gx_r 383)], [.inl 278], t142, n, 0)) rfl (fun _ => rfl) rfl ?_
              refine ex_go (S := (125, [(2, .inl b19), (1, .inl m1), (0, gx_r 383)], [.inl 3, .inl 278], t142, n, 0)) rfl (fun _ => rfl) rfl ?_
              refine ex_go (S := (126, [(2, .inl b19), (1, .inl m1), (0, gx_r 383)], [.inl m1, .inl 3, .inl 278], t142, n, 0)) rfl (fun _ => rfl) rfl ?_
              refine gx_imul rfl (by first | decide | omega) rfl ?_
              refine ex_iadd rfl (by first | decide | omega) rfl ?_
              refine ex_go (S := (129, [(3, .inl (278 + (3 * m1))), (2, .inl b19), (1, .inl m1), (0, gx_r 383)], [], t142, n, 0)) rfl (fun _ => rfl) rfl ?_
              refine ex_go (S := (130, [(3, .inl (278 + (3 * m1))), (2, .inl b19), (1, .inl m1), (0, gx_r 383)], [gx_r 383], t142, n, 0)) rfl (fun _ => rfl) rfl ?_
              refine gx_ref (c := 389) rfl s142.1 rfl rfl rfl rfl ?_
              refine ex_go (S := (134, [(3, .inl (278 + (3 * m1))), (2, .inl b19), (1, .inl m1), (0, gx_r 383)], [.inl (278 + (3 * m1)), gx_r 389], t142, n, 0)) rfl (fun _ => rfl) rfl ?_
              refine ex_go (S := (135, [(3, .inl (278 + (3 * m1))), (2, .inl b19), (1, .inl m1), (0, gx_r 383)], [.inl b19, .inl (278 + (3 * m1)), gx_r 389], t142, n, 0)) rfl (fun _ => rfl) rfl ?_
              refine gx_ap rfl (fun _ => rfl) s142.1 rfl rfl rfl (show 278 + (3 * m1) < 320 from by omega) (px_run_crew0 (m1) (by first | decide | omega) (by first | decide | omega)) (ai_in_h (by first | decide | omega) (by first | decide | omega) (by first | decide | omega)) rfl (fun t154 g154 k154 e154 => ?_)
              have k55 : ai_hv t154 383 19 = some (.inl r) := (e154 383 19 (by first | decide | omega)).trans k43
              have k56 : ai_hv t154 389 162 = some (.inl nt) := (e154 389 162 (by first | decide | omega)).trans k44
              have k57 : ai_hv t154 389 166 = some (.inl ng) := (e154 389 166 (by first | decide | omega)).trans k45
              have k58 : ai_hv t154 389 167 = some (.inl ns) := (e154 389 167 (by first | decide | omega)).trans k46
              have k59 : ai_hv t154 389 168 = some (.inl nl) := (e154 389 168 (by first | decide | omega)).trans k47
              have k60 : ai_hv t154 389 160 = some (.inl ov) := (e154 389 160 (by first | decide | omega)).trans k48
              have k61 : ai_hv t154 389 161 = some (.inl dn) := (e154 389 161 (by first | decide | omega)).trans k49
              have k62 : ai_hv t154 389 165 = some (.inl pa) := (e154 389 165 (by first | decide | omega)).trans k50
              have k63 : ai_hv t154 383 13 = some (.inl c) := (e154 383 13 (by first | decide | omega)).trans k51
              have k64 : ai_hv t154 389 164 = some (.inl m1) := (e154 389 164 (by first | decide | omega)).trans k52
              have k65 : ai_hv t154 389 (236 + (3 * b19)) = some (.inl m38) := (e154 389 (236 + (3 * b19)) (by first | decide | omega)).trans k53
              have s154 : px_S t154 ((a + 1) + 1) 0 := ⟨g154, (e154 383 7 (by first | decide | omega)).trans s142.2.1, (e154 383 8 (by first | decide | omega)).trans s142.2.2.1, s142.2.2.2⟩
              refine ex_go (S := (137, [(3, .inl (278 + (3 * m1))), (2, .inl b19), (1, .inl m1), (0, gx_r 383)], [gx_r 383], t154, n, 0)) rfl (fun _ => rfl) rfl ?_
              refine gx_ref (c := 389) rfl s154.1 rfl rfl rfl rfl ?_
              refine ex_go (S := (141, [(3, .inl (278 + (3 * m1))), (2, .inl b19), (1, .inl m1), (0, gx_r 383)], [.inl (278 + (3 * m1)), gx_r 389], t154, n, 0)) rfl (fun _ => rfl) rfl ?_
              refine ex_go (S := (142, [(3, .inl (278 + (3 * m1))), (2, .inl b19), (1, .inl m1), (0, gx_r 383)], [.inl 1, .inl (278 + (3 * m1)), gx_r 389], t154, n, 0)) rfl (fun _ => rfl) rfl ?_
              refine ex_iadd rfl (by first | decide | omega) rfl ?_
              refine ex_go (S := (144, [(3, .inl (278 + (3 * m1))), (2, .inl b19), (1, .inl m1), (0, gx_r 383)], [gx_r 383, .inl ((278 + (3 * m1)) + 1), gx_r 389], t154, n, 0)) rfl (fun _ => rfl) rfl ?_
              refine ex_go (S := (146, [(3, .inl (278 + (3 * m1))), (2, .inl b19), (1, .inl m1), (0, gx_r 383)], [.inl 9, gx_r 383, .inl ((278 + (3 * m1)) + 1), gx_r 389], t154, n, 0)) rfl (fun _ => rfl) rfl ?_
              refine ex_go (S := (147, [(3, .inl (278 + (3 * m1))), (2, .inl b19), (1, .inl m1), (0, gx_r 383)], [.inl 1, .inl 9, gx_r 383, .inl ((278 + (3 * m1)) + 1), gx_r 389], t154, n, 0)) rfl (fun _ => rfl) rfl ?_
              refine ex_go (S := (149, [(3, .inl (278 + (3 * m1))), (2, .inl b19), (1, .inl m1), (0, gx_r 383)], [.inl 30, .inl 1, .inl 9, gx_r 383, .inl ((278 + (3 * m1)) + 1), gx_r 389], t154, n, 0)) rfl (fun _ => rfl) rfl ?_
              obtain ⟨_, r166, v166, t166, a166, f166, rfl, s166, e166, q166⟩ := pk_takeAfter d n (s154) (w := 9) (lo := 1) (hi := 30) (by first | decide | omega) (by first | decide | omega) (by first | decide | omega)
              have b166 := s166.2.2.2
              refine gx_call1 rfl rfl s154.1 rfl rfl r166 rfl ?_
              have k67 : ai_hv t166 383 19 = some (.inl r) := (e166 383 19 (by first | decide | omega)).trans k55
              have k68 : ai_hv t166 389 162 = some (.inl nt) := (e166 389 162 (by first | decide | omega)).trans k56
              have k69 : ai_hv t166 389 166 = some (.inl ng) := (e166 389 166 (by first | decide | omega)).trans k57
              have k70 : ai_hv t166 389 167 = some (.inl ns) := (e166 389 167 (by first | decide | omega)).trans k58
              have k71 : ai_hv t166 389 168 = some (.inl nl) := (e166 389 168 (by first | decide | omega)).trans k59
              have k72 : ai_hv t166 389 160 = some (.inl ov) := (e166 389 160 (by first | decide | omega)).trans k60
              have k73 : ai_hv t166 389 161 = some (.inl dn) := (e166 389 161 (by first | decide | omega)).trans k61
              have k74 : ai_hv t166 389 165 = some (.inl pa) := (e166 389 165 (by first | decide | omega)).trans k62
              have k75 : ai_hv t166 383 13 = some (.inl c) := (e166 383 13 (by first | decide | omega)).trans k63
              have k76 : ai_hv t166 389 164 = some (.inl m1) := (e166 389 164 (by first | decide | omega)).trans k64
              have k77 : ai_hv t166 389 (236 + (3 * b19)) = some (.inl m38) := (e166 389 (236 + (3 * b19)) (by first | decide | omega)).trans k65
              have k78 : ai_hv t166 389 (278 + (3 * m1)) = some (.inl b19) := (e166 389 (278 + (3 * m1)) (by first | decide | omega)).trans k154
              refine gx_ap rfl (fun _ => rfl) s166.1 rfl rfl rfl (show (278 + (3 * m1)) + 1 < 320 from by omega) (px_run_crew1 (m1) (by first | decide | omega) (by first | decide | omega)) (ai_in_h (by first | decide | omega) (by first | decide | omega) (by first | decide | omega)) rfl (fun t179 g179 k179 e179 => ?_)
              have k80 : ai_hv t179 383 19 = some (.inl r) := (e179 383 19 (by first | decide | omega)).trans k67
              have k81 : ai_hv t179 389 162 = some (.inl nt) := (e179 389 162 (by first | decide | omega)).trans k68
              have k82 : ai_hv t179 389 166 = some (.inl ng) := (e179 389 166 (by first | decide | omega)).trans k69
              have k83 : ai_hv t179 389 167 = some (.inl ns) := (e179 389 167 (by first | decide | omega)).trans k70
              have k84 : ai_hv t179 389 168 = some (.inl nl) := (e179 389 168 (by first | decide | omega)).trans k71
              have k85 : ai_hv t179 389 160 = some (.inl ov) := (e179 389 160 (by first | decide | omega)).trans k72
              have k86 : ai_hv t179 389 161 = some (.inl dn) := (e179 389 161 (by first | decide | omega)).trans k73
              have k87 : ai_hv t179 389 165 = some (.inl pa) := (e179 389 165 (by first | decide | omega)).trans k74
              have k88 : ai_hv t179 383 13 = some (.inl c) := (e179 383 13 (by first | decide | omega)).trans k75
              have k89 : ai_hv t179 389 164 = some (.inl m1) := (e179 389 164 (by first | decide | omega)).trans k76
              have k90 : ai_hv t179 389 (236 + (3 * b19)) = some (.inl m38) := (e179 389 (236 + (3 * b19)) (by first | decide | omega)).trans k77
              have k91 : ai_hv t179 389 (278 + (3 * m1)) = some (.inl b19) := (e179 389 (278 + (3 * m1)) (by first | decide | omega)).trans k78
              have s179 : px_S t179 a166 f166 := ⟨g179, (e179 383 7 (by first | decide | omega)).trans s166.2.1, (e179 383 8 (by first | decide | omega)).trans s166.2.2.1, s166.2.2.2⟩
              refine ex_go (S := (154, [(3, .inl (278 + (3 * m1))), (2, .inl b19), (1, .inl m1), (0, gx_r 383)], [gx_r 383], t179, n, 0)) rfl (fun _ => rfl) rfl ?_
              refine gx_ref (c := 389) rfl s179.1 rfl rfl rfl rfl ?_
              refine ex_go (S := (158, [(3, .inl (278 + (3 * m1))), (2, .inl b19), (1, .inl m1), (0, gx_r 383)], [.inl (278 + (3 * m1)), gx_r 389], t179, n, 0)) rfl (fun _ => rfl) rfl ?_
              refine ex_go (S := (159, [(3, .inl (278 + (3 * m1))), (2, .inl b19), (1, .inl m1), (0, gx_r 383)], [.inl 2, .inl (278 + (3 * m1)), gx_r 389], t179, n, 0)) rfl (fun _ => rfl) rfl ?_
              refine ex_iadd rfl (by first | decide | omega) rfl ?_
              refine ex_go (S := (161, [(3, .inl (278 + (3 * m1))), (2, .inl b19), (1, .inl m1), (0, gx_r 383)], [gx_r 383, .inl ((278 + (3 * m1)) + 2), gx_r 389], t179, n, 0)) rfl (fun _ => rfl) rfl ?_
              refine ex_go (S := (163, [(3, .inl (278 + (3 * m1))), (2, .inl b19), (1, .inl m1), (0, gx_r 383)], [.inl 10, gx_r 383, .inl ((278 + (3 * m1)) + 2), gx_r 389], t179, n, 0)) rfl (fun _ => rfl) rfl ?_
              refine ex_go (S := (164, [(3, .inl (278 + (3 * m1))), (2, .inl b19), (1, .inl m1), (0, gx_r 383)], [.inl 0, .inl 10, gx_r 383, .inl ((278 + (3 * m1)) + 2), gx_r 389], t179, n, 0)) rfl (fun _ => rfl) rfl ?_
              refine ex_go (S := (167, [(3, .inl (278 + (3 * m1))), (2, .inl b19), (1, .inl m1), (0, gx_r 383)], [.inl 9999, .inl 0, .inl 10, gx_r 383, .inl ((278 + (3 * m1)) + 2), gx_r 389], t179, n, 0)) rfl (fun _ => rfl) rfl ?_
              obtain ⟨_, r192, v192, t192, a192, f192, rfl, s192, e192, q192⟩ := pk_takeAfter d n (s179) (w := 10) (lo := 0) (hi := 9999) (by first | decide | omega) (by first | decide | omega) (by first | decide | omega)
              have b192 := s192.2.2.2
              refine gx_call1 rfl rfl s179.1 rfl rfl r192 rfl ?_
              have k93 : ai_hv t192 383 19 = some (.inl r) := (e192 383 19 (by first | decide | omega)).trans k80
              have k94 : ai_hv t192 389 162 = some (.inl nt) := (e192 389 162 (by first | decide | omega)).trans k81
              have k95 : ai_hv t192 389 166 = some (.inl ng) := (e192 389 166 (by first | decide | omega)).trans k82
              have k96 : ai_hv t192 389 167 = some (.inl ns) := (e192 389 167 (by first | decide | omega)).trans k83
              have k97 : ai_hv t192 389 168 = some (.inl nl) := (e192 389 168 (by first | decide | omega)).trans k84
              have k98 : ai_hv t192 389 160 = some (.inl ov) := (e192 389 160 (by first | decide | omega)).trans k85
              have k99 : ai_hv t192 389 161 = some (.inl dn) := (e192 389 161 (by first | decide | omega)).trans k86
              have k100 : ai_hv t192 389 165 = some (.inl pa) := (e192 389 165 (by first | decide | omega)).trans k87
              have k101 : ai_hv t192 383 13 = some (.inl c) := (e192 383 13 (by first | decide | omega)).trans k88
              have k102 : ai_hv t192 389 164 = some (.inl m1) := (e192 389 164 (by first | decide | omega)).trans k89
              have k103 : ai_hv t192 389 (236 + (3 * b19)) = some (.inl m38) := (e192 389 (236 + (3 * b19)) (by first | decide | omega)).trans k90
              have k104 : ai_hv t192 389 (278 + (3 * m1)) = some (.inl b19) := (e192 389 (278 + (3 * m1)) (by first | decide | omega)).trans k91
              have k105 : ai_hv t192 389 ((278 + (3 * m1)) + 1) = some (.inl v166) := (e192 389 ((278 + (3 * m1)) + 1) (by first | decide | omega)).trans k179
              refine gx_ap rfl (fun _ => rfl) s192.1 rfl rfl rfl (show (278 + (3 * m1)) + 2 < 320 from by omega) (px_run_crew2 (m1) (by first | decide | omega) (by first | decide | omega)) (ai_in_h (by first | decide | omega) (by first | decide | omega) (by first | decide | omega)) rfl (fun t206 g206 k206 e206 => ?_)
              have k107 : ai_hv t206 383 19 = some (.inl r) := (e206 383 19 (by first | decide | omega)).trans k93
              have k108 : ai_hv t206 389 162 = some (.inl nt) := (e206 389 162 (by first | decide | omega)).trans k94
              have k109 : ai_hv t206 389 166 = some (.inl ng) := (e206 389 166 (by first | decide | omega)).trans k95
              have k110 : ai_hv t206 389 167 = some (.inl ns) := (e206 389 167 (by first | decide | omega)).trans k96
              have k111 : ai_hv t206 389 168 = some (.inl nl) := (e206 389 168 (by first | decide | omega)).trans k97
              have k112 : ai_hv t206 389 160 = some (.inl ov) := (e206 389 160 (by first | decide | omega)).trans k98
              have k113 : ai_hv t206 389 161 = some (.inl dn) := (e206 389 161 (by first | decide | omega)).trans k99
              have k114 : ai_hv t206 389 165 = some (.inl pa) := (e206 389 165 (by first | decide | omega)).trans k100
              have k115 : ai_hv t206 383 13 = some (.inl c) := (e206 383 13 (by first | decide | omega)).trans k101
              have k116 : ai_hv t206 389 164 = some (.inl m1) := (e206 389 164 (by first | decide | omega)).trans k102
              have k117 : ai_hv t206 389 (236 + (3 * b19)) = some (.inl m38) := (e206 389 (236 + (3 * b19)) (by first | decide | omega)).trans k103
              have k118 : ai_hv t206 389 (278 + (3 * m1)) = some (.inl b19) := (e206 389 (278 + (3 * m1)) (by first | decide | omega)).trans k104
              have k119 : ai_hv t206 389 ((278 + (3 * m1)) + 1) = some (.inl v166) := (e206 389 ((278 + (3 * m1)) + 1) (by first | decide | omega)).trans k105
              have s206 : px_S t206 a192 f192 := ⟨g206, (e206 383 7 (by first | decide | omega)).trans s192.2.1, (e206 383 8 (by first | decide | omega)).trans s192.2.2.1, s192.2.2.2⟩
              refine ex_go (S := (172, [(3, .inl (278 + (3 * m1))), (2, .inl b19), (1, .inl m1), (0, gx_r 383)], [gx_r 383], t206, n, 0)) rfl (fun _ => rfl) rfl ?_
              refine gx_ref (c := 389) rfl s206.1 rfl rfl rfl rfl ?_
              refine ex_go (S := (178, [(3, .inl (278 + (3 * m1))), (2, .inl b19), (1, .inl m1), (0, gx_r 383)], [.inl 164, gx_r 389], t206, n, 0)) rfl (fun _ => rfl) rfl ?_
              refine ex_go (S := (179, [(3, .inl (278 + (3 * m1))), (2, .inl b19), (1, .inl m1), (0, gx_r 383)], [.inl 164, gx_r 389, .inl 164, gx_r 389], t206, n, 0)) rfl (fun _ => rfl) rfl ?_
              refine gx_ag (v := .inl m1) (cb := fun c => Nat.beq c 0) rfl (fun _ => rfl) s206.1 rfl rfl k116 (by first | decide | omega) rfl ?_
              refine ex_go (S := (181, [(3, .inl (278 + (3 * m1))), (2, .inl b19), (1, .inl m1), (0, gx_r 383)], [.inl 1, .inl m1, .inl 164, gx_r 389], t206, n, 0)) rfl (fun _ => rfl) rfl ?_
              refine ex_iadd rfl (by first | decide | omega) rfl ?_
              refine gx_ap rfl (fun _ => rfl) s206.1 rfl rfl rfl (show 164 < 320 from by omega) rfl (ai_in_h (by first | decide | omega) (by first | decide | omega) (by first | decide | omega)) rfl (fun t220 g220 k220 e220 => ?_)
              have k121 : ai_hv t220 383 19 = some (.inl r) := (e220 383 19 (by first | decide | omega)).trans k107
              have k122 : ai_hv t220 389 162 = some (.inl nt) := (e220 389 162 (by first | decide | omega)).trans k108
              have k123 : ai_hv t220 389 166 = some (.inl ng) := (e220 389 166 (by first | decide | omega)).trans k109
              have k124 : ai_hv t220 389 167 = some (.inl ns) := (e220 389 167 (by first | decide | omega)).trans k110
              have k125 : ai_hv t220 389 168 = some (.inl nl) := (e220 389 168 (by first | decide | omega)).trans k111
              have k126 : ai_hv t220 389 160 = some (.inl ov) := (e220 389 160 (by first | decide | omega)).trans k112
              have k127 : ai_hv t220 389 161 = some (.inl dn) := (e220 389 161 (by first | decide | omega)).trans k113
              have k128 : ai_hv t220 389 165 = some (.inl pa) := (e220 389 165 (by first | decide | omega)).trans k114
              have k129 : ai_hv t220 383 13 = some (.inl c) := (e220 383 13 (by first | decide | omega)).trans k115
              have k130 : ai_hv t220 389 (236 + (3 * b19)) = some (.inl m38) := (e220 389 (236 + (3 * b19)) (by first | decide | omega)).trans k117
              have k131 : ai_hv t220 389 (278 + (3 * m1)) = some (.inl b19) := (e220 389 (278 + (3 * m1)) (by first | decide | omega)).trans k118
              have k132 : ai_hv t220 389 ((278 + (3 * m1)) + 1) = some (.inl v166) := (e220 389 ((278 + (3 * m1)) + 1) (by first | decide | omega)).trans k119
              have k133 : ai_hv t220 389 ((278 + (3 * m1)) + 2) = some (.inl v192) := (e220 389 ((278 + (3 * m1)) + 2) (by first | decide | omega)).trans k206
              have s220 : px_S t220 a192 f192 := ⟨g220, (e220 383 7 (by first | decide | omega)).trans s206.2.1, (e220 383 8 (by first | decide | omega)).trans s206.2.2.1, s206.2.2.2⟩
              refine ex_ret (r := (none, t220, n, 0)) rfl (fun _ => rfl) ?_
              refine ⟨_, rfl, t220, a192, f192, rfl, s220, (fun c i h => (e220 c i (by first | decide | omega)).trans ((e206 c i (by first | decide | omega)).trans ((e192 c i (by first | decide | omega)).trans ((e179 c i (by first | decide | omega)).trans ((e166 c i (by first | decide | omega)).trans ((e154 c i (by first | decide | omega)).trans ((e142 c i (by first | decide | omega)).trans (e104 c i (by first | decide | omega))))))))), fun h0 => ?_⟩
              refine ⟨by omega, c, ⟨r, nt, ng, ns, nl, ov, dn, pa, k121, k122, k123, k124, k125, k126, k127, k128, k129, by omega, ?_, ?_⟩, by omega⟩
              · exact px_E1_kept hE1 ((e220 389 163 (by first | decide | omega)).trans ((e206 389 163 (by first | decide | omega)).trans ((e192 389 163 (by first | decide | omega)).trans ((e179 389 163 (by first | decide | omega)).trans ((e166 389 163 (by first | decide | omega)).trans ((e154 389 163 (by first | decide | omega)).trans ((e142 389 163 (by first | decide | omega)).trans (e104 389 163 (by first | decide | omega))))))))) (fun k hk => (e220 389 (255 + 4 * k) (by first | decide | omega)).trans ((e206 389 (255 + 4 * k) (by first | decide | omega)).trans ((e192 389 (255 + 4 * k) (by first | decide | omega)).trans ((e179 389 (255 + 4 * k) (by first | decide | omega)).trans ((e166 389 (255 + 4 * k) (by first | decide | omega)).trans ((e154 389 (255 + 4 * k) (by first | decide | omega)).trans ((e142 389 (255 + 4 * k) (by first | decide | omega)).trans (e104 389 (255 + 4 * k) (by first | decide | omega)))))))))
              · exact px_E4_kept hE4 (Nat.le_refl _) (fun l hl => (e220 389 (169 + l) (by first | decide | omega)).trans ((e206 389 (169 + l) (by first | decide | omega)).trans ((e192 389 (169 + l) (by first | decide | omega)).trans ((e179 389 (169 + l) (by first | decide | omega)).trans ((e166 389 (169 + l) (by first | decide | omega)).trans ((e154 389 (169 + l) (by first | decide | omega)).trans ((e142 389 (169 + l) (by first | decide | omega)).trans (e104 389 (169 + l) (by first | decide | omega))))))))) (fun i hi => (e220 390 (1100 + i) (by first | decide | omega)).trans ((e206 390 (1100 + i) (by first | decide | omega)).trans ((e192 390 (1100 + i) (by first | decide | omega)).trans ((e179 390 (1100 + i) (by first | decide | omega)).trans ((e166 390 (1100 + i) (by first | decide | omega)).trans ((e154 390 (1100 + i) (by first | decide | omega)).trans ((e142 390 (1100 + i) (by first | decide | omega)).trans (e104 390 (1100 + i) (by first | decide | omega))))))))) (fun i hi => (e220 391 (1100 + i) (by first | decide | omega)).trans ((e206 391 (1100 + i) (by first | decide | omega)).trans ((e192 391 (1100 + i) (by first | decide | omega)).trans ((e179 391 (1100 + i) (by first | decide | omega)).trans ((e166 391 (1100 + i) (by first | decide | omega)).trans ((e154 391 (1100 + i) (by first | decide | omega)).trans ((e142 391 (1100 + i) (by first | decide | omega)).trans (e104 391 (1100 + i) (by first | decide | omega)))))))))
            · refine gx_2f (c := .ne) rfl (by first | decide | omega) (by first | decide | omega) hc41 rfl ?_
              refine ex_go (S := (87, [(2, .inl b19), (1, .inl m1), (0, gx_r 383)], [gx_r 383], t104, n, 0)) rfl (fun _ => rfl) rfl ?_
              refine gx_ref (c := 389) rfl s104.1 rfl rfl rfl rfl ?_
              refine ex_go (S := (93, [(2, .inl b19), (1, .inl m1), (0, gx_r 383)], [.inl 278, gx_r 389], t104, n, 0)) rfl (fun _ => rfl) rfl ?_
              obtain ⟨m134, k135, m134l, m134h⟩ := gx_in (c := 389) (i := 278) (lo := 0) (hi := 5) s104.1 rfl rfl rfl rfl
              refine gx_ag (v := .inl m134) (cb := fun c => Nat.beq c 0) rfl (fun _ => rfl) s104.1 rfl rfl k135 (by first | decide | omega) rfl ?_
              refine ex_go (S := (95, [(2, .inl b19), (1, .inl m1), (0, gx_r 383)], [.inl b19, .inl m134], t104, n, 0)) rfl (fun _ => rfl) rfl ?_
              by_cases hc136 : m134 ≠ b19
              · refine gx_2t (c := .ne) rfl (by first | decide | omega) (by first | decide | omega) hc136 rfl ?_
                refine ex_go (S := (104, [(2, .inl b19), (1, .inl m1), (0, gx_r 383)], [gx_r 383], t104, n, 0)) rfl (fun _ => rfl) rfl ?_
                refine gx_get rfl s104.1 rfl s104.2.2.1 rfl ?_
                refine ex_go (S := (111, [(2, .inl b19), (1, .inl m1), (0, gx_r 383)], [], t104, n, 0)) rfl (fun _ => rfl) rfl ?_
                refine ex_go (S := (112, [(2, .inl b19), (1, .inl m1), (0, gx_r 383)], [gx_r 383], t104, n, 0)) rfl (fun _ => rfl) rfl ?_
                refine ex_go (S := (113, [(2, .inl b19), (1, .inl m1), (0, gx_r 383)], [gx_r 383, gx_r 383], t104, n, 0)) rfl (fun _ => rfl) rfl ?_
                refine gx_get rfl s104.1 rfl s104.2.1 rfl ?_
                refine ex_go (S := (117, [(2, .inl b19), (1, .inl m1), (0, gx_r 383)], [.inl 1, .inl (a + 1), gx_r 383], t104, n, 0)) rfl (fun _ => rfl) rfl ?_
                refine ex_iadd rfl (by first | decide | omega) rfl ?_
                refine gx_put rfl s104.1 rfl rfl (ai_in_h (by first | decide | omega) (by first | decide | omega) (by first | decide | omega)) rfl (fun t237 g237 k237 e237 => ?_)
                have k138 : ai_hv t237 383 19 = some (.inl r) := (e237 383 19 (by first | decide | omega)).trans k5
                have k139 : ai_hv t237 389 162 = some (.inl nt) := (e237 389 162 (by first | decide | omega)).trans k6
                have k140 : ai_hv t237 389 166 = some (.inl ng) := (e237 389 166 (by first | decide | omega)).trans k7
                have k141 : ai_hv t237 389 167 = some (.inl ns) := (e237 389 167 (by first | decide | omega)).trans k8
                have k142 : ai_hv t237 389 168 = some (.inl nl) := (e237 389 168 (by first | decide | omega)).trans k9
                have k143 : ai_hv t237 389 160 = some (.inl ov) := (e237 389 160 (by first | decide | omega)).trans k10
                have k144 : ai_hv t237 389 161 = some (.inl dn) := (e237 389 161 (by first | decide | omega)).trans k11
                have k145 : ai_hv t237 389 165 = some (.inl pa) := (e237 389 165 (by first | decide | omega)).trans k12
                have k146 : ai_hv t237 383 13 = some (.inl c) := (e237 383 13 (by first | decide | omega)).trans k13
                have k147 : ai_hv t237 389 164 = some (.inl m1) := (e237 389 164 (by first | decide | omega)).trans k14
                have k148 : ai_hv t237 389 (236 + (3 * b19)) = some (.inl m38) := (e237 389 (236 + (3 * b19)) (by first | decide | omega)).trans k39
                have k149 : ai_hv t237 389 278 = some (.inl m134) := (e237 389 278 (by first | decide | omega)).trans k135
                have s237 : px_S t237 ((a + 1) + 1) 0 := ⟨g237, k237, (e237 383 8 (by first | decide | omega)).trans s104.2.2.1, by omega, s104.2.2.2.2⟩
                refine ex_go (S := (124, [(2, .inl b19), (1, .inl m1), (0, gx_r 383)], [.inl 278], t237, n, 0)) rfl (fun _ => rfl) rfl ?_
                refine ex_go (S := (125, [(2, .inl b19), (1, .inl m1), (0, gx_r 383)], [.inl 3, .inl 278], t237, n, 0)) rfl (fun _ => rfl) rfl ?_
                refine ex_go (S := (126, [(2, .inl b19), (1, .inl m1), (0, gx_r 383)], [.inl m1, .inl 3, .inl 278], t237, n, 0)) rfl (fun _ => rfl) rfl ?_
                refine gx_imul rfl (by first | decide | omega) rfl ?_
                refine ex_iadd rfl (by first | decide | omega) rfl ?_
                refine ex_go (S := (129, [(3, .inl (278 + (3 * m1))), (2, .inl b19), (1, .inl m1), (0, gx_r 383)], [], t237, n, 0)) rfl (fun _ => rfl) rfl ?_
                refine ex_go (S := (130, [(3, .inl (278 + (3 * m1))), (2, .inl b19), (1, .inl m1), (0, gx_r 383)], [gx_r 383], t237, n, 0)) rfl (fun _ => rfl) rfl ?_
                refine gx_ref (c := 389) rfl s237.1 rfl rfl rfl rfl ?_
                refine ex_go (S := (134, [(3, .inl (278 + (3 * m1))), (2, .inl b19), (1, .inl m1), (0, gx_r 383)], [.inl (278 + (3 * m1)), gx_r 389], t237, n, 0)) rfl (fun _ => rfl) rfl ?_
                refine ex_go (S := (135, [(3, .inl (278 + (3 * m1))), (2, .inl b19), (1, .inl m1), (0, gx_r 383)], [.inl b19, .inl (278 + (3 * m1)), gx_r 389], t237, n, 0)) rfl (fun _ => rfl) rfl ?_
                refine gx_ap rfl (fun _ => rfl) s237.1 rfl rfl rfl (show 278 + (3 * m1) < 320 from by omega) (px_run_crew0 (m1) (by first | decide | omega) (by first | decide | omega)) (ai_in_h (by first | decide | omega) (by first | decide | omega) (by first | decide | omega)) rfl (fun t250 g250 k250 e250 => ?_)
                have k151 : ai_hv t250 383 19 = some (.inl r) := (e250 383 19 (by first | decide | omega)).trans k138
                have k152 : ai_hv t250 389 162 = some (.inl nt) := (e250 389 162 (by first | decide | omega)).trans k139
                have k153 : ai_hv t250 389 166 = some (.inl ng) := (e250 389 166 (by first | decide | omega)).trans k140
                have k154 : ai_hv t250 389 167 = some (.inl ns) := (e250 389 167 (by first | decide | omega)).trans k141
                have k155 : ai_hv t250 389 168 = some (.inl nl) := (e250 389 168 (by first | decide | omega)).trans k142
                have k156 : ai_hv t250 389 160 = some (.inl ov) := (e250 389 160 (by first | decide | omega)).trans k143
                have k157 : ai_hv t250 389 161 = some (.inl dn) := (e250 389 161 (by first | decide | omega)).trans k144
                have k158 : ai_hv t250 389 165 = some (.inl pa) := (e250 389 165 (by first | decide | omega)).trans k145
                have k159 : ai_hv t250 383 13 = some (.inl c) := (e250 383 13 (by first | decide | omega)).trans k146
                have k160 : ai_hv t250 389 164 = some (.inl m1) := (e250 389 164 (by first | decide | omega)).trans k147
                have k161 : ai_hv t250 389 (236 + (3 * b19)) = some (.inl m38) := (e250 389 (236 + (3 * b19)) (by first | decide | omega)).trans k148
                have k162 : ai_hv t250 389 278 = some (.inl m134) := (e250 389 278 (by first | decide | omega)).trans k149
                have s250 : px_S t250 ((a + 1) + 1) 0 := ⟨g250, (e250 383 7 (by first | decide | omega)).trans s237.2.1, (e250 383 8 (by first | decide | omega)).trans s237.2.2.1, s237.2.2.2⟩
                refine ex_go (S := (137, [(3, .inl (278 + (3 * m1))), (2, .inl b19), (1, .inl m1), (0, gx_r 383)], [gx_r 383], t250, n, 0)) rfl (fun _ => rfl) rfl ?_
                refine gx_ref (c := 389) rfl s250.1 rfl rfl rfl rfl ?_
                refine ex_go (S := (141, [(3, .inl (278 + (3 * m1))), (2, .inl b19), (1, .inl m1), (0, gx_r 383)], [.inl (278 + (3 * m1)), gx_r 389], t250, n, 0)) rfl (fun _ => rfl) rfl ?_
                refine ex_go (S := (142, [(3, .inl (278 + (3 * m1))), (2, .inl b19), (1, .inl m1), (0, gx_r 383)], [.inl 1, .inl (278 + (3 * m1)), gx_r 389], t250, n, 0)) rfl (fun _ => rfl) rfl ?_
                refine ex_iadd rfl (by first | decide | omega) rfl ?_
                refine ex_go (S := (144, [(3, .inl (278 + (3 * m1))), (2, .inl b19), (1, .inl m1), (0, gx_r 383)], [gx_r 383, .inl ((278 + (3 * m1)) + 1), gx_r 389], t250, n, 0)) rfl (fun _ => rfl) rfl ?_
                refine ex_go (S := (146, [(3, .inl (278 + (3 * m1))), (2, .inl b19), (1, .inl m1), (0, gx_r 383)], [.inl 9, gx_r 383, .inl ((278 + (3 * m1)) + 1), gx_r 389], t250, n, 0)) rfl (fun _ => rfl) rfl ?_
                refine ex_go (S := (147, [(3, .inl (278 + (3 * m1))), (2, .inl b19), (1, .inl m1), (0, gx_r 383)], [.inl 1, .inl 9, gx_r 383, .inl ((278 + (3 * m1)) + 1), gx_r 389], t250, n, 0)) rfl (fun _ => rfl) rfl ?_
                refine ex_go (S := (149, [(3, .inl (278 + (3 * m1))), (2, .inl b19), (1, .inl m1), (0, gx_r 383)], [.inl 30, .inl 1, .inl 9, gx_r 383, .inl ((278 + (3 * m1)) + 1), gx_r 389], t250, n, 0)) rfl (fun _ => rfl) rfl ?_
                obtain ⟨_, r263, v263, t263, a263, f263, rfl, s263, e263, q263⟩ := pk_takeAfter d n (s250) (w := 9) (lo := 1) (hi := 30) (by first | decide | omega) (by first | decide | omega) (by first | decide | omega)
                have b263 := s263.2.2.2
                refine gx_call1 rfl rfl s250.1 rfl rfl r263 rfl ?_
                have k164 : ai_hv t263 383 19 = some (.inl r) := (e263 383 19 (by first | decide | omega)).trans k151
                have k165 : ai_hv t263 389 162 = some (.inl nt) := (e263 389 162 (by first | decide | omega)).trans k152
                have k166 : ai_hv t263 389 166 = some (.inl ng) := (e263 389 166 (by first | decide | omega)).trans k153
                have k167 : ai_hv t263 389 167 = some (.inl ns) := (e263 389 167 (by first | decide | omega)).trans k154
                have k168 : ai_hv t263 389 168 = some (.inl nl) := (e263 389 168 (by first | decide | omega)).trans k155
                have k169 : ai_hv t263 389 160 = some (.inl ov) := (e263 389 160 (by first | decide | omega)).trans k156
                have k170 : ai_hv t263 389 161 = some (.inl dn) := (e263 389 161 (by first | decide | omega)).trans k157
                have k171 : ai_hv t263 389 165 = some (.inl pa) := (e263 389 165 (by first | decide | omega)).trans k158
                have k172 : ai_hv t263 383 13 = some (.inl c) := (e263 383 13 (by first | decide | omega)).trans k159
                have k173 : ai_hv t263 389 164 = some (.inl m1) := (e263 389 164 (by first | decide | omega)).trans k160
                have k174 : ai_hv t263 389 (236 + (3 * b19)) = some (.inl m38) := (e263 389 (236 + (3 * b19)) (by first | decide | omega)).trans k161
                have k175 : ai_hv t263 389 278 = some (.inl m134) := (e263 389 278 (by first | decide | omega)).trans k162
                have k176 : ai_hv t263 389 (278 + (3 * m1)) = some (.inl b19) := (e263 389 (278 + (3 * m1)) (by first | decide | omega)).trans k250
                refine gx_ap rfl (fun _ => rfl) s263.1 rfl rfl rfl (show (278 + (3 * m1)) + 1 < 320 from by omega) (px_run_crew1 (m1) (by first | decide | omega) (by first | decide | omega)) (ai_in_h (by first | decide | omega) (by first | decide | omega) (by first | decide | omega)) rfl (fun t277 g277 k277 e277 => ?_)
                have k178 : ai_hv t277 383 19 = some (.inl r) := (e277 383 19 (by first | decide | omega)).trans k164
                have k179 : ai_hv t277 389 162 = some (.inl nt) := (e277 389 162 (by first | decide | omega)).trans k165
                have k180 : ai_hv t277 389 166 = some (.inl ng) := (e277 389 166 (by first | decide | omega)).trans k166
                have k181 : ai_hv t277 389 167 = some (.inl ns) := (e277 389 167 (by first | decide | omega)).trans k167
                have k182 : ai_hv t277 389 168 = some (.inl nl) := (e277 389 168 (by first | decide | omega)).trans k168
                have k183 : ai_hv t277 389 160 = some (.inl ov) := (e277 389 160 (by first | decide | omega)).trans k169
                have k184 : ai_hv t277 389 161 = some (.inl dn) := (e277 389 161 (by first | decide | omega)).trans k170
                have k185 : ai_hv t277 389 165 = some (.inl pa) := (e277 389 165 (by first | decide | omega)).trans k171
                have k186 : ai_hv t277 383 13 = some (.inl c) := (e277 383 13 (by first | decide | omega)).trans k172
                have k187 : ai_hv t277 389 164 = some (.inl m1) := (e277 389 164 (by first | decide | omega)).trans k173
                have k188 : ai_hv t277 389 (236 + (3 * b19)) = some (.inl m38) := (e277 389 (236 + (3 * b19)) (by first | decide | omega)).trans k174
                have k189 : ai_hv t277 389 278 = some (.inl m134) := (e277 389 278 (by first | decide | omega)).trans k175
                have k190 : ai_hv t277 389 (278 + (3 * m1)) = some (.inl b19) := (e277 389 (278 + (3 * m1)) (by first | decide | omega)).trans k176
                have s277 : px_S t277 a263 f263 := ⟨g277, (e277 383 7 (by first | decide | omega)).trans s263.2.1, (e277 383 8 (by first | decide | omega)).trans s263.2.2.1, s263.2.2.2⟩
                refine ex_go (S := (154, [(3, .inl (278 + (3 * m1))), (2, .inl b19), (1, .inl m1), (0, gx_r 383)], [gx_r 383], t277, n, 0)) rfl (fun _ => rfl) rfl ?_
                refine gx_ref (c := 389) rfl s277.1 rfl rfl rfl rfl ?_
                refine ex_go (S := (158, [(3, .inl (278 + (3 * m1))), (2, .inl b19), (1, .inl m1), (0, gx_r 383)], [.inl (278 + (3 * m1)), gx_r 389], t277, n, 0)) rfl (fun _ => rfl) rfl ?_
                refine ex_go (S := (159, [(3, .inl (278 + (3 * m1))), (2, .inl b19), (1, .inl m1), (0, gx_r 383)], [.inl 2, .inl (278 + (3 * m1)), gx_r 389], t277, n, 0)) rfl (fun _ => rfl) rfl ?_
                refine ex_iadd rfl (by first | decide | omega) rfl ?_
                refine ex_go (S := (161, [(3, .inl (278 + (3 * m1))), (2, .inl b19), (1, .inl m1), (0, gx_r 383)], [gx_r 383, .inl ((278 + (3 * m1)) + 2), gx_r 389], t277, n, 0)) rfl (fun _ => rfl) rfl ?_
                refine ex_go (S := (163, [(3, .inl (278 + (3 * m1))), (2, .inl b19), (1, .inl m1), (0, gx_r 383)], [.inl 10, gx_r 383, .inl ((278 + (3 * m1)) + 2), gx_r 389], t277, n, 0)) rfl (fun _ => rfl) rfl ?_
                refine ex_go (S := (164, [(3, .inl (278 + (3 * m1))), (2, .inl b19), (1, .inl m1), (0, gx_r 383)], [.inl 0, .inl 10, gx_r 383, .inl ((278 + (3 * m1)) + 2), gx_r 389], t277, n, 0)) rfl (fun _ => rfl) rfl ?_
                refine ex_go (S := (167, [(3, .inl (278 + (3 * m1))), (2, .inl b19), (1, .inl m1), (0, gx_r 383)], [.inl 9999, .inl 0, .inl 10, gx_r 383, .inl ((278 + (3 * m1)) + 2), gx_r 389], t277, n, 0)) rfl (fun _ => rfl) rfl ?_
                obtain ⟨_, r291, v291, t291, a291, f291, rfl, s291, e291, q291⟩ := pk_takeAfter d n (s277) (w := 10) (lo := 0) (hi := 9999) (by first | decide | omega) (by first | decide | omega) (by first | decide | omega)
                have b291 := s291.2.2.2
                refine gx_call1 rfl rfl s277.1 rfl rfl r291 rfl ?_
                have k192 : ai_hv t291 383 19 = some (.inl r) := (e291 383 19 (by first | decide | omega)).trans k178
                have k193 : ai_hv t291 389 162 = some (.inl nt) := (e291 389 162 (by first | decide | omega)).trans k179
                have k194 : ai_hv t291 389 166 = some (.inl ng) := (e291 389 166 (by first | decide | omega)).trans k180
                have k195 : ai_hv t291 389 167 = some (.inl ns) := (e291 389 167 (by first | decide | omega)).trans k181
                have k196 : ai_hv t291 389 168 = some (.inl nl) := (e291 389 168 (by first | decide | omega)).trans k182
                have k197 : ai_hv t291 389 160 = some (.inl ov) := (e291 389 160 (by first | decide | omega)).trans k183
                have k198 : ai_hv t291 389 161 = some (.inl dn) := (e291 389 161 (by first | decide | omega)).trans k184
                have k199 : ai_hv t291 389 165 = some (.inl pa) := (e291 389 165 (by first | decide | omega)).trans k185
                have k200 : ai_hv t291 383 13 = some (.inl c) := (e291 383 13 (by first | decide | omega)).trans k186
                have k201 : ai_hv t291 389 164 = some (.inl m1) := (e291 389 164 (by first | decide | omega)).trans k187
                have k202 : ai_hv t291 389 (236 + (3 * b19)) = some (.inl m38) := (e291 389 (236 + (3 * b19)) (by first | decide | omega)).trans k188
                have k203 : ai_hv t291 389 278 = some (.inl m134) := (e291 389 278 (by first | decide | omega)).trans k189
                have k204 : ai_hv t291 389 (278 + (3 * m1)) = some (.inl b19) := (e291 389 (278 + (3 * m1)) (by first | decide | omega)).trans k190
                have k205 : ai_hv t291 389 ((278 + (3 * m1)) + 1) = some (.inl v263) := (e291 389 ((278 + (3 * m1)) + 1) (by first | decide | omega)).trans k277
                refine gx_ap rfl (fun _ => rfl) s291.1 rfl rfl rfl (show (278 + (3 * m1)) + 2 < 320 from by omega) (px_run_crew2 (m1) (by first | decide | omega) (by first | decide | omega)) (ai_in_h (by first | decide | omega) (by first | decide | omega) (by first | decide | omega)) rfl (fun t306 g306 k306 e306 => ?_)
                have k207 : ai_hv t306 383 19 = some (.inl r) := (e306 383 19 (by first | decide | omega)).trans k192
                have k208 : ai_hv t306 389 162 = some (.inl nt) := (e306 389 162 (by first | decide | omega)).trans k193
                have k209 : ai_hv t306 389 166 = some (.inl ng) := (e306 389 166 (by first | decide | omega)).trans k194
                have k210 : ai_hv t306 389 167 = some (.inl ns) := (e306 389 167 (by first | decide | omega)).trans k195
                have k211 : ai_hv t306 389 168 = some (.inl nl) := (e306 389 168 (by first | decide | omega)).trans k196
                have k212 : ai_hv t306 389 160 = some (.inl ov) := (e306 389 160 (by first | decide | omega)).trans k197
                have k213 : ai_hv t306 389 161 = some (.inl dn) := (e306 389 161 (by first | decide | omega)).trans k198
                have k214 : ai_hv t306 389 165 = some (.inl pa) := (e306 389 165 (by first | decide | omega)).trans k199
                have k215 : ai_hv t306 383 13 = some (.inl c) := (e306 383 13 (by first | decide | omega)).trans k200
                have k216 : ai_hv t306 389 164 = some (.inl m1) := (e306 389 164 (by first | decide | omega)).trans k201
                have k217 : ai_hv t306 389 (236 + (3 * b19)) = some (.inl m38) := (e306 389 (236 + (3 * b19)) (by first | decide | omega)).trans k202
                have k218 : ai_hv t306 389 278 = some (.inl m134) := (e306 389 278 (by first | decide | omega)).trans k203
                have k219 : ai_hv t306 389 (278 + (3 * m1)) = some (.inl b19) := (e306 389 (278 + (3 * m1)) (by first | decide | omega)).trans k204
                have k220 : ai_hv t306 389 ((278 + (3 * m1)) + 1) = some (.inl v263) := (e306 389 ((278 + (3 * m1)) + 1) (by first | decide | omega)).trans k205
                have s306 : px_S t306 a291 f291 := ⟨g306, (e306 383 7 (by first | decide | omega)).trans s291.2.1, (e306 383 8 (by first | decide | omega)).trans s291.2.2.1, s291.2.2.2⟩
                refine ex_go (S := (172, [(3, .inl (278 + (3 * m1))), (2, .inl b19), (1, .inl m1), (0, gx_r 383)], [gx_r 383], t306, n, 0)) rfl (fun _ => rfl) rfl ?_
                refine gx_ref (c := 389) rfl s306.1 rfl rfl rfl rfl ?_
                refine ex_go (S := (178, [(3, .inl (278 + (3 * m1))), (2, .inl b19), (1, .inl m1), (0, gx_r 383)], [.inl 164, gx_r 389], t306, n, 0)) rfl (fun _ => rfl) rfl ?_
                refine ex_go (S := (179, [(3, .inl (278 + (3 * m1))), (2, .inl b19), (1, .inl m1), (0, gx_r 383)], [.inl 164, gx_r 389, .inl 164, gx_r 389], t306, n, 0)) rfl (fun _ => rfl) rfl ?_
                refine gx_ag (v := .inl m1) (cb := fun c => Nat.beq c 0) rfl (fun _ => rfl) s306.1 rfl rfl k216 (by first | decide | omega) rfl ?_
                refine ex_go (S := (181, [(3, .inl (278 + (3 * m1))), (2, .inl b19), (1, .inl m1), (0, gx_r 383)], [.inl 1, .inl m1, .inl 164, gx_r 389], t306, n, 0)) rfl (fun _ => rfl) rfl ?_
                refine ex_iadd rfl (by first | decide | omega) rfl ?_
                refine gx_ap rfl (fun _ => rfl) s306.1 rfl rfl rfl (show 164 < 320 from by omega) rfl (ai_in_h (by first | decide | omega) (by first | decide | omega) (by first | decide | omega)) rfl (fun t321 g321 k321 e321 => ?_)
                have k222 : ai_hv t321 383 19 = some (.inl r) := (e321 383 19 (by first | decide | omega)).trans k207
                have k223 : ai_hv t321 389 162 = some (.inl nt) := (e321 389 162 (by first | decide | omega)).trans k208
                have k224 : ai_hv t321 389 166 = some (.inl ng) := (e321 389 166 (by first | decide | omega)).trans k209
                have k225 : ai_hv t321 389 167 = some (.inl ns) := (e321 389 167 (by first | decide | omega)).trans k210
                have k226 : ai_hv t321 389 168 = some (.inl nl) := (e321 389 168 (by first | decide | omega)).trans k211
                have k227 : ai_hv t321 389 160 = some (.inl ov) := (e321 389 160 (by first | decide | omega)).trans k212
                have k228 : ai_hv t321 389 161 = some (.inl dn) := (e321 389 161 (by first | decide | omega)).trans k213
                have k229 : ai_hv t321 389 165 = some (.inl pa) := (e321 389 165 (by first | decide | omega)).trans k214
                have k230 : ai_hv t321 383 13 = some (.inl c) := (e321 383 13 (by first | decide | omega)).trans k215
                have k231 : ai_hv t321 389 (236 + (3 * b19)) = some (.inl m38) := (e321 389 (236 + (3 * b19)) (by first | decide | omega)).trans k217
                have k232 : ai_hv t321 389 278 = some (.inl m134) := (e321 389 278 (by first | decide | omega)).trans k218
                have k233 : ai_hv t321 389 (278 + (3 * m1)) = some (.inl b19) := (e321 389 (278 + (3 * m1)) (by first | decide | omega)).trans k219
                have k234 : ai_hv t321 389 ((278 + (3 * m1)) + 1) = some (.inl v263) := (e321 389 ((278 + (3 * m1)) + 1) (by first | decide | omega)).trans k220
                have k235 : ai_hv t321 389 ((278 + (3 * m1)) + 2) = some (.inl v291) := (e321 389 ((278 + (3 * m1)) + 2) (by first | decide | omega)).trans k306
                have s321 : px_S t321 a291 f291 := ⟨g321, (e321 383 7 (by first | decide | omega)).trans s306.2.1, (e321 383 8 (by first | decide | omega)).trans s306.2.2.1, s306.2.2.2⟩
                refine ex_ret (r := (none, t321, n, 0)) rfl (fun _ => rfl) ?_
                refine ⟨_, rfl, t321, a291, f291, rfl, s321, (fun c i h => (e321 c i (by first | decide | omega)).trans ((e306 c i (by first | decide | omega)).trans ((e291 c i (by first | decide | omega)).trans ((e277 c i (by first | decide | omega)).trans ((e263 c i (by first | decide | omega)).trans ((e250 c i (by first | decide | omega)).trans ((e237 c i (by first | decide | omega)).trans (e104 c i (by first | decide | omega))))))))), fun h0 => ?_⟩
                refine ⟨by omega, c, ⟨r, nt, ng, ns, nl, ov, dn, pa, k222, k223, k224, k225, k226, k227, k228, k229, k230, by omega, ?_, ?_⟩, by omega⟩
                · exact px_E1_kept hE1 ((e321 389 163 (by first | decide | omega)).trans ((e306 389 163 (by first | decide | omega)).trans ((e291 389 163 (by first | decide | omega)).trans ((e277 389 163 (by first | decide | omega)).trans ((e263 389 163 (by first | decide | omega)).trans ((e250 389 163 (by first | decide | omega)).trans ((e237 389 163 (by first | decide | omega)).trans (e104 389 163 (by first | decide | omega))))))))) (fun k hk => (e321 389 (255 + 4 * k) (by first | decide | omega)).trans ((e306 389 (255 + 4 * k) (by first | decide | omega)).trans ((e291 389 (255 + 4 * k) (by first | decide | omega)).trans ((e277 389 (255 + 4 * k) (by first | decide | omega)).trans ((e263 389 (255 + 4 * k) (by first | decide | omega)).trans ((e250 389 (255 + 4 * k) (by first | decide | omega)).trans ((e237 389 (255 + 4 * k) (by first | decide | omega)).trans (e104 389 (255 + 4 * k) (by first | decide | omega)))))))))
                · exact px_E4_kept hE4 (Nat.le_refl _) (fun l hl => (e321 389 (169 + l) (by first | decide | omega)).trans ((e306 389 (169 + l) (by first | decide | omega)).trans ((e291 389 (169 + l) (by first | decide | omega)).trans ((e277 389 (169 + l) (by first | decide | omega)).trans ((e263 389 (169 + l) (by first | decide | omega)).trans ((e250 389 (169 + l) (by first | decide | omega)).trans ((e237 389 (169 + l) (by first | decide | omega)).trans (e104 389 (169 + l) (by first | decide | omega))))))))) (fun i hi => (e321 390 (1100 + i) (by first | decide | omega)).trans ((e306 390 (1100 + i) (by first | decide | omega)).trans ((e291 390 (1100 + i) (by first | decide | omega)).trans ((e277 390 (1100 + i) (by first | decide | omega)).trans ((e263 390 (1100 + i) (by first | decide | omega)).trans ((e250 390 (1100 + i) (by first | decide | omega)).trans ((e237 390 (1100 + i) (by first | decide | omega)).trans (e104 390 (1100 + i) (by first | decide | omega))))))))) (fun i hi => (e321 391 (1100 + i) (by first | decide | omega)).trans ((e306 391 (1100 + i) (by first | decide | omega)).trans ((e291 391 (1100 + i) (by first | decide | omega)).trans ((e277 391 (1100 + i) (by first | decide | omega)).trans ((e263 391 (1100 + i) (by first | decide | omega)).trans ((e250 391 (1100 + i) (by first | decide | omega)).trans ((e237 391 (1100 + i) (by first | decide | omega)).trans (e104 391 (1100 + i) (by first | decide | omega)))))))))
              · refine gx_2f (c := .ne) rfl (by first | decide | omega) (by first | decide | omega) hc136 rfl ?_
                refine ex_go (S := (99, [(2, .inl b19), (1, .inl m1), (0, gx_r 383)], [gx_r 383], t104, n, 0)) rfl (fun _ => rfl) rfl ?_
                refine ex_go (S := (100, [(2, .inl b19), (1, .inl m1), (0, gx_r 383)], [.inl 3, gx_r 383], t104, n, 0)) rfl (fun _ => rfl) rfl ?_
                obtain ⟨_, r336, t336, a336, f336, rfl, s336, e336, q336⟩ := pk_wrong (d + 3) n (s104) (w := 3) (by first | decide | omega)
                have b336 := s336.2.2.2
                refine gx_call0 rfl rfl s104.1 rfl rfl r336 rfl ?_
                have k237 : ai_hv t336 383 19 = some (.inl r) := (e336 383 19 (by first | decide | omega)).trans k5
                have k238 : ai_hv t336 389 162 = some (.inl nt) := (e336 389 162 (by first | decide | omega)).trans k6
                have k239 : ai_hv t336 389 166 = some (.inl ng) := (e336 389 166 (by first | decide | omega)).trans k7
                have k240 : ai_hv t336 389 167 = some (.inl ns) := (e336 389 167 (by first | decide | omega)).trans k8
                have k241 : ai_hv t336 389 168 = some (.inl nl) := (e336 389 168 (by first | decide | omega)).trans k9
                have k242 : ai_hv t336 389 160 = some (.inl ov) := (e336 389 160 (by first | decide | omega)).trans k10
                have k243 : ai_hv t336 389 161 = some (.inl dn) := (e336 389 161 (by first | decide | omega)).trans k11
                have k244 : ai_hv t336 389 165 = some (.inl pa) := (e336 389 165 (by first | decide | omega)).trans k12
                have k245 : ai_hv t336 383 13 = some (.inl c) := (e336 383 13 (by first | decide | omega)).trans k13
                have k246 : ai_hv t336 389 164 = some (.inl m1) := (e336 389 164 (by first | decide | omega)).trans k14
                have k247 : ai_hv t336 389 (236 + (3 * b19)) = some (.inl m38) := (e336 389 (236 + (3 * b19)) (by first | decide | omega)).trans k39
                have k248 : ai_hv t336 389 278 = some (.inl m134) := (e336 389 278 (by first | decide | omega)).trans k135
                refine ex_go (S := (104, [(2, .inl b19), (1, .inl m1), (0, gx_r 383)], [gx_r 383], t336, n, 0)) rfl (fun _ => rfl) rfl ?_
                refine gx_get rfl s336.1 rfl s336.2.2.1 rfl ?_
                refine gx_1f (c := .le) rfl (by first | decide | omega) (show ¬ (f336 ≤ 0) from by omega) rfl ?_
                refine ex_ret (r := (none, t336, n, 0)) rfl (fun _ => rfl) ?_
                exact ⟨_, rfl, t336, a336, f336, rfl, s336, (fun c i h => (e336 c i (by first | decide | omega)).trans (e104 c i (by first | decide | omega))), fun h0 => by omega⟩
          · refine gx_1f (c := .eq) rfl (by first | decide | omega) hc40 rfl ?_
            refine ex_go (S := (74, [(2, .inl b19), (1, .inl m1), (0, gx_r 383)], [gx_r 383], t104, n, 0)) rfl (fun _ => rfl) rfl ?_
            refine ex_go (S := (75, [(2, .inl b19), (1, .inl m1), (0, gx_r 383)], [.inl 2, gx_r 383], t104, n, 0)) rfl (fun _ => rfl) rfl ?_
            obtain ⟨_, r349, t349, a349, f349, rfl, s349, e349, q349⟩ := pk_wrong (d + 3) n (s104) (w := 2) (by first | decide | omega)
            have b349 := s349.2.2.2
            refine gx_call0 rfl rfl s104.1 rfl rfl r349 rfl ?_
            have k250 : ai_hv t349 383 19 = some (.inl r) := (e349 383 19 (by first | decide | omega)).trans k5
            have k251 : ai_hv t349 389 162 = some (.inl nt) := (e349 389 162 (by first | decide | omega)).trans k6
            have k252 : ai_hv t349 389 166 = some (.inl ng) := (e349 389 166 (by first | decide | omega)).trans k7
            have k253 : ai_hv t349 389 167 = some (.inl ns) := (e349 389 167 (by first | decide | omega)).trans k8
            have k254 : ai_hv t349 389 168 = some (.inl nl) := (e349 389 168 (by first | decide | omega)).trans k9
            have k255 : ai_hv t349 389 160 = some (.inl ov) := (e349 389 160 (by first | decide | omega)).trans k10
            have k256 : ai_hv t349 389 161 = some (.inl dn) := (e349 389 161 (by first | decide | omega)).trans k11
            have k257 : ai_hv t349 389 165 = some (.inl pa) := (e349 389 165 (by first | decide | omega)).trans k12
            have k258 : ai_hv t349 383 13 = some (.inl c) := (e349 383 13 (by first | decide | omega)).trans k13
            have k259 : ai_hv t349 389 164 = some (.inl m1) := (e349 389 164 (by first | decide | omega)).trans k14
            have k260 : ai_hv t349 389 (236 + (3 * b19)) = some (.inl m38) := (e349 389 (236 + (3 * b19)) (by first | decide | omega)).trans k39
            refine ex_go (S := (103, [(2, .inl b19), (1, .inl m1), (0, gx_r 383)], [], t349, n, 0)) rfl (fun _ => rfl) rfl ?_
            refine ex_go (S := (104, [(2, .inl b19), (1, .inl m1), (0, gx_r 383)], [gx_r 383], t349, n, 0)) rfl (fun _ => rfl) rfl ?_
            refine gx_get rfl s349.1 rfl s349.2.2.1 rfl ?_
            refine gx_1f (c := .le) rfl (by first | decide | omega) (show ¬ (f349 ≤ 0) from by omega) rfl ?_
            refine ex_ret (r := (none, t349, n, 0)) rfl (fun _ => rfl) ?_
            exact ⟨_, rfl, t349, a349, f349, rfl, s349, (fun c i h => (e349 c i (by first | decide | omega)).trans (e104 c i (by first | decide | omega))), fun h0 => by omega⟩
      · subst hn22
        obtain ⟨_, r261, rfl⟩ := pk_within_n (d + 3) n (t0 := t104)
        refine ex_stat rfl rfl rfl rfl rfl r261 (Nat.le_refl _) rfl ?_
        show en_ex _ _ _ _ (55, [(2, .inl 4294967295), (1, .inl m1), (0, gx_r 383)], [.inl 0], t104, n, 0) _
        refine ex_go (S := (73, [(2, .inl 4294967295), (1, .inl m1), (0, gx_r 383)], [], t104, n, 0)) rfl (fun _ => rfl) rfl ?_
        refine ex_go (S := (74, [(2, .inl 4294967295), (1, .inl m1), (0, gx_r 383)], [gx_r 383], t104, n, 0)) rfl (fun _ => rfl) rfl ?_
        refine ex_go (S := (75, [(2, .inl 4294967295), (1, .inl m1), (0, gx_r 383)], [.inl 2, gx_r 383], t104, n, 0)) rfl (fun _ => rfl) rfl ?_
        obtain ⟨_, r362, t362, a362, f362, rfl, s362, e362, q362⟩ := pk_wrong (d + 3) n (s104) (w := 2) (by first | decide | omega)
        have b362 := s362.2.2.2
        refine gx_call0 rfl rfl s104.1 rfl rfl r362 rfl ?_
        have k263 : ai_hv t362 383 19 = some (.inl r) := (e362 383 19 (by first | decide | omega)).trans k5
        have k264 : ai_hv t362 389 162 = some (.inl nt) := (e362 389 162 (by first | decide | omega)).trans k6
        have k265 : ai_hv t362 389 166 = some (.inl ng) := (e362 389 166 (by first | decide | omega)).trans k7
        have k266 : ai_hv t362 389 167 = some (.inl ns) := (e362 389 167 (by first | decide | omega)).trans k8
        have k267 : ai_hv t362 389 168 = some (.inl nl) := (e362 389 168 (by first | decide | omega)).trans k9
        have k268 : ai_hv t362 389 160 = some (.inl ov) := (e362 389 160 (by first | decide | omega)).trans k10
        have k269 : ai_hv t362 389 161 = some (.inl dn) := (e362 389 161 (by first | decide | omega)).trans k11
        have k270 : ai_hv t362 389 165 = some (.inl pa) := (e362 389 165 (by first | decide | omega)).trans k12
        have k271 : ai_hv t362 383 13 = some (.inl c) := (e362 383 13 (by first | decide | omega)).trans k13
        have k272 : ai_hv t362 389 164 = some (.inl m1) := (e362 389 164 (by first | decide | omega)).trans k14
        refine ex_go (S := (103, [(2, .inl 4294967295), (1, .inl m1), (0, gx_r 383)], [], t362, n, 0)) rfl (fun _ => rfl) rfl ?_
        refine ex_go (S := (104, [(2, .inl 4294967295), (1, .inl m1), (0, gx_r 383)], [gx_r 383], t362, n, 0)) rfl (fun _ => rfl) rfl ?_
        refine gx_get rfl s362.1 rfl s362.2.2.1 rfl ?_
        refine gx_1f (c := .le) rfl (by first | decide | omega) (show ¬ (f362 ≤ 0) from by omega) rfl ?_
        refine ex_ret (r := (none, t362, n, 0)) rfl (fun _ => rfl) ?_
        exact ⟨_, rfl, t362, a362, f362, rfl, s362, (fun c i h => (e362 c i (by first | decide | omega)).trans (e104 c i (by first | decide | omega))), fun h0 => by omega⟩
    · refine gx_1f (c := .ne) rfl (by first | decide | omega) hc18 rfl ?_
      refine ex_go (S := (38, [(1, .inl m1), (0, gx_r 383)], [gx_r 383], t104, n, 0)) rfl (fun _ => rfl) rfl ?_
      refine ex_go (S := (39, [(1, .inl m1), (0, gx_r 383)], [.inl 1, gx_r 383], t104, n, 0)) rfl (fun _ => rfl) rfl ?_
      obtain ⟨_, r373, t373, a373, f373, rfl, s373, e373, q373⟩ := pk_wrong (d + 3) n (s104) (w := 1) (by first | decide | omega)
      have b373 := s373.2.2.2
      refine gx_call0 rfl rfl s104.1 rfl rfl r373 rfl ?_
      have k274 : ai_hv t373 383 19 = some (.inl r) := (e373 383 19 (by first | decide | omega)).trans k5
      have k275 : ai_hv t373 389 162 = some (.inl nt) := (e373 389 162 (by first | decide | omega)).trans k6
      have k276 : ai_hv t373 389 166 = some (.inl ng) := (e373 389 166 (by first | decide | omega)).trans k7
      have k277 : ai_hv t373 389 167 = some (.inl ns) := (e373 389 167 (by first | decide | omega)).trans k8
      have k278 : ai_hv t373 389 168 = some (.inl nl) := (e373 389 168 (by first | decide | omega)).trans k9
      have k279 : ai_hv t373 389 160 = some (.inl ov) := (e373 389 160 (by first | decide | omega)).trans k10
      have k280 : ai_hv t373 389 161 = some (.inl dn) := (e373 389 161 (by first | decide | omega)).trans k11
      have k281 : ai_hv t373 389 165 = some (.inl pa) := (e373 389 165 (by first | decide | omega)).trans k12
      have k282 : ai_hv t373 383 13 = some (.inl c) := (e373 383 13 (by first | decide | omega)).trans k13
      have k283 : ai_hv t373 389 164 = some (.inl m1) := (e373 389 164 (by first | decide | omega)).trans k14
      refine ex_ret (r := (none, t373, n, 0)) rfl (fun _ => rfl) ?_
      exact ⟨_, rfl, t373, a373, f373, rfl, s373, (fun c i h => (e373 c i (by first | decide | omega)).trans (e104 c i (by first | decide | omega))), fun h0 => by omega⟩
  · refine gx_2f (c := .ne) rfl (by first | decide | omega) (by first | decide | omega) hc3 rfl ?_
    refine ex_go (S := (15, [(1, .inl m1), (0, gx_r 383)], [gx_r 383], t0, n, 0)) rfl (fun _ => rfl) rfl ?_
    refine ex_go (S := (16, [(1, .inl m1), (0, gx_r 383)], [.inl 5, gx_r 383], t0, n, 0)) rfl (fun _ => rfl) rfl ?_
    obtain ⟨_, r384, t384, a384, f384, rfl, s384, e384, q384⟩ := pk_wrong (d + 3) n (s0) (w := 5) (by first | decide | omega)
    have b384 := s384.2.2.2
    refine gx_call0 rfl rfl s0.1 rfl rfl r384 rfl ?_
    have k285 : ai_hv t384 383 19 = some (.inl r) := (e384 383 19 (by first | decide | omega)).trans kr
    have k286 : ai_hv t384 389 162 = some (.inl nt) := (e384 389 162 (by first | decide | omega)).trans knt
    have k287 : ai_hv t384 389 166 = some (.inl ng) := (e384 389 166 (by first | decide | omega)).trans kng
    have k288 : ai_hv t384 389 167 = some (.inl ns) := (e384 389 167 (by first | decide | omega)).trans kns
    have k289 : ai_hv t384 389 168 = some (.inl nl) := (e384 389 168 (by first | decide | omega)).trans knl
    have k290 : ai_hv t384 389 160 = some (.inl ov) := (e384 389 160 (by first | decide | omega)).trans kov
    have k291 : ai_hv t384 389 161 = some (.inl dn) := (e384 389 161 (by first | decide | omega)).trans kdn
    have k292 : ai_hv t384 389 165 = some (.inl pa) := (e384 389 165 (by first | decide | omega)).trans kpa
    have k293 : ai_hv t384 383 13 = some (.inl c) := (e384 383 13 (by first | decide | omega)).trans kc
    have k294 : ai_hv t384 389 164 = some (.inl m1) := (e384 389 164 (by first | decide | omega)).trans k2
    refine ex_ret (r := (none, t384, n, 0)) rfl (fun _ => rfl) ?_
    exact ⟨_, rfl, t384, a384, f384, rfl, s384, (fun c i h => e384 c i (by first | decide | omega)), fun h0 => by omega⟩
end PK2
