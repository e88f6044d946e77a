section PKA
noncomputable def we_R (t : en_H) (b : Nat) : Prop := (ai_En t 396 b 0 0 ∧ ai_En t 396 (b + 1) 0 30) ∨ (ai_En t 396 b 1 1 ∧ ai_En t 396 (b + 1) 0 1 ∧ ai_En t 396 (b + 2) 0 7 ∧ ai_En t 396 (b + 3) 0 7) ∨ (ai_En t 396 b 2 2 ∧ ai_En t 396 (b + 1) 0 1 ∧ ai_En t 396 (b + 2) 0 999) ∨ (ai_En t 396 b 3 3 ∧ ai_En t 396 (b + 1) 0 1)
noncomputable def we_W (t t' : en_H) : Prop := ∀ c i, ¬ ((c = 383 ∧ i ≠ 18 ∧ i ≠ 26) ∨ c = 385 ∨ c = 386 ∨ c = 387 ∨ (c = 396 ∧ 110 ≤ i)) → ai_hv t' c i = ai_hv t c i
theorem we_R_kept {t t' : en_H} {b b' : Nat} (h : we_R t b) (e : ∀ j, j < 4 → ai_hv t' 396 (b' + j) = ai_hv t 396 (b + j)) : we_R t' b' := by
  have e0 := e 0 (by first | decide | omega)
  have e1 := e 1 (by first | decide | omega)
  have e2 := e 2 (by first | decide | omega)
  have e3 := e 3 (by first | decide | omega)
  simp only [Nat.add_zero] at e0
  simp only [we_R, ai_En, e0, e1, e2, e3] at h ⊢
  exact h
theorem we_En {t t' : en_H} {c i i' lo hi : Nat} (h : ai_En t c i lo hi) (ei : i' = i) (e : ai_hv t' c i = ai_hv t c i) : ai_En t' c i' lo hi := by
  subst ei
  obtain ⟨m, h1, h2⟩ := h
  exact ⟨m, e.trans h1, h2⟩
theorem gx_lines {t : en_H} {i : Nat} (hG : ai_HG ah_G t) (h1 : 1 ≤ i) (hi : i < 210) : ∃ m, ai_hv t 396 i = some (.inl m) ∧ m < 4294967296 := by
  obtain ⟨v, k1, m, rfl, m1, m2, m3⟩ := gx_sl (c := 396) (i := i) hG rfl hi ((gx_run2 h1).trans (gx_run1 hi))
  exact ⟨m, k1, m1⟩
theorem we_E {t0 t1 t2 : en_H} {nn : Nat} (hE : ai_E t0) (hW : we_W t0 t1) (hn : nn ≤ 24) (hR : ∀ k, k < nn → we_R t1 (110 + 4 * k)) (h1 : ∀ i, i < 4 * nn → ai_hv t2 396 (1 + i) = ai_hv t1 396 (110 + i)) (h2 : ∀ c i, ¬ (c = 383 ∨ (c = 396 ∧ i < 1 + 4 * nn)) → ai_hv t2 c i = ai_hv t1 c i) : ai_E t2 := by
  have e : ∀ c i, ¬ (c = 383 ∨ c = 385 ∨ c = 386 ∨ c = 387 ∨ c = 396) → ai_hv t2 c i = ai_hv t0 c i := fun c i h => (h2 c i (by first | decide | omega)).trans (hW c i (by first | decide | omega))
  refine ⟨⟨ai_El_kept hE.1.1 (fun i => e _ i (by first | decide | omega)) (fun i => e _ i (by first | decide | omega)) (fun i => e _ i (by first | decide | omega)), ai_El_kept hE.1.2 (fun i => e _ i (by first | decide | omega)) (fun i => e _ i (by first | decide | omega)) (fun i => e _ i (by first | decide | omega))⟩, ?_⟩
  obtain ⟨e1, e2, e3, e4⟩ := hE.2
  refine ⟨fun k hk => ?_, fun k hk => ?_, fun b hb => ?_, fun l hl => ?_⟩
  · have := e1 k hk
    simp only [ai_En, fun i => e 389 i (by first | decide | omega)] at this ⊢
    exact this
  · by_cases c : k < nn
    · have h3 := we_R_kept (t' := t2) (b' := 1 + 4 * k) (hR k c) (fun j hj => by
        have := h1 (4 * k + j) (by first | decide | omega)
        rw [show 1 + 4 * k + j = 1 + (4 * k + j) by omega, show 110 + 4 * k + j = 110 + (4 * k + j) by omega]
        exact this)
      unfold we_R at h3
      rw [show 1 + 4 * k + 1 = 2 + 4 * k by omega, show 1 + 4 * k + 2 = 3 + 4 * k by omega, show 1 + 4 * k + 3 = 4 + 4 * k by omega] at h3
      exact h3
    · have e9 : ∀ i, 1 + 4 * nn ≤ i → i < 110 → ai_hv t2 396 i = ai_hv t0 396 i := fun i h3 h4 => (h2 396 i (by first | decide | omega)).trans (hW 396 i (by first | decide | omega))
      have := e2 k hk
      simp only [ai_En, e9 (1 + 4 * k) (by first | decide | omega) (by first | decide | omega), e9 (2 + 4 * k) (by first | decide | omega) (by first | decide | omega), e9 (3 + 4 * k) (by first | decide | omega) (by first | decide | omega), e9 (4 + 4 * k) (by first | decide | omega) (by first | decide | omega)] at this ⊢
      exact this
  · rw [e 399 _ (by first | decide | omega), e 399 _ (by first | decide | omega)]
    exact e3 b hb
  · rcases e4 l hl with h | ⟨s, e9, F, k1, k2, k3, k4, k5, k6⟩
    · exact Or.inl ((e _ _ (by first | decide | omega)).trans h)
    · exact Or.inr ⟨s, e9, F, (e _ _ (by first | decide | omega)).trans k1, k2, k3, k4, (e _ _ (by first | decide | omega)).trans k5, fun i z1 z2 => by
        rw [e 390 i (by first | decide | omega), e 391 i (by first | decide | omega)]
        exact k6 i z1 z2⟩
theorem we_c {fn : en_F} {n nn : Nat} {tb : en_H} {Q : en_O → Prop} (hnn : nn ≤ 24) (hQ : ∀ t1, ai_HG ah_G t1 → (∀ i, i < (4 * nn) → ai_hv t1 396 (1 + i) = ai_hv tb 396 (110 + i)) → (∀ c i, ¬ (c = 396 ∧ 1 ≤ i ∧ i < 1 + (4 * nn)) → ai_hv t1 c i = ai_hv tb c i) → Q (.inl (some (.inl 0), t1, n, 0))) : ∀ j k cl t0, k + j = 4 * nn → ai_HG ah_G t0 → (∀ i, i < k → ai_hv t0 396 (1 + i) = ai_hv tb 396 (110 + i)) → (∀ c i, ¬ (c = 396 ∧ 1 ≤ i ∧ i < 1 + k) → ai_hv t0 c i = ai_hv tb c i) → en_ld cl 0 = some (gx_r 383) → en_ld cl 1 = some (.inl nn) → en_ld cl 2 = some (.inl k) → en_ex none fn (en_code 35) (fun _ => false) (152, cl, [], t0, n, 0) Q := by
  intro j
  induction j with
  | zero =>
    intro k cl t0 hk g0 i0 e0 h0 h1 h2
    have hk : k = 4 * nn := by omega
    subst hk
    refine gx_ld (i := 2) (d := 0) (v := .inl (4 * nn)) rfl (fun _ => rfl) h2 rfl rfl ?_
    refine ex_go (S := (154, cl, [.inl 4, .inl (4 * nn)], t0, n, 0)) rfl (fun _ => rfl) rfl ?_
    refine gx_ld (i := 1) (d := 0) (v := .inl nn) rfl (fun _ => rfl) h1 rfl rfl ?_
    refine gx_imul rfl (by first | decide | omega) rfl ?_
    refine gx_2t (c := .ge) rfl (by first | decide | omega) (by first | decide | omega) (show 4 * nn ≤ 4 * nn from by omega) rfl ?_
    refine ex_go (S := (183, cl, [.inl 0], t0, n, 0)) rfl (fun _ => rfl) rfl ?_
    refine ex_ret (r := (some (.inl 0), t0, n, 0)) rfl (fun _ => rfl) ?_
    exact hQ t0 g0 i0 e0
  | succ j ih =>
    intro k cl t0 hk g0 i0 e0 h0 h1 h2
    refine gx_ld (i := 2) (d := 0) (v := .inl k) rfl (fun _ => rfl) h2 rfl rfl ?_
    refine ex_go (S := (154, cl, [.inl 4, .inl k], t0, n, 0)) rfl (fun _ => rfl) rfl ?_
    refine gx_ld (i := 1) (d := 0) (v := .inl nn) rfl (fun _ => rfl) h1 rfl rfl ?_
    refine gx_imul rfl (by first | decide | omega) rfl ?_
    refine gx_2f (c := .ge) rfl (by first | decide | omega) (by first | decide | omega) (show ¬ (4 * nn ≤ k) from by omega) rfl ?_
    refine gx_ld (i := 0) (d := 2) (v := gx_r 383) rfl (fun _ => rfl) h0 rfl rfl ?_
    refine gx_ref (c := 396) rfl g0 rfl rfl rfl rfl ?_
    refine ex_go (S := (164, cl, [.inl 1, gx_r 396], t0, n, 0)) rfl (fun _ => rfl) rfl ?_
    refine gx_ld (i := 2) (d := 0) (v := .inl k) rfl (fun _ => rfl) h2 rfl rfl ?_
    refine ex_iadd rfl (by first | decide | omega) rfl ?_
    refine gx_ld (i := 0) (d := 2) (v := gx_r 383) rfl (fun _ => rfl) h0 rfl rfl ?_
    refine gx_ref (c := 396) rfl g0 rfl rfl rfl rfl ?_
    refine ex_go (S := (172, cl, [.inl 110, gx_r 396, .inl (1 + k), gx_r 396], t0, n, 0)) rfl (fun _ => rfl) rfl ?_
    refine gx_ld (i := 2) (d := 0) (v := .inl k) rfl (fun _ => rfl) h2 rfl rfl ?_
    refine ex_iadd rfl (by first | decide | omega) rfl ?_
    obtain ⟨mv, kv, mvb⟩ := gx_lines (i := 110 + k) g0 (by first | decide | omega) (by first | decide | omega)
    refine gx_ag (v := .inl mv) (cb := fun c => Nat.beq c 0) rfl (fun _ => rfl) g0 rfl rfl kv (by first | decide | omega) rfl ?_
    refine gx_ap rfl (fun _ => rfl) g0 rfl rfl rfl (show 1 + k < 210 from by omega) ((gx_run2 (by first | decide | omega)).trans (gx_run1 (show 1 + k < 210 from by omega))) (gx_full (by first | decide | omega)) rfl (fun t101 g101 k101 e101 => ?_)
    have k2 : ai_hv t101 396 (110 + k) = some (.inl mv) := (e101 396 (110 + k) (by first | decide | omega)).trans kv
    refine gx_incS (i := 2) (a := k) (x := 1) rfl (fun _ => rfl) h2 (by first | decide | omega) rfl (fun l3 hl3 ml3 => ?_)
    have l3_0 : en_ld l3 0 = some (gx_r 383) := ml3 0 _ h0 rfl
    have l3_1 : en_ld l3 1 = some (.inl nn) := ml3 1 _ h1 rfl
    refine ex_go (S := (152, l3, [], t101, n, 0)) rfl (fun _ => rfl) rfl ?_
    refine ih (k + 1) _ t101 (by first | decide | omega) g101 (fun i hi => ?_) (fun c i h => (e101 c i (by first | decide | omega)).trans (e0 c i (by first | decide | omega))) l3_0 l3_1 hl3
    by_cases e : i = k
    · rw [e, ← e0 396 (110 + k) (by first | decide | omega), kv]
      exact k101
    · exact (e101 396 (1 + i) (by first | decide | omega)).trans (i0 i (by first | decide | omega))
theorem we_131 (d n : Nat) {t0 t1 : en_H} {a f nn : Nat} {cl : en_L} (hE : ai_E t0) (hW : we_W t0 t1) (s1 : px_S t1 a f) (hn : nn ≤ 24) (hR : f = 0 → ∀ k, k < nn → we_R t1 (110 + 4 * k)) (k2 : ai_hv t1 383 2 = some (.inl 0)) (h0 : en_ld cl 0 = some (gx_r 383)) (h1 : en_ld cl 1 = some (.inl nn)) : en_ex none (en_u (d + 5)) (en_code 35) (fun _ => false) (131, cl, [], t1, n, 0) (fun o => ∃ r, o = .inl r ∧ ∃ v t', r = (some (.inl v), t', n, 0) ∧ v < 4294967296 ∧ ai_HG ah_G t' ∧ ai_E t' ∧ ai_hv t' 383 2 = some (.inl 0) ∧ (∀ c i, ¬ ((c = 383 ∧ i ≠ 18 ∧ i ≠ 26) ∨ c = 385 ∨ c = 386 ∨ c = 387 ∨ c = 396) → ai_hv t' c i = ai_hv t0 c i)) := by
  have b0 := s1.2.2.2
  refine gx_ld (i := 0) (d := 2) (v := gx_r 383) rfl (fun _ => rfl) h0 rfl rfl ?_
  refine gx_get rfl s1.1 rfl s1.2.2.1 rfl ?_
  by_cases hc1 : f ≤ 0
  · refine gx_1t (c := .le) rfl (by first | decide | omega) hc1 rfl ?_
    refine gx_ld (i := 0) (d := 2) (v := gx_r 383) rfl (fun _ => rfl) h0 rfl rfl ?_
    refine gx_ref (c := 396) rfl s1.1 rfl rfl rfl rfl ?_
    refine ex_go (S := (148, cl, [.inl 0, gx_r 396], t1, n, 0)) rfl (fun _ => rfl) rfl ?_
    refine gx_ld (i := 1) (d := 0) (v := .inl nn) rfl (fun _ => rfl) h1 rfl rfl ?_
    refine gx_ap rfl (fun _ => rfl) s1.1 rfl rfl rfl (show 0 < 210 from by omega) rfl (ai_in_h (by first | decide | omega) (by first | decide | omega) (by first | decide | omega)) rfl (fun t102 g102 k102 e102 => ?_)
    have k3 : ai_hv t102 383 2 = some (.inl 0) := (e102 383 2 (by first | decide | omega)).trans k2
    have s102 : px_S t102 a f := ⟨g102, (e102 383 7 (by first | decide | omega)).trans s1.2.1, (e102 383 8 (by first | decide | omega)).trans s1.2.2.1, s1.2.2.2⟩
    refine ex_go (S := (151, cl, [.inl 0], t102, n, 0)) rfl (fun _ => rfl) rfl ?_
    refine gx_sto (i := 2) (d := 0) rfl (fun _ => rfl) rfl rfl (fun l4 hl4 ml4 => ?_)
    have l4_0 : en_ld l4 0 = some (gx_r 383) := ml4 0 _ h0 rfl
    have l4_1 : en_ld l4 1 = some (.inl nn) := ml4 1 _ h1 rfl
    refine we_c (tb := t102) hn (fun t9 g9 j9 e9 => ?_) (4 * nn) 0 _ _ (by first | decide | omega) s102.1 (fun i hi => by omega) (fun c i h => rfl) l4_0 l4_1 hl4
    exact ⟨_, rfl, 0, t9, rfl, by omega, g9, we_E hE hW hn (hR (by first | decide | omega)) (fun i hi => (j9 i hi).trans (e102 396 (110 + i) (by first | decide | omega))) (fun c i h => (e9 c i (by first | decide | omega)).trans (e102 c i (by first | decide | omega))), (e9 383 2 (by first | decide | omega)).trans k3, (fun c i h => (e9 c i (by first | decide | omega)).trans ((e102 c i (by first | decide | omega)).trans (hW c i (by first | decide | omega))))⟩
  · refine gx_1f (c := .le) rfl (by first | decide | omega) hc1 rfl ?_
    refine gx_ld (i := 0) (d := 2) (v := gx_r 383) rfl (fun _ => rfl) h0 rfl rfl ?_
    refine gx_get rfl s1.1 rfl s1.2.2.1 rfl ?_
    refine ex_ret (r := (some (.inl f), t1, n, 0)) rfl (fun _ => rfl) ?_
    exact ⟨_, rfl, f, t1, rfl, by omega, s1.1, we_E (nn := 0) hE hW (by first | decide | omega) (fun k hk => by omega) (fun i hi => by omega) (fun c i h => rfl), k2, (fun c i h => hW c i (by first | decide | omega))⟩
theorem we_l (d n : Nat) {tb : en_H} (hE : ai_E tb) : ∀ j t0 a f nn cl, (f = 0 → 1000 ≤ a + j) → px_S t0 a f → nn ≤ 24 → (f = 0 → ∀ k, k < nn → we_R t0 (110 + 4 * k)) → ai_hv t0 383 2 = some (.inl 0) → we_W tb t0 → en_ld cl 0 = some (gx_r 383) → en_ld cl 1 = some (.inl nn) → en_ex none (en_u (d + 5)) (en_code 35) (fun _ => false) (11, cl, [], t0, n, 0) (fun o => ∃ r, o = .inl r ∧ ∃ v t', r = (some (.inl v), t', n, 0) ∧ v < 4294967296 ∧ ai_HG ah_G t' ∧ ai_E t' ∧ ai_hv t' 383 2 = some (.inl 0) ∧ (∀ c i, ¬ ((c = 383 ∧ i ≠ 18 ∧ i ≠ 26) ∨ c = 385 ∨ c = 386 ∨ c = 387 ∨ c = 396) → ai_hv t' c i = ai_hv tb c i)) := by
  intro j
  induction j with
  | zero =>
    intro t0 a f nn cl hj s0 hn hR k2 w0 h0 h1
    have b0 := s0.2.2.2
    refine gx_ld (i := 0) (d := 2) (v := gx_r 383) rfl (fun _ => rfl) h0 rfl rfl ?_
    refine gx_get rfl s0.1 rfl s0.2.2.1 rfl ?_
    by_cases hc1 : f ≠ 0
    · refine gx_1t (c := .ne) rfl (by first | decide | omega) hc1 rfl ?_
      exact we_131 d n hE (fun c i h => w0 c i h) s0 hn hR k2 h0 h1
    · refine gx_1f (c := .ne) rfl (by first | decide | omega) hc1 rfl ?_
      refine gx_ld (i := 0) (d := 2) (v := gx_r 383) rfl (fun _ => rfl) h0 rfl rfl ?_
      refine gx_ref (c := 385) rfl s0.1 rfl rfl rfl rfl ?_
      refine gx_ld (i := 0) (d := 2) (v := gx_r 383) rfl (fun _ => rfl) h0 rfl rfl ?_
      refine gx_get rfl s0.1 rfl s0.2.1 rfl ?_
      obtain ⟨m2, k3, m2b⟩ := gx_sort s0.1 (i := a) (by first | decide | omega)
      refine gx_ag (v := .inl m2) (cb := fun c => Nat.beq c 0) rfl (fun _ => rfl) s0.1 rfl rfl k3 (by first | decide | omega) rfl ?_
      by_cases hc4 : m2 = 0
      · refine gx_1t (c := .eq) rfl (by first | decide | omega) hc4 rfl ?_
        exact we_131 d n hE (fun c i h => w0 c i h) s0 hn hR k2 h0 h1
      · refine gx_1f (c := .eq) rfl (by first | decide | omega) hc4 rfl ?_
        exfalso; omega
  | succ j ih =>
    intro t0 a f nn cl hj s0 hn hR k2 w0 h0 h1
    have b0 := s0.2.2.2
    refine gx_ld (i := 0) (d := 2) (v := gx_r 383) rfl (fun _ => rfl) h0 rfl rfl ?_
    refine gx_get rfl s0.1 rfl s0.2.2.1 rfl ?_
    by_cases hc1 : f ≠ 0
    · refine gx_1t (c := .ne) rfl (by first | decide | omega) hc1 rfl ?_
      exact we_131 d n hE (fun c i h => w0 c i h) s0 hn hR k2 h0 h1
    · refine gx_1f (c := .ne) rfl (by first | decide | omega) hc1 rfl ?_
      refine gx_ld (i := 0) (d := 2) (v := gx_r 383) rfl (fun _ => rfl) h0 rfl rfl ?_
      refine gx_ref (c := 385) rfl s0.1 rfl rfl rfl rfl ?_
      refine gx_ld (i := 0) (d := 2) (v := gx_r 383) rfl (fun _ => rfl) h0 rfl rfl ?_
      refine gx_get rfl s0.1 rfl s0.2.1 rfl ?_
      obtain ⟨m2, k3, m2b⟩ := gx_sort s0.1 (i := a) (by first | decide | omega)
      refine gx_ag (v := .inl m2) (cb := fun c => Nat.beq c 0) rfl (fun _ => rfl) s0.1 rfl rfl k3 (by first | decide | omega) rfl ?_
      by_cases hc4 : m2 = 0
      · refine gx_1t (c := .eq) rfl (by first | decide | omega) hc4 rfl ?_
        exact we_131 d n hE (fun c i h => w0 c i h) s0 hn hR k2 h0 h1
      · refine gx_1f (c := .eq) rfl (by first | decide | omega) hc4 rfl ?_
        refine gx_ld (i := 0) (d := 2) (v := gx_r 383) rfl (fun _ => rfl) h0 rfl rfl ?_
        refine ex_go (S := (32, cl, [.inl 1, gx_r 383], t0, n, 0)) rfl (fun _ => rfl) rfl ?_
        obtain ⟨_, r7, b5, rfl, q6⟩ := pk_isWord (d + 4) n (s0) (w := 1) (by first | decide | omega)
        refine gx_call1 rfl rfl s0.1 rfl rfl r7 rfl ?_
        by_cases hc8 : b5 = 0
        · refine gx_1t (c := .eq) rfl (by first | decide | omega) hc8 rfl ?_
          refine ex_go (S := (43, cl, [.inl 1], t0, n, 0)) rfl (fun _ => rfl) rfl ?_
          refine gx_ld (i := 0) (d := 2) (v := gx_r 383) rfl (fun _ => rfl) h0 rfl rfl ?_
          refine ex_go (S := (46, cl, [.inl 23, gx_r 383, .inl 1], t0, n, 0)) rfl (fun _ => rfl) rfl ?_
          refine ex_go (S := (47, cl, [.inl 3, .inl 23, gx_r 383, .inl 1], t0, n, 0)) rfl (fun _ => rfl) rfl ?_
          obtain ⟨_, r11, b9, rfl, q10⟩ := pk_wordHere (d + 3) n (s0) (w := 23) (m := 3) (by first | decide | omega)
          refine gx_call1 rfl rfl s0.1 rfl rfl r11 rfl ?_
          rcases q10 with hn12 | hn12
          · have := hn12
            refine ex_iadd rfl (by first | decide | omega) rfl ?_
            refine gx_sto (i := 2) (d := 0) rfl (fun _ => rfl) rfl rfl (fun l13 hl13 ml13 => ?_)
            have l13_0 : en_ld l13 0 = some (gx_r 383) := ml13 0 _ h0 rfl
            have l13_1 : en_ld l13 1 = some (.inl nn) := ml13 1 _ h1 rfl
            refine gx_ld (i := 2) (d := 0) (v := .inl (1 + b9)) rfl (fun _ => rfl) hl13 rfl rfl ?_
            refine gx_1t (c := .ne) rfl (by first | decide | omega) (show 1 + b9 ≠ 0 from by omega) rfl ?_
            refine gx_ld (i := 1) (d := 0) (v := .inl nn) rfl (fun _ => rfl) l13_1 rfl rfl ?_
            refine ex_go (S := (75, l13, [.inl 24, .inl nn], t0, n, 0)) rfl (fun _ => rfl) rfl ?_
            by_cases hc14 : nn ≠ 24
            · refine gx_2t (c := .ne) rfl (by first | decide | omega) (by first | decide | omega) hc14 rfl ?_
              refine gx_ld (i := 0) (d := 2) (v := gx_r 383) rfl (fun _ => rfl) l13_0 rfl rfl ?_
              refine ex_go (S := (88, l13, [gx_r 383, gx_r 383], t0, n, 0)) rfl (fun _ => rfl) rfl ?_
              refine gx_get rfl s0.1 rfl s0.2.1 rfl ?_
              refine ex_go (S := (92, l13, [.inl 1, .inl a, gx_r 383], t0, n, 0)) rfl (fun _ => rfl) rfl ?_
              refine ex_iadd rfl (by first | decide | omega) rfl ?_
              refine gx_put rfl s0.1 rfl rfl (ai_in_h (by first | decide | omega) (by first | decide | omega) (by first | decide | omega)) rfl (fun t115 g115 k115 e115 => ?_)
              have k16 : ai_hv t115 383 2 = some (.inl 0) := (e115 383 2 (by first | decide | omega)).trans k2
              have k17 : ai_hv t115 385 a = some (.inl m2) := (e115 385 a (by first | decide | omega)).trans k3
              have s115 : px_S t115 (a + 1) f := ⟨g115, k115, (e115 383 8 (by first | decide | omega)).trans s0.2.2.1, by omega, s0.2.2.2.2⟩
              refine gx_ld (i := 0) (d := 2) (v := gx_r 383) rfl (fun _ => rfl) l13_0 rfl rfl ?_
              refine gx_ref (c := 396) rfl s115.1 rfl rfl rfl rfl ?_
              refine ex_go (S := (102, l13, [.inl 110, gx_r 396], t115, n, 0)) rfl (fun _ => rfl) rfl ?_
              refine ex_go (S := (103, l13, [.inl 4, .inl 110, gx_r 396], t115, n, 0)) rfl (fun _ => rfl) rfl ?_
              refine gx_ld (i := 1) (d := 0) (v := .inl nn) rfl (fun _ => rfl) l13_1 rfl rfl ?_
              refine gx_imul rfl (by first | decide | omega) rfl ?_
              refine ex_iadd rfl (by first | decide | omega) rfl ?_
              refine gx_ld (i := 2) (d := 0) (v := .inl (1 + b9)) rfl (fun _ => rfl) hl13 rfl rfl ?_
              refine gx_ap rfl (fun _ => rfl) s115.1 rfl rfl rfl (show 110 + (4 * nn) < 210 from by omega) ((gx_run2 (by first | decide | omega)).trans (gx_run1 (show 110 + (4 * nn) < 210 from by omega))) (gx_full (by first | decide | omega)) rfl (fun t118 g118 k118 e118 => ?_)
              have k19 : ai_hv t118 383 2 = some (.inl 0) := (e118 383 2 (by first | decide | omega)).trans k16
              have k20 : ai_hv t118 385 a = some (.inl m2) := (e118 385 a (by first | decide | omega)).trans k17
              have s118 : px_S t118 (a + 1) f := ⟨g118, (e118 383 7 (by first | decide | omega)).trans s115.2.1, (e118 383 8 (by first | decide | omega)).trans s115.2.2.1, s115.2.2.2⟩
              refine gx_ld (i := 0) (d := 2) (v := gx_r 383) rfl (fun _ => rfl) l13_0 rfl rfl ?_
              refine gx_ld (i := 2) (d := 0) (v := .inl (1 + b9)) rfl (fun _ => rfl) hl13 rfl rfl ?_
              refine ex_go (S := (112, l13, [.inl 111, .inl (1 + b9), gx_r 383], t118, n, 0)) rfl (fun _ => rfl) rfl ?_
              refine ex_go (S := (113, l13, [.inl 4, .inl 111, .inl (1 + b9), gx_r 383], t118, n, 0)) rfl (fun _ => rfl) rfl ?_
              refine gx_ld (i := 1) (d := 0) (v := .inl nn) rfl (fun _ => rfl) l13_1 rfl rfl ?_
              refine gx_imul rfl (by first | decide | omega) rfl ?_
              refine ex_iadd rfl (by first | decide | omega) rfl ?_
              obtain ⟨_, r121, t121, a121, f121, rfl, s121, e121, qa121, q121⟩ := pk_readWeek d n (s118) (w := 1 + b9) (i := 111 + (4 * nn)) (by first | decide | omega) (by first | decide | omega)
              have b121 := s121.2.2.2
              refine gx_call0 rfl rfl s118.1 rfl rfl r121 rfl ?_
              have k22 : ai_hv t121 383 2 = some (.inl 0) := (e121 383 2 (by first | decide | omega)).trans k19
              have k23 : ai_hv t121 385 a = some (.inl m2) := (e121 385 a (by first | decide | omega)).trans k20
              have k24 : ai_hv t121 396 (110 + (4 * nn)) = some (.inl (1 + b9)) := (e121 396 (110 + (4 * nn)) (by first | decide | omega)).trans k118
              refine gx_incS (i := 1) (a := nn) (x := 1) rfl (fun _ => rfl) l13_1 (by first | decide | omega) rfl (fun l25 hl25 ml25 => ?_)
              have l25_0 : en_ld l25 0 = some (gx_r 383) := ml25 0 _ l13_0 rfl
              have l25_2 : en_ld l25 2 = some (.inl (1 + b9)) := ml25 2 _ hl13 rfl
              refine gx_ld (i := 0) (d := 2) (v := gx_r 383) rfl (fun _ => rfl) l25_0 rfl rfl ?_
              refine ex_go (S := (125, l25, [.inl 59, gx_r 383], t121, n, 0)) rfl (fun _ => rfl) rfl ?_
              obtain ⟨_, r126, t126, a126, f126, rfl, s126, e126, q126⟩ := pk_takeSign (d + 3) n (s121) (w := 59)
              have b126 := s126.2.2.2
              refine gx_call0 rfl rfl s121.1 rfl rfl r126 rfl ?_
              have k27 : ai_hv t126 383 2 = some (.inl 0) := (e126 383 2 (by first | decide | omega)).trans k22
              have k28 : ai_hv t126 385 a = some (.inl m2) := (e126 385 a (by first | decide | omega)).trans k23
              have k29 : ai_hv t126 396 (110 + (4 * nn)) = some (.inl (1 + b9)) := (e126 396 (110 + (4 * nn)) (by first | decide | omega)).trans k24
              refine ex_go (S := (11, l25, [], t126, n, 0)) rfl (fun _ => rfl) rfl ?_
              refine ih t126 a126 f126 (nn + 1) _ (fun h9 => ?_) s126 (by first | decide | omega) (fun h9 k hk => ?_) k27 (fun c i h => (e126 c i (by first | decide | omega)).trans ((e121 c i (by first | decide | omega)).trans ((e118 c i (by first | decide | omega)).trans ((e115 c i (by first | decide | omega)).trans (w0 c i h))))) l25_0 hl25
              · have h8 := (q121 (by first | decide | omega)).2.1
                omega
              · obtain ⟨h8, h7, h6⟩ := q121 (by first | decide | omega)
                by_cases e : k < nn
                · exact we_R_kept (hR (by first | decide | omega) k e) (fun j9 hj9 => (e126 396 (110 + 4 * k + j9) (by first | decide | omega)).trans ((e121 396 (110 + 4 * k + j9) (by first | decide | omega)).trans ((e118 396 (110 + 4 * k + j9) (by first | decide | omega)).trans (e115 396 (110 + 4 * k + j9) (by first | decide | omega)))))
                · have ek : k = nn := by omega
                  subst ek
                  rcases h6 with ⟨j1, j2⟩ | ⟨j1, j2, j3, j4⟩ | ⟨j1, j2, j3⟩ | ⟨j1, j2⟩
                  · exact Or.inl ⟨⟨(1 + b9), k29, by omega, by omega⟩, we_En j2 (by first | decide | omega) (e126 396 (111 + (4 * k)) (by first | decide | omega))⟩
                  · exact Or.inr (Or.inl ⟨⟨(1 + b9), k29, by omega, by omega⟩, we_En j2 (by first | decide | omega) (e126 396 (111 + (4 * k)) (by first | decide | omega)), we_En j3 (by first | decide | omega) (e126 396 (111 + (4 * k) + 1) (by first | decide | omega)), we_En j4 (by first | decide | omega) (e126 396 (111 + (4 * k) + 2) (by first | decide | omega))⟩)
                  · exact Or.inr (Or.inr (Or.inl ⟨⟨(1 + b9), k29, by omega, by omega⟩, we_En j2 (by first | decide | omega) (e126 396 (111 + (4 * k)) (by first | decide | omega)), we_En j3 (by first | decide | omega) (e126 396 (111 + (4 * k) + 1) (by first | decide | omega))⟩))
                  · exact Or.inr (Or.inr (Or.inr ⟨⟨(1 + b9), k29, by omega, by omega⟩, we_En j2 (by first | decide | omega) (e126 396 (111 + (4 * k)) (by first | decide | omega))⟩))
            · refine gx_2f (c := .ne) rfl (by first | decide | omega) (by first | decide | omega) hc14 rfl ?_
              refine gx_ld (i := 0) (d := 2) (v := gx_r 383) rfl (fun _ => rfl) l13_0 rfl rfl ?_
              refine ex_go (S := (80, l13, [.inl 5, gx_r 383], t0, n, 0)) rfl (fun _ => rfl) rfl ?_
              obtain ⟨_, r130, t130, a130, f130, rfl, s130, e130, q130⟩ := pk_wrong (d + 4) n (s0) (w := 5) (by first | decide | omega)
              have b130 := s130.2.2.2
              refine gx_call0 rfl rfl s0.1 rfl rfl r130 rfl ?_
              have k31 : ai_hv t130 383 2 = some (.inl 0) := (e130 383 2 (by first | decide | omega)).trans k2
              have k32 : ai_hv t130 385 a = some (.inl m2) := (e130 385 a (by first | decide | omega)).trans k3
              refine ex_go (S := (122, l13, [], t130, n, 0)) rfl (fun _ => rfl) rfl ?_
              refine gx_ld (i := 0) (d := 2) (v := gx_r 383) rfl (fun _ => rfl) l13_0 rfl rfl ?_
              refine ex_go (S := (125, l13, [.inl 59, gx_r 383], t130, n, 0)) rfl (fun _ => rfl) rfl ?_
              obtain ⟨_, r133, t133, a133, f133, rfl, s133, e133, q133⟩ := pk_takeSign (d + 3) n (s130) (w := 59)
              have b133 := s133.2.2.2
              refine gx_call0 rfl rfl s130.1 rfl rfl r133 rfl ?_
              have k34 : ai_hv t133 383 2 = some (.inl 0) := (e133 383 2 (by first | decide | omega)).trans k31
              have k35 : ai_hv t133 385 a = some (.inl m2) := (e133 385 a (by first | decide | omega)).trans k32
              refine ex_go (S := (11, l13, [], t133, n, 0)) rfl (fun _ => rfl) rfl ?_
              exact ih t133 a133 f133 nn _ (by first | decide | omega) s133 hn (fun h9 => by omega) k34 (fun c i h => (e133 c i (by first | decide | omega)).trans ((e130 c i (by first | decide | omega)).trans (w0 c i h))) l13_0 l13_1
          · subst hn12
            refine ex_go (S := (51, cl, [.inl 0], t0, n, 0)) rfl (fun _ => rfl) rfl ?_
            refine gx_sto (i := 2) (d := 0) rfl (fun _ => rfl) rfl rfl (fun l36 hl36 ml36 => ?_)
            have l36_0 : en_ld l36 0 = some (gx_r 383) := ml36 0 _ h0 rfl
            have l36_1 : en_ld l36 1 = some (.inl nn) := ml36 1 _ h1 rfl
            refine gx_ld (i := 2) (d := 0) (v := .inl 0) rfl (fun _ => rfl) hl36 rfl rfl ?_
            refine ex_go (S := (56, l36, [], t0, n, 0)) rfl (fun _ => rfl) rfl ?_
            refine gx_ld (i := 0) (d := 2) (v := gx_r 383) rfl (fun _ => rfl) l36_0 rfl rfl ?_
            refine ex_go (S := (58, l36, [.inl 1, gx_r 383], t0, n, 0)) rfl (fun _ => rfl) rfl ?_
            obtain ⟨_, r39, b37, rfl, q38⟩ := pk_isWord (d + 4) n (s0) (w := 1) (by first | decide | omega)
            refine gx_call1 rfl rfl s0.1 rfl rfl r39 rfl ?_
            by_cases hc40 : b37 ≠ 0
            · refine gx_1t (c := .ne) rfl (by first | decide | omega) hc40 rfl ?_
              refine gx_ld (i := 1) (d := 0) (v := .inl nn) rfl (fun _ => rfl) l36_1 rfl rfl ?_
              refine ex_go (S := (75, l36, [.inl 24, .inl nn], t0, n, 0)) rfl (fun _ => rfl) rfl ?_
              by_cases hc41 : nn ≠ 24
              · refine gx_2t (c := .ne) rfl (by first | decide | omega) (by first | decide | omega) hc41 rfl ?_
                refine gx_ld (i := 0) (d := 2) (v := gx_r 383) rfl (fun _ => rfl) l36_0 rfl rfl ?_
                refine ex_go (S := (88, l36, [gx_r 383, gx_r 383], t0, n, 0)) rfl (fun _ => rfl) rfl ?_
                refine gx_get rfl s0.1 rfl s0.2.1 rfl ?_
                refine ex_go (S := (92, l36, [.inl 1, .inl a, gx_r 383], t0, n, 0)) rfl (fun _ => rfl) rfl ?_
                refine ex_iadd rfl (by first | decide | omega) rfl ?_
                refine gx_put rfl s0.1 rfl rfl (ai_in_h (by first | decide | omega) (by first | decide | omega) (by first | decide | omega)) rfl (fun t142 g142 k142 e142 => ?_)
                have k43 : ai_hv t142 383 2 = some (.inl 0) := (e142 383 2 (by first | decide | omega)).trans k2
                have k44 : ai_hv t142 385 a = some (.inl m2) := (e142 385 a (by first | decide | omega)).trans k3
                have s142 : px_S t142 (a + 1) f := ⟨g142, k142, (e142 383 8 (by first | decide | omega)).trans s0.2.2.1, by omega, s0.2.2.2.2⟩
                refine gx_ld (i := 0) (d := 2) (v := gx_r 383) rfl (fun _ => rfl) l36_0 rfl rfl ?_
                refine gx_ref (c := 396) rfl s142.1 rfl rfl rfl rfl ?_
                refine ex_go (S := (102, l36, [.inl 110, gx_r 396], t142, n, 0)) rfl (fun _ => rfl) rfl ?_
                refine ex_go (S := (103, l36, [.inl 4, .inl 110, gx_r 396], t142, n, 0)) rfl (fun _ => rfl) rfl ?_
                refine gx_ld (i := 1) (d := 0) (v := .inl nn) rfl (fun _ => rfl) l36_1 rfl rfl ?_
                refine gx_imul rfl (by first | decide | omega) rfl ?_
                refine ex_iadd rfl (by first | decide | omega) rfl ?_
                refine gx_ld (i := 2) (d := 0) (v := .inl 0) rfl (fun _ => rfl) hl36 rfl rfl ?_
                refine gx_ap rfl (fun _ => rfl) s142.1 rfl rfl rfl (show 110 + (4 * nn) < 210 from by omega) ((gx_run2 (by first | decide | omega)).trans (gx_run1 (show 110 + (4 * nn) < 210 from by omega))) (gx_full (by first | decide | omega)) rfl (fun t145 g145 k145 e145 => ?_)
                have k46 : ai_hv t145 383 2 = some (.inl 0) := (e145 383 2 (by first | decide | omega)).trans k43
                have k47 : ai_hv t145 385 a = some (.inl m2) := (e145 385 a (by first | decide | omega)).trans k44
                have s145 : px_S t145 (a + 1) f := ⟨g145, (e145 383 7 (by first | decide | omega)).trans s142.2.1, (e145 383 8 (by first | decide | omega)).trans s142.2.2.1, s142.2.2.2⟩
                refine gx_ld (i := 0) (d := 2) (v := gx_r 383) rfl (fun _ => rfl) l36_0 rfl rfl ?_
                refine gx_ld (i := 2) (d := 0) (v := .inl 0) rfl (fun _ => rfl) hl36 rfl rfl ?_
                refine ex_go (S := (112, l36, [.inl 111, .inl 0, gx_r 383], t145, n, 0)) rfl (fun _ => rfl) rfl ?_
                refine ex_go (S := (113, l36, [.inl 4, .inl 111, .inl 0, gx_r 383], t145, n, 0)) rfl (fun _ => rfl) rfl ?_
                refine gx_ld (i := 1) (d := 0) (v := .inl nn) rfl (fun _ => rfl) l36_1 rfl rfl ?_
                refine gx_imul rfl (by first | decide | omega) rfl ?_
                refine ex_iadd rfl (by first | decide | omega) rfl ?_
                obtain ⟨_, r148, t148, a148, f148, rfl, s148, e148, qa148, q148⟩ := pk_readWeek d n (s145) (w := 0) (i := 111 + (4 * nn)) (by first | decide | omega) (by first | decide | omega)
                have b148 := s148.2.2.2
                refine gx_call0 rfl rfl s145.1 rfl rfl r148 rfl ?_
                have k49 : ai_hv t148 383 2 = some (.inl 0) := (e148 383 2 (by first | decide | omega)).trans k46
                have k50 : ai_hv t148 385 a = some (.inl m2) := (e148 385 a (by first | decide | omega)).trans k47
                have k51 : ai_hv t148 396 (110 + (4 * nn)) = some (.inl 0) := (e148 396 (110 + (4 * nn)) (by first | decide | omega)).trans k145
                refine gx_incS (i := 1) (a := nn) (x := 1) rfl (fun _ => rfl) l36_1 (by first | decide | omega) rfl (fun l52 hl52 ml52 => ?_)
                have l52_0 : en_ld l52 0 = some (gx_r 383) := ml52 0 _ l36_0 rfl
                have l52_2 : en_ld l52 2 = some (.inl 0) := ml52 2 _ hl36 rfl
                refine gx_ld (i := 0) (d := 2) (v := gx_r 383) rfl (fun _ => rfl) l52_0 rfl rfl ?_
                refine ex_go (S := (125, l52, [.inl 59, gx_r 383], t148, n, 0)) rfl (fun _ => rfl) rfl ?_
                obtain ⟨_, r153, t153, a153, f153, rfl, s153, e153, q153⟩ := pk_takeSign (d + 3) n (s148) (w := 59)
                have b153 := s153.2.2.2
                refine gx_call0 rfl rfl s148.1 rfl rfl r153 rfl ?_
                have k54 : ai_hv t153 383 2 = some (.inl 0) := (e153 383 2 (by first | decide | omega)).trans k49
                have k55 : ai_hv t153 385 a = some (.inl m2) := (e153 385 a (by first | decide | omega)).trans k50
                have k56 : ai_hv t153 396 (110 + (4 * nn)) = some (.inl 0) := (e153 396 (110 + (4 * nn)) (by first | decide | omega)).trans k51
                refine ex_go (S := (11, l52, [], t153, n, 0)) rfl (fun _ => rfl) rfl ?_
                refine ih t153 a153 f153 (nn + 1) _ (fun h9 => ?_) s153 (by first | decide | omega) (fun h9 k hk => ?_) k54 (fun c i h => (e153 c i (by first | decide | omega)).trans ((e148 c i (by first | decide | omega)).trans ((e145 c i (by first | decide | omega)).trans ((e142 c i (by first | decide | omega)).trans (w0 c i h))))) l52_0 hl52
                · have h8 := (q148 (by first | decide | omega)).2.1
                  omega
                · obtain ⟨h8, h7, h6⟩ := q148 (by first | decide | omega)
                  by_cases e : k < nn
                  · exact we_R_kept (hR (by first | decide | omega) k e) (fun j9 hj9 => (e153 396 (110 + 4 * k + j9) (by first | decide | omega)).trans ((e148 396 (110 + 4 * k + j9) (by first | decide | omega)).trans ((e145 396 (110 + 4 * k + j9) (by first | decide | omega)).trans (e142 396 (110 + 4 * k + j9) (by first | decide | omega)))))
                  · have ek : k = nn := by omega
                    subst ek
                    rcases h6 with ⟨j1, j2⟩ | ⟨j1, j2, j3, j4⟩ | ⟨j1, j2, j3⟩ | ⟨j1, j2⟩
                    · exact Or.inl ⟨⟨0, k56, by omega, by omega⟩, we_En j2 (by first | decide | omega) (e153 396 (111 + (4 * k)) (by first | decide | omega))⟩
                    · exact Or.inr (Or.inl ⟨⟨0, k56, by omega, by omega⟩, we_En j2 (by first | decide | omega) (e153 396 (111 + (4 * k)) (by first | decide | omega)), we_En j3 (by first | decide | omega) (e153 396 (111 + (4 * k) + 1) (by first | decide | omega)), we_En j4 (by first | decide | omega) (e153 396 (111 + (4 * k) + 2) (by first | decide | omega))⟩)
                    · exact Or.inr (Or.inr (Or.inl ⟨⟨0, k56, by omega, by omega⟩, we_En j2 (by first | decide | omega) (e153 396 (111 + (4 * k)) (by first | decide | omega)), we_En j3 (by first | decide | omega) (e153 396 (111 + (4 * k) + 1) (by first | decide | omega))⟩))
                    · exact Or.inr (Or.inr (Or.inr ⟨⟨0, k56, by omega, by omega⟩, we_En j2 (by first | decide | omega) (e153 396 (111 + (4 * k)) (by first | decide | omega))⟩))
              · refine gx_2f (c := .ne) rfl (by first | decide | omega) (by first | decide | omega) hc41 rfl ?_
                refine gx_ld (i := 0) (d := 2) (v := gx_r 383) rfl (fun _ => rfl) l36_0 rfl rfl ?_
                refine ex_go (S := (80, l36, [.inl 5, gx_r 383], t0, n, 0)) rfl (fun _ => rfl) rfl ?_
                obtain ⟨_, r157, t157, a157, f157, rfl, s157, e157, q157⟩ := pk_wrong (d + 4) n (s0) (w := 5) (by first | decide | omega)
                have b157 := s157.2.2.2
                refine gx_call0 rfl rfl s0.1 rfl rfl r157 rfl ?_
                have k58 : ai_hv t157 383 2 = some (.inl 0) := (e157 383 2 (by first | decide | omega)).trans k2
                have k59 : ai_hv t157 385 a = some (.inl m2) := (e157 385 a (by first | decide | omega)).trans k3
                refine ex_go (S := (122, l36, [], t157, n, 0)) rfl (fun _ => rfl) rfl ?_
                refine gx_ld (i := 0) (d := 2) (v := gx_r 383) rfl (fun _ => rfl) l36_0 rfl rfl ?_
                refine ex_go (S := (125, l36, [.inl 59, gx_r 383], t157, n, 0)) rfl (fun _ => rfl) rfl ?_
                obtain ⟨_, r160, t160, a160, f160, rfl, s160, e160, q160⟩ := pk_takeSign (d + 3) n (s157) (w := 59)
                have b160 := s160.2.2.2
                refine gx_call0 rfl rfl s157.1 rfl rfl r160 rfl ?_
                have k61 : ai_hv t160 383 2 = some (.inl 0) := (e160 383 2 (by first | decide | omega)).trans k58
                have k62 : ai_hv t160 385 a = some (.inl m2) := (e160 385 a (by first | decide | omega)).trans k59
                refine ex_go (S := (11, l36, [], t160, n, 0)) rfl (fun _ => rfl) rfl ?_
                exact ih t160 a160 f160 nn _ (by first | decide | omega) s160 hn (fun h9 => by omega) k61 (fun c i h => (e160 c i (by first | decide | omega)).trans ((e157 c i (by first | decide | omega)).trans (w0 c i h))) l36_0 l36_1
            · refine gx_1f (c := .ne) rfl (by first | decide | omega) hc40 rfl ?_
              refine gx_ld (i := 0) (d := 2) (v := gx_r 383) rfl (fun _ => rfl) l36_0 rfl rfl ?_
              refine ex_go (S := (66, l36, [.inl 1, gx_r 383], t0, n, 0)) rfl (fun _ => rfl) rfl ?_
              obtain ⟨_, r163, t163, a163, f163, rfl, s163, e163, q163⟩ := pk_wrong (d + 4) n (s0) (w := 1) (by first | decide | omega)
              have b163 := s163.2.2.2
              refine gx_call0 rfl rfl s0.1 rfl rfl r163 rfl ?_
              have k64 : ai_hv t163 383 2 = some (.inl 0) := (e163 383 2 (by first | decide | omega)).trans k2
              have k65 : ai_hv t163 385 a = some (.inl m2) := (e163 385 a (by first | decide | omega)).trans k3
              refine ex_go (S := (122, l36, [], t163, n, 0)) rfl (fun _ => rfl) rfl ?_
              refine gx_ld (i := 0) (d := 2) (v := gx_r 383) rfl (fun _ => rfl) l36_0 rfl rfl ?_
              refine ex_go (S := (125, l36, [.inl 59, gx_r 383], t163, n, 0)) rfl (fun _ => rfl) rfl ?_
              obtain ⟨_, r166, t166, a166, f166, rfl, s166, e166, q166⟩ := pk_takeSign (d + 3) n (s163) (w := 59)
              have b166 := s166.2.2.2
              refine gx_call0 rfl rfl s163.1 rfl rfl r166 rfl ?_
              have k67 : ai_hv t166 383 2 = some (.inl 0) := (e166 383 2 (by first | decide | omega)).trans k64
              have k68 : ai_hv t166 385 a = some (.inl m2) := (e166 385 a (by first | decide | omega)).trans k65
              refine ex_go (S := (11, l36, [], t166, n, 0)) rfl (fun _ => rfl) rfl ?_
              exact ih t166 a166 f166 nn _ (by first | decide | omega) s166 hn (fun h9 => by omega) k67 (fun c i h => (e166 c i (by first | decide | omega)).trans ((e163 c i (by first | decide | omega)).trans (w0 c i h))) l36_0 l36_1
        · refine gx_1f (c := .eq) rfl (by first | decide | omega) hc8 rfl ?_
          refine ex_go (S := (39, cl, [.inl 0], t0, n, 0)) rfl (fun _ => rfl) rfl ?_
          refine ex_go (S := (51, cl, [.inl 0], t0, n, 0)) rfl (fun _ => rfl) rfl ?_
          refine gx_sto (i := 2) (d := 0) rfl (fun _ => rfl) rfl rfl (fun l69 hl69 ml69 => ?_)
          have l69_0 : en_ld l69 0 = some (gx_r 383) := ml69 0 _ h0 rfl
          have l69_1 : en_ld l69 1 = some (.inl nn) := ml69 1 _ h1 rfl
          refine gx_ld (i := 2) (d := 0) (v := .inl 0) rfl (fun _ => rfl) hl69 rfl rfl ?_
          refine ex_go (S := (56, l69, [], t0, n, 0)) rfl (fun _ => rfl) rfl ?_
          refine gx_ld (i := 0) (d := 2) (v := gx_r 383) rfl (fun _ => rfl) l69_0 rfl rfl ?_
          refine ex_go (S := (58, l69, [.inl 1, gx_r 383], t0, n, 0)) rfl (fun _ => rfl) rfl ?_
          obtain ⟨_, r72, b70, rfl, q71⟩ := pk_isWord (d + 4) n (s0) (w := 1) (by first | decide | omega)
          refine gx_call1 rfl rfl s0.1 rfl rfl r72 rfl ?_
          by_cases hc73 : b70 ≠ 0
          · refine gx_1t (c := .ne) rfl (by first | decide | omega) hc73 rfl ?_
            refine gx_ld (i := 1) (d := 0) (v := .inl nn) rfl (fun _ => rfl) l69_1 rfl rfl ?_
            refine ex_go (S := (75, l69, [.inl 24, .inl nn], t0, n, 0)) rfl (fun _ => rfl) rfl ?_
            by_cases hc74 : nn ≠ 24
            · refine gx_2t (c := .ne) rfl (by first | decide | omega) (by first | decide | omega) hc74 rfl ?_
              refine gx_ld (i := 0) (d := 2) (v := gx_r 383) rfl (fun _ => rfl) l69_0 rfl rfl ?_
              refine ex_go (S := (88, l69, [gx_r 383, gx_r 383], t0, n, 0)) rfl (fun _ => rfl) rfl ?_
              refine gx_get rfl s0.1 rfl s0.2.1 rfl ?_
              refine ex_go (S := (92, l69, [.inl 1, .inl a, gx_r 383], t0, n, 0)) rfl (fun _ => rfl) rfl ?_
              refine ex_iadd rfl (by first | decide | omega) rfl ?_
              refine gx_put rfl s0.1 rfl rfl (ai_in_h (by first | decide | omega) (by first | decide | omega) (by first | decide | omega)) rfl (fun t175 g175 k175 e175 => ?_)
              have k76 : ai_hv t175 383 2 = some (.inl 0) := (e175 383 2 (by first | decide | omega)).trans k2
              have k77 : ai_hv t175 385 a = some (.inl m2) := (e175 385 a (by first | decide | omega)).trans k3
              have s175 : px_S t175 (a + 1) f := ⟨g175, k175, (e175 383 8 (by first | decide | omega)).trans s0.2.2.1, by omega, s0.2.2.2.2⟩
              refine gx_ld (i := 0) (d := 2) (v := gx_r 383) rfl (fun _ => rfl) l69_0 rfl rfl ?_
              refine gx_ref (c := 396) rfl s175.1 rfl rfl rfl rfl ?_
              refine ex_go (S := (102, l69, [.inl 110, gx_r 396], t175, n, 0)) rfl (fun _ => rfl) rfl ?_
              refine ex_go (S := (103, l69, [.inl 4, .inl 110, gx_r 396], t175, n, 0)) rfl (fun _ => rfl) rfl ?_
              refine gx_ld (i := 1) (d := 0) (v := .inl nn) rfl (fun _ => rfl) l69_1 rfl rfl ?_
              refine gx_imul rfl (by first | decide | omega) rfl ?_
              refine ex_iadd rfl (by first | decide | omega) rfl ?_
              refine gx_ld (i := 2) (d := 0) (v := .inl 0) rfl (fun _ => rfl) hl69 rfl rfl ?_
              refine gx_ap rfl (fun _ => rfl) s175.1 rfl rfl rfl (show 110 + (4 * nn) < 210 from by omega) ((gx_run2 (by first | decide | omega)).trans (gx_run1 (show 110 + (4 * nn) < 210 from by omega))) (gx_full (by first | decide | omega)) rfl (fun t178 g178 k178 e178 => ?_)
              have k79 : ai_hv t178 383 2 = some (.inl 0) := (e178 383 2 (by first | decide | omega)).trans k76
              have k80 : ai_hv t178 385 a = some (.inl m2) := (e178 385 a (by first | decide | omega)).trans k77
              have s178 : px_S t178 (a + 1) f := ⟨g178, (e178 383 7 (by first | decide | omega)).trans s175.2.1, (e178 383 8 (by first | decide | omega)).trans s175.2.2.1, s175.2.2.2⟩
              refine gx_ld (i := 0) (d := 2) (v := gx_r 383) rfl (fun _ => rfl) l69_0 rfl rfl ?_
              refine gx_ld (i := 2) (d := 0) (v := .inl 0) rfl (fun _ => rfl) hl69 rfl rfl ?_
              refine ex_go (S := (112, l69, [.inl 111, .inl 0, gx_r 383], t178, n, 0)) rfl (fun _ => rfl) rfl ?_
              refine ex_go (S := (113, l69, [.inl 4, .inl 111, .inl 0, gx_r 383], t178, n, 0)) rfl (fun _ => rfl) rfl ?_
              refine gx_ld (i := 1) (d := 0) (v := .inl nn) rfl (fun _ => rfl) l69_1 rfl rfl ?_
              refine gx_imul rfl (by first | decide | omega) rfl ?_
              refine ex_iadd rfl (by first | decide | omega) rfl ?_
              obtain ⟨_, r181, t181, a181, f181, rfl, s181, e181, qa181, q181⟩ := pk_readWeek d n (s178) (w := 0) (i := 111 + (4 * nn)) (by first | decide | omega) (by first | decide | omega)
              have b181 := s181.2.2.2
              refine gx_call0 rfl rfl s178.1 rfl rfl r181 rfl ?_
              have k82 : ai_hv t181 383 2 = some (.inl 0) := (e181 383 2 (by first | decide | omega)).trans k79
              have k83 : ai_hv t181 385 a = some (.inl m2) := (e181 385 a (by first | decide | omega)).trans k80
              have k84 : ai_hv t181 396 (110 + (4 * nn)) = some (.inl 0) := (e181 396 (110 + (4 * nn)) (by first | decide | omega)).trans k178
              refine gx_incS (i := 1) (a := nn) (x := 1) rfl (fun _ => rfl) l69_1 (by first | decide | omega) rfl (fun l85 hl85 ml85 => ?_)
              have l85_0 : en_ld l85 0 = some (gx_r 383) := ml85 0 _ l69_0 rfl
              have l85_2 : en_ld l85 2 = some (.inl 0) := ml85 2 _ hl69 rfl
              refine gx_ld (i := 0) (d := 2) (v := gx_r 383) rfl (fun _ => rfl) l85_0 rfl rfl ?_
              refine ex_go (S := (125, l85, [.inl 59, gx_r 383], t181, n, 0)) rfl (fun _ => rfl) rfl ?_
              obtain ⟨_, r186, t186, a186, f186, rfl, s186, e186, q186⟩ := pk_takeSign (d + 3) n (s181) (w := 59)
              have b186 := s186.2.2.2
              refine gx_call0 rfl rfl s181.1 rfl rfl r186 rfl ?_
              have k87 : ai_hv t186 383 2 = some (.inl 0) := (e186 383 2 (by first | decide | omega)).trans k82
              have k88 : ai_hv t186 385 a = some (.inl m2) := (e186 385 a (by first | decide | omega)).trans k83
              have k89 : ai_hv t186 396 (110 + (4 * nn)) = some (.inl 0) := (e186 396 (110 + (4 * nn)) (by first | decide | omega)).trans k84
              refine ex_go (S := (11, l85, [], t186, n, 0)) rfl (fun _ => rfl) rfl ?_
              refine ih t186 a186 f186 (nn + 1) _ (fun h9 => ?_) s186 (by first | decide | omega) (fun h9 k hk => ?_) k87 (fun c i h => (e186 c i (by first | decide | omega)).trans ((e181 c i (by first | decide | omega)).trans ((e178 c i (by first | decide | omega)).trans ((e175 c i (by first | decide | omega)).trans (w0 c i h))))) l85_0 hl85
              · have h8 := (q181 (by first | decide | omega)).2.1
                omega
              · obtain ⟨h8, h7, h6⟩ := q181 (by first | decide | omega)
                by_cases e : k < nn
                · exact we_R_kept (hR (by first | decide | omega) k e) (fun j9 hj9 => (e186 396 (110 + 4 * k + j9) (by first | decide | omega)).trans ((e181 396 (110 + 4 * k + j9) (by first | decide | omega)).trans ((e178 396 (110 + 4 * k + j9) (by first | decide | omega)).trans (e175 396 (110 + 4 * k + j9) (by first | decide | omega)))))
                · have ek : k = nn := by omega
                  subst ek
                  rcases h6 with ⟨j1, j2⟩ | ⟨j1, j2, j3, j4⟩ | ⟨j1, j2, j3⟩ | ⟨j1, j2⟩
                  · exact Or.inl ⟨⟨0, k89, by omega, by omega⟩, we_En j2 (by first | decide | omega) (e186 396 (111 + (4 * k)) (by first | decide | omega))⟩
                  · exact Or.inr (Or.inl ⟨⟨0, k89, by omega, by omega⟩, we_En j2 (by first | decide | omega) (e186 396 (111 + (4 * k)) (by first | decide | omega)), we_En j3 (by first | decide | omega) (e186 396 (111 + (4 * k) + 1) (by first | decide | omega)), we_En j4 (by first | decide | omega) (e186 396 (111 + (4 * k) + 2) (by first | decide | omega))⟩)
                  · exact Or.inr (Or.inr (Or.inl ⟨⟨0, k89, by omega, by omega⟩, we_En j2 (by first | decide | omega) (e186 396 (111 + (4 * k)) (by first | decide | omega)), we_En j3 (by first | decide | omega) (e186 396 (111 + (4 * k) + 1) (by first | decide | omega))⟩))
                  · exact Or.inr (Or.inr (Or.inr ⟨⟨0, k89, by omega, by omega⟩, we_En j2 (by first | decide | omega) (e186 396 (111 + (4 * k)) (by first | decide | omega))⟩))
            · refine gx_2f (c := .ne) rfl (by first | decide | omega) (by first | decide | omega) hc74 rfl ?_
              refine gx_ld (i := 0) (d := 2) (v := gx_r 383) rfl (fun _ => rfl) l69_0 rfl rfl ?_
              refine ex_go (S := (80, l69, [.inl 5, gx_r 383], t0, n, 0)) rfl (fun _ => rfl) rfl ?_
              obtain ⟨_, r190, t190, a190, f190, rfl, s190, e190, q190⟩ := pk_wrong (d + 4) n (s0) (w := 5) (by first | decide | omega)
              have b190 := s190.2.2.2
              refine gx_call0 rfl rfl s0.1 rfl rfl r190 rfl ?_
              have k91 : ai_hv t190 383 2 = some (.inl 0) := (e190 383 2 (by first | decide | omega)).trans k2
              have k92 : ai_hv t190 385 a = some (.inl m2) := (e190 385 a (by first | decide | omega)).trans k3
              refine ex_go (S := (122, l69, [], t190, n, 0)) rfl (fun _ => rfl) rfl ?_
              refine gx_ld (i := 0) (d := 2) (v := gx_r 383) rfl (fun _ => rfl) l69_0 rfl rfl ?_
              refine ex_go (S := (125, l69, [.inl 59, gx_r 383], t190, n, 0)) rfl (fun _ => rfl) rfl ?_
              obtain ⟨_, r193, t193, a193, f193, rfl, s193, e193, q193⟩ := pk_takeSign (d + 3) n (s190) (w := 59)
              have b193 := s193.2.2.2
              refine gx_call0 rfl rfl s190.1 rfl rfl r193 rfl ?_
              have k94 : ai_hv t193 383 2 = some (.inl 0) := (e193 383 2 (by first | decide | omega)).trans k91
              have k95 : ai_hv t193 385 a = some (.inl m2) := (e193 385 a (by first | decide | omega)).trans k92
              refine ex_go (S := (11, l69, [], t193, n, 0)) rfl (fun _ => rfl) rfl ?_
              exact ih t193 a193 f193 nn _ (by first | decide | omega) s193 hn (fun h9 => by omega) k94 (fun c i h => (e193 c i (by first | decide | omega)).trans ((e190 c i (by first | decide | omega)).trans (w0 c i h))) l69_0 l69_1
          · refine gx_1f (c := .ne) rfl (by first | decide | omega) hc73 rfl ?_
            refine gx_ld (i := 0) (d := 2) (v := gx_r 383) rfl (fun _ => rfl) l69_0 rfl rfl ?_
            refine ex_go (S := (66, l69, [.inl 1, gx_r 383], t0, n, 0)) rfl (fun _ => rfl) rfl ?_
            obtain ⟨_, r196, t196, a196, f196, rfl, s196, e196, q196⟩ := pk_wrong (d + 4) n (s0) (w := 1) (by first | decide | omega)
            have b196 := s196.2.2.2
            refine gx_call0 rfl rfl s0.1 rfl rfl r196 rfl ?_
            have k97 : ai_hv t196 383 2 = some (.inl 0) := (e196 383 2 (by first | decide | omega)).trans k2
            have k98 : ai_hv t196 385 a = some (.inl m2) := (e196 385 a (by first | decide | omega)).trans k3
            refine ex_go (S := (122, l69, [], t196, n, 0)) rfl (fun _ => rfl) rfl ?_
            refine gx_ld (i := 0) (d := 2) (v := gx_r 383) rfl (fun _ => rfl) l69_0 rfl rfl ?_
            refine ex_go (S := (125, l69, [.inl 59, gx_r 383], t196, n, 0)) rfl (fun _ => rfl) rfl ?_
            obtain ⟨_, r199, t199, a199, f199, rfl, s199, e199, q199⟩ := pk_takeSign (d + 3) n (s196) (w := 59)
            have b199 := s199.2.2.2
            refine gx_call0 rfl rfl s196.1 rfl rfl r199 rfl ?_
            have k100 : ai_hv t199 383 2 = some (.inl 0) := (e199 383 2 (by first | decide | omega)).trans k97
            have k101 : ai_hv t199 385 a = some (.inl m2) := (e199 385 a (by first | decide | omega)).trans k98
            refine ex_go (S := (11, l69, [], t199, n, 0)) rfl (fun _ => rfl) rfl ?_
            exact ih t199 a199 f199 nn _ (by first | decide | omega) s199 hn (fun h9 => by omega) k100 (fun c i h => (e199 c i (by first | decide | omega)).trans ((e196 c i (by first | decide | omega)).trans (w0 c i h))) l69_0 l69_1
theorem pk_weeks (d n : Nat) {t0 : en_H} (g0 : ai_HG ah_G t0) (hE : ai_E t0) : ∃ r, en_u (d + 6) 35 [gx_r 383] t0 n = some r ∧ ∃ v t', r = (some (.inl v), t', n, 0) ∧ v < 4294967296 ∧ ai_HG ah_G t' ∧ ai_E t' ∧ ai_hv t' 383 2 = some (.inl 0) ∧ (∀ c i, ¬ ((c = 383 ∧ i ≠ 18 ∧ i ≠ 26) ∨ c = 385 ∨ c = 386 ∨ c = 387 ∨ c = 396) → ai_hv t' c i = ai_hv t0 c i) := by
  obtain ⟨a, ka, -, ha⟩ := gx_in (c := 383) (i := 7) (lo := 0) (hi := 1000) g0 rfl rfl rfl rfl
  obtain ⟨f, kf, -, hf⟩ := gx_in (c := 383) (i := 8) (lo := 0) (hi := 20000) g0 rfl rfl rfl rfl
  have s0 : px_S t0 a f := ⟨g0, ka, kf, ha, hf⟩
  refine en_u_ex (d := d + 5) rfl ?_
  show en_ex _ _ _ _ (0, [(0, gx_r 383)], [], t0, n, 0) _
  refine ex_go (S := (1, [(0, gx_r 383)], [gx_r 383], t0, n, 0)) rfl (fun _ => rfl) rfl ?_
  refine ex_go (S := (2, [(0, gx_r 383)], [.inl 0, gx_r 383], t0, n, 0)) rfl (fun _ => rfl) rfl ?_
  refine gx_put rfl s0.1 rfl rfl (ai_in_h (by first | decide | omega) (by first | decide | omega) (by first | decide | omega)) rfl (fun t101 g101 k101 e101 => ?_)
  have s101 : px_S t101 a f := ⟨g101, (e101 383 7 (by first | decide | omega)).trans s0.2.1, (e101 383 8 (by first | decide | omega)).trans s0.2.2.1, s0.2.2.2⟩
  refine ex_go (S := (6, [(0, gx_r 383)], [gx_r 383], t101, n, 0)) rfl (fun _ => rfl) rfl ?_
  obtain ⟨_, r102, t102, rfl, s102, k102, e102⟩ := pk_cutAll (d + 2) n s101.1
  refine gx_call0 rfl rfl s101.1 rfl rfl r102 rfl ?_
  refine ex_go (S := (10, [(0, gx_r 383)], [.inl 0], t102, n, 0)) rfl (fun _ => rfl) rfl ?_
  refine ex_go (S := (11, [(1, .inl 0), (0, gx_r 383)], [], t102, n, 0)) rfl (fun _ => rfl) rfl ?_
  exact we_l d n hE 1000 t102 0 0 0 _ (by first | decide | omega) s102 (by first | decide | omega) (fun h9 k hk => by omega) k102 (fun c i h => (e102 c i (by first | decide | omega)).trans (e101 c i (by first | decide | omega))) rfl rfl
end PKA
