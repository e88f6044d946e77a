section SPO
variable {S : Nat → Nat} {m N fh : Nat}
def pe_C (S : Nat → Nat) (m N fh d mi y e : Nat) : Prop := ∀ (n : Nat) (t : en_H) (a f c : Nat), px_S t a f → rT t S m N → a ≤ N → ai_hv t 383 13 = some (.inl c) → c ≤ a → ai_hv t 383 21 = some (.inl fh) → ∃ r, en_u d mi [gx_r 383, .inl e] t n = some r ∧ ∃ t' a' f' c', r = (none, t', n, 0) ∧ px_X t a f c t' a' f' c' ∧ Ev S m N fh y e (a, f) (a', f') ∧ a' ≤ N
theorem Ev_at {y e : Nat} {p p' q : Nat × Nat} (h : Ev S m N fh y e p q) (e1 : p.1 = p'.1) (e2 : p.2 = p'.2) : Ev S m N fh y e p' q := by
  have e3 : p = p' := Prod.ext e1 e2
  rw [← e3]; exact h
theorem Ev_to {y e : Nat} {p q q' : Nat × Nat} (h : Ev S m N fh y e p q) (e1 : q.1 = q'.1) (e2 : q.2 = q'.2) : Ev S m N fh y e p q' := by
  have e3 : q = q' := Prod.ext e1 e2
  rw [← e3]; exact h
theorem Ev_seq {y e a f : Nat} {q r : Nat × Nat} (hy : y < 4) (h1 : Ev S m N fh (y + 1) e (a, f) q) (h2 : Ev S m N fh (y + 5) e q r) : Ev S m N fh y e (a, f) r := by
  by_cases c : f = 0
  · subst c; exact Ev_lv hy h1 h2
  · have e1 := Ev_det h1 (Ev_no c)
    subst e1
    have e2 := Ev_det h2 (Ev_no c)
    subst e2
    exact Ev_no c
theorem Ev_exit {y e a f : Nat} (hy : 5 ≤ y) (h : f = 0 → ¬ sp_op S m N (y - 5) a) : Ev S m N fh y e (a, f) (a, f) := by
  by_cases c : f = 0
  · subst c; exact Ev_stop hy (h rfl)
  · exact Ev_no c
theorem sp_op_0 {a : Nat} : sp_op S m N 0 a ↔ (sp_wd S m N a 36 ∨ sp_wd S m N a 37) := by
  unfold sp_op
  constructor
  · rintro (⟨_, h⟩ | ⟨h, _⟩ | ⟨h, _⟩ | ⟨h, _⟩)
    · exact h
    · cases h
    · cases h
    · cases h
  · intro h; exact Or.inl ⟨rfl, h⟩
theorem sp_op_1 {a : Nat} : sp_op S m N 1 a ↔ (sp_sg S m N a 60 ∨ sp_sg S m N a 61) := by
  unfold sp_op
  constructor
  · rintro (⟨h, _⟩ | ⟨_, h⟩ | ⟨h, _⟩ | ⟨h, _⟩)
    · cases h
    · exact h
    · cases h
    · cases h
  · intro h; exact Or.inr (Or.inl ⟨rfl, h⟩)
theorem sp_op_2 {a : Nat} : sp_op S m N 2 a ↔ (sp_sg S m N a 43 ∨ sp_sg S m N a 45) := by
  unfold sp_op
  constructor
  · rintro (⟨h, _⟩ | ⟨h, _⟩ | ⟨_, h⟩ | ⟨h, _⟩)
    · cases h
    · cases h
    · exact h
    · cases h
  · intro h; exact Or.inr (Or.inr (Or.inl ⟨rfl, h⟩))
theorem sp_op_3 {a : Nat} : sp_op S m N 3 a ↔ sp_sg S m N a 42 := by
  unfold sp_op
  constructor
  · rintro (⟨h, _⟩ | ⟨h, _⟩ | ⟨h, _⟩ | ⟨_, h⟩)
    · cases h
    · cases h
    · cases h
    · exact h
  · intro h; exact Or.inr (Or.inr (Or.inr ⟨rfl, h⟩))
theorem gx_bit {b : Nat} (h1 : fh < 16) (h2 : b < 4) : (nI (nI fh >>> (nI b &&& 31)).toBitVec.toNat &&& nI 1).toBitVec.toNat = (fh >>> b) % 2 := by
  have h : (List.range 16).all (fun fh => (List.range 4).all (fun b => (nI (nI fh >>> (nI b &&& 31)).toBitVec.toNat &&& nI 1).toBitVec.toNat == (fh >>> b) % 2)) = true := by decide +kernel
  exact eq_of_beq (List.all_eq_true.mp (List.all_eq_true.mp h fh (List.mem_range.mpr h1)) b (List.mem_range.mpr h2))
theorem pe_products_l {l e : Nat} (h : ∀ d, pe_C S m N fh (d + l + 3) 288 4 e) (he : e ≤ 5) (d n : Nat) {tb : en_H} {ab fb cb : Nat} (hcb : cb ≤ ab) : ∀ j t0 a f c lx, (lx = [] ∨ ∃ b, b ≤ 1 ∧ lx = [(2, .inl b)]) → 1000 ≤ a + j → px_X tb ab fb cb t0 a f c → rT t0 S m N → a ≤ N → ai_hv t0 383 21 = some (.inl fh) → en_ex none (en_u (d + l + 3)) (en_code 286) (fun _ => false) (5, lx ++ [(0, gx_r 383), (1, .inl e)], [], t0, n, 0) (fun o => ∃ r, o = .inl r ∧ ∃ t' a' f' c', r = (none, t', n, 0) ∧ px_X tb ab fb cb t' a' f' c' ∧ Ev S m N fh 8 e (a, f) (a', f') ∧ a' ≤ N) := by
  intro j
  induction j with
  | zero =>
    intro t0 a f c lx hlx hj hx hT ha kf
    have s0 := hx.1
    have kc := hx.2.2.1
    have q0 := hx.2.2.2.1
    have b0 := s0.2.2.2
    have hN := hT.2.2.2.2.1
    rcases hlx with rfl | ⟨bx, hbx, rfl⟩
    · show en_ex _ _ _ _ (5, [(0, gx_r 383), (1, .inl e)], [], t0, n, 0) _
      refine ex_go (S := (6, [(0, gx_r 383), (1, .inl e)], [gx_r 383], t0, n, 0)) rfl (fun _ => rfl) rfl ?_
      refine ex_go (S := (8, [(0, gx_r 383), (1, .inl e)], [.inl 42, gx_r 383], t0, n, 0)) rfl (fun _ => rfl) rfl ?_
      obtain ⟨_, r101, v101, t101, a101, f101, rfl, s101, e101, q101⟩ := pe_hasSign (d + l + 1) n (s0) hT (by omega) (w := 42) (by omega)
      have b101 := s101.2.2.2
      have hlq101 : v101 = 1 → a < N := fun z => (q101.2.mp z).2.1
      refine gx_call1 rfl rfl s0.1 rfl rfl r101 rfl ?_
      have k2 : ai_hv t101 383 13 = some (.inl c) := (e101 383 13 (by omega)).trans kc
      have k3 : ai_hv t101 383 21 = some (.inl fh) := (e101 383 21 (by omega)).trans kf
      by_cases hc4 : v101 = 0
      · refine gx_1t (c := .eq) rfl (by omega) hc4 rfl ?_
        refine ex_ret (r := (none, t101, n, 0)) rfl (fun _ => rfl) ?_
        have hno : f = 0 → ¬ sp_op S m N 3 a := fun hf z => absurd (q101.2.mpr ⟨hf, sp_op_3.mp z⟩) (by omega)
        exact ⟨_, rfl, t101, a101, f101, c, rfl, px_X_same hx (fun c i h => e101 c i (by omega)) s101 (by omega) (by omega), Ev_to (Ev_exit (by omega) hno) (by show a = a101; omega) (by show f = f101; omega), by omega⟩
      · refine gx_1f (c := .eq) rfl (by omega) hc4 rfl ?_
        refine ex_go (S := (15, [(0, gx_r 383), (1, .inl e)], [gx_r 383], t101, n, 0)) rfl (fun _ => rfl) rfl ?_
        refine ex_go (S := (16, [(0, gx_r 383), (1, .inl e)], [.inl e, gx_r 383], t101, n, 0)) rfl (fun _ => rfl) rfl ?_
        have hT6 := rT_keep (t' := t101) hT (fun c i h => e101 c i (by omega))
        obtain ⟨_, r105, t105, a105, f105, c105, rfl, x105, w105, wa105⟩ := h d n _ _ _ _ s101 hT6 (by omega) k2 (by omega) k3
        have s105 := x105.1
        have e105 := x105.2.1
        have k105 := x105.2.2.1
        have q105 := x105.2.2.2.1
        have b105 := s105.2.2.2
        refine gx_call0 rfl rfl s101.1 rfl rfl r105 rfl ?_
        have k7 : ai_hv t105 383 21 = some (.inl fh) := (e105 383 21 (by omega)).trans k3
        refine ex_go (S := (20, [(0, gx_r 383), (1, .inl e)], [gx_r 383], t105, n, 0)) rfl (fun _ => rfl) rfl ?_
        refine ex_go (S := (22, [(0, gx_r 383), (1, .inl e)], [.inl 6, gx_r 383], t105, n, 0)) rfl (fun _ => rfl) rfl ?_
        refine ex_go (S := (23, [(0, gx_r 383), (1, .inl e)], [.inl 0, .inl 6, gx_r 383], t105, n, 0)) rfl (fun _ => rfl) rfl ?_
        obtain ⟨_, r108, t108, rfl, s108, e108, k108, ko108, kz108⟩ := pk_emit (d + l + 2) n (s105) (o := 6) (z := 0) (by omega) (by omega) (by omega) k105
        have b108 := s108.2.2.2
        refine gx_call0 rfl rfl s105.1 rfl rfl r108 rfl ?_
        have k9 : ai_hv t108 383 21 = some (.inl fh) := (e108 383 21 (by omega)).trans k7
        refine ex_go (S := (5, [(0, gx_r 383), (1, .inl e)], [], t108, n, 0)) rfl (fun _ => rfl) rfl ?_
        exfalso; omega
    · show en_ex _ _ _ _ (5, [(2, .inl bx), (0, gx_r 383), (1, .inl e)], [], t0, n, 0) _
      refine ex_go (S := (6, [(2, .inl bx), (0, gx_r 383), (1, .inl e)], [gx_r 383], t0, n, 0)) rfl (fun _ => rfl) rfl ?_
      refine ex_go (S := (8, [(2, .inl bx), (0, gx_r 383), (1, .inl e)], [.inl 42, gx_r 383], t0, n, 0)) rfl (fun _ => rfl) rfl ?_
      obtain ⟨_, r101, v101, t101, a101, f101, rfl, s101, e101, q101⟩ := pe_hasSign (d + l + 1) n (s0) hT (by omega) (w := 42) (by omega)
      have b101 := s101.2.2.2
      have hlq101 : v101 = 1 → a < N := fun z => (q101.2.mp z).2.1
      refine gx_call1 rfl rfl s0.1 rfl rfl r101 rfl ?_
      have k2 : ai_hv t101 383 13 = some (.inl c) := (e101 383 13 (by omega)).trans kc
      have k3 : ai_hv t101 383 21 = some (.inl fh) := (e101 383 21 (by omega)).trans kf
      by_cases hc4 : v101 = 0
      · refine gx_1t (c := .eq) rfl (by omega) hc4 rfl ?_
        refine ex_ret (r := (none, t101, n, 0)) rfl (fun _ => rfl) ?_
        have hno : f = 0 → ¬ sp_op S m N 3 a := fun hf z => absurd (q101.2.mpr ⟨hf, sp_op_3.mp z⟩) (by omega)
        exact ⟨_, rfl, t101, a101, f101, c, rfl, px_X_same hx (fun c i h => e101 c i (by omega)) s101 (by omega) (by omega), Ev_to (Ev_exit (by omega) hno) (by show a = a101; omega) (by show f = f101; omega), by omega⟩
      · refine gx_1f (c := .eq) rfl (by omega) hc4 rfl ?_
        refine ex_go (S := (15, [(2, .inl bx), (0, gx_r 383), (1, .inl e)], [gx_r 383], t101, n, 0)) rfl (fun _ => rfl) rfl ?_
        refine ex_go (S := (16, [(2, .inl bx), (0, gx_r 383), (1, .inl e)], [.inl e, gx_r 383], t101, n, 0)) rfl (fun _ => rfl) rfl ?_
        have hT6 := rT_keep (t' := t101) hT (fun c i h => e101 c i (by omega))
        obtain ⟨_, r105, t105, a105, f105, c105, rfl, x105, w105, wa105⟩ := h d n _ _ _ _ s101 hT6 (by omega) k2 (by omega) k3
        have s105 := x105.1
        have e105 := x105.2.1
        have k105 := x105.2.2.1
        have q105 := x105.2.2.2.1
        have b105 := s105.2.2.2
        refine gx_call0 rfl rfl s101.1 rfl rfl r105 rfl ?_
        have k7 : ai_hv t105 383 21 = some (.inl fh) := (e105 383 21 (by omega)).trans k3
        refine ex_go (S := (20, [(2, .inl bx), (0, gx_r 383), (1, .inl e)], [gx_r 383], t105, n, 0)) rfl (fun _ => rfl) rfl ?_
        refine ex_go (S := (22, [(2, .inl bx), (0, gx_r 383), (1, .inl e)], [.inl 6, gx_r 383], t105, n, 0)) rfl (fun _ => rfl) rfl ?_
        refine ex_go (S := (23, [(2, .inl bx), (0, gx_r 383), (1, .inl e)], [.inl 0, .inl 6, gx_r 383], t105, n, 0)) rfl (fun _ => rfl) rfl ?_
        obtain ⟨_, r108, t108, rfl, s108, e108, k108, ko108, kz108⟩ := pk_emit (d + l + 2) n (s105) (o := 6) (z := 0) (by omega) (by omega) (by omega) k105
        have b108 := s108.2.2.2
        refine gx_call0 rfl rfl s105.1 rfl rfl r108 rfl ?_
        have k9 : ai_hv t108 383 21 = some (.inl fh) := (e108 383 21 (by omega)).trans k7
        refine ex_go (S := (5, [(2, .inl bx), (0, gx_r 383), (1, .inl e)], [], t108, n, 0)) rfl (fun _ => rfl) rfl ?_
        exfalso; omega
  | succ j ih =>
    intro t0 a f c lx hlx hj hx hT ha kf
    have s0 := hx.1
    have kc := hx.2.2.1
    have q0 := hx.2.2.2.1
    have b0 := s0.2.2.2
    have hN := hT.2.2.2.2.1
    rcases hlx with rfl | ⟨bx, hbx, rfl⟩
    · show en_ex _ _ _ _ (5, [(0, gx_r 383), (1, .inl e)], [], t0, n, 0) _
      refine ex_go (S := (6, [(0, gx_r 383), (1, .inl e)], [gx_r 383], t0, n, 0)) rfl (fun _ => rfl) rfl ?_
      refine ex_go (S := (8, [(0, gx_r 383), (1, .inl e)], [.inl 42, gx_r 383], t0, n, 0)) rfl (fun _ => rfl) rfl ?_
      obtain ⟨_, r101, v101, t101, a101, f101, rfl, s101, e101, q101⟩ := pe_hasSign (d + l + 1) n (s0) hT (by omega) (w := 42) (by omega)
      have b101 := s101.2.2.2
      have hlq101 : v101 = 1 → a < N := fun z => (q101.2.mp z).2.1
      refine gx_call1 rfl rfl s0.1 rfl rfl r101 rfl ?_
      have k2 : ai_hv t101 383 13 = some (.inl c) := (e101 383 13 (by omega)).trans kc
      have k3 : ai_hv t101 383 21 = some (.inl fh) := (e101 383 21 (by omega)).trans kf
      by_cases hc4 : v101 = 0
      · refine gx_1t (c := .eq) rfl (by omega) hc4 rfl ?_
        refine ex_ret (r := (none, t101, n, 0)) rfl (fun _ => rfl) ?_
        have hno : f = 0 → ¬ sp_op S m N 3 a := fun hf z => absurd (q101.2.mpr ⟨hf, sp_op_3.mp z⟩) (by omega)
        exact ⟨_, rfl, t101, a101, f101, c, rfl, px_X_same hx (fun c i h => e101 c i (by omega)) s101 (by omega) (by omega), Ev_to (Ev_exit (by omega) hno) (by show a = a101; omega) (by show f = f101; omega), by omega⟩
      · refine gx_1f (c := .eq) rfl (by omega) hc4 rfl ?_
        refine ex_go (S := (15, [(0, gx_r 383), (1, .inl e)], [gx_r 383], t101, n, 0)) rfl (fun _ => rfl) rfl ?_
        refine ex_go (S := (16, [(0, gx_r 383), (1, .inl e)], [.inl e, gx_r 383], t101, n, 0)) rfl (fun _ => rfl) rfl ?_
        have hT6 := rT_keep (t' := t101) hT (fun c i h => e101 c i (by omega))
        obtain ⟨_, r105, t105, a105, f105, c105, rfl, x105, w105, wa105⟩ := h d n _ _ _ _ s101 hT6 (by omega) k2 (by omega) k3
        have s105 := x105.1
        have e105 := x105.2.1
        have k105 := x105.2.2.1
        have q105 := x105.2.2.2.1
        have b105 := s105.2.2.2
        refine gx_call0 rfl rfl s101.1 rfl rfl r105 rfl ?_
        have k7 : ai_hv t105 383 21 = some (.inl fh) := (e105 383 21 (by omega)).trans k3
        refine ex_go (S := (20, [(0, gx_r 383), (1, .inl e)], [gx_r 383], t105, n, 0)) rfl (fun _ => rfl) rfl ?_
        refine ex_go (S := (22, [(0, gx_r 383), (1, .inl e)], [.inl 6, gx_r 383], t105, n, 0)) rfl (fun _ => rfl) rfl ?_
        refine ex_go (S := (23, [(0, gx_r 383), (1, .inl e)], [.inl 0, .inl 6, gx_r 383], t105, n, 0)) rfl (fun _ => rfl) rfl ?_
        obtain ⟨_, r108, t108, rfl, s108, e108, k108, ko108, kz108⟩ := pk_emit (d + l + 2) n (s105) (o := 6) (z := 0) (by omega) (by omega) (by omega) k105
        have b108 := s108.2.2.2
        refine gx_call0 rfl rfl s105.1 rfl rfl r108 rfl ?_
        have k9 : ai_hv t108 383 21 = some (.inl fh) := (e108 383 21 (by omega)).trans k7
        refine ex_go (S := (5, [(0, gx_r 383), (1, .inl e)], [], t108, n, 0)) rfl (fun _ => rfl) rfl ?_
        have hpf : f = 0 := by have := (q101.2.mp (by omega)).1; omega
        have hop : sp_op S m N 3 a := sp_op_3.mpr (q101.2.mp (by omega)).2
        have w9 : Ev S m N fh 4 e (a + 1, 0) (a105, f105) := Ev_at w105 (by show a101 = a + 1; omega) (by show f101 = 0; omega)
        subst hpf
        have hT10 := rT_keep (t' := t108) hT (fun c i h => (e108 c i (by omega)).trans ((e105 c i (by omega)).trans (e101 c i (by omega))))
        refine ex_imp (fun o9 h9 => ?_) (ih t108 a105 f105 (c105 + 1) [] (Or.inl rfl) (by omega) (px_X_bin hx rfl (by omega) (fun c i h => e101 c i (by omega)) x105 (by omega) s108 e108 k108 ko108 kz108) hT10 (by omega) k9)
        obtain ⟨r9, g0, t9, a9, f9, c9, g1, g2, g3, g4⟩ := h9
        exact ⟨r9, g0, t9, a9, f9, c9, g1, g2, Ev_more (by omega) (by omega) hop w9 g3, g4⟩
    · show en_ex _ _ _ _ (5, [(2, .inl bx), (0, gx_r 383), (1, .inl e)], [], t0, n, 0) _
      refine ex_go (S := (6, [(2, .inl bx), (0, gx_r 383), (1, .inl e)], [gx_r 383], t0, n, 0)) rfl (fun _ => rfl) rfl ?_
      refine ex_go (S := (8, [(2, .inl bx), (0, gx_r 383), (1, .inl e)], [.inl 42, gx_r 383], t0, n, 0)) rfl (fun _ => rfl) rfl ?_
      obtain ⟨_, r101, v101, t101, a101, f101, rfl, s101, e101, q101⟩ := pe_hasSign (d + l + 1) n (s0) hT (by omega) (w := 42) (by omega)
      have b101 := s101.2.2.2
      have hlq101 : v101 = 1 → a < N := fun z => (q101.2.mp z).2.1
      refine gx_call1 rfl rfl s0.1 rfl rfl r101 rfl ?_
      have k2 : ai_hv t101 383 13 = some (.inl c) := (e101 383 13 (by omega)).trans kc
      have k3 : ai_hv t101 383 21 = some (.inl fh) := (e101 383 21 (by omega)).trans kf
      by_cases hc4 : v101 = 0
      · refine gx_1t (c := .eq) rfl (by omega) hc4 rfl ?_
        refine ex_ret (r := (none, t101, n, 0)) rfl (fun _ => rfl) ?_
        have hno : f = 0 → ¬ sp_op S m N 3 a := fun hf z => absurd (q101.2.mpr ⟨hf, sp_op_3.mp z⟩) (by omega)
        exact ⟨_, rfl, t101, a101, f101, c, rfl, px_X_same hx (fun c i h => e101 c i (by omega)) s101 (by omega) (by omega), Ev_to (Ev_exit (by omega) hno) (by show a = a101; omega) (by show f = f101; omega), by omega⟩
      · refine gx_1f (c := .eq) rfl (by omega) hc4 rfl ?_
        refine ex_go (S := (15, [(2, .inl bx), (0, gx_r 383), (1, .inl e)], [gx_r 383], t101, n, 0)) rfl (fun _ => rfl) rfl ?_
        refine ex_go (S := (16, [(2, .inl bx), (0, gx_r 383), (1, .inl e)], [.inl e, gx_r 383], t101, n, 0)) rfl (fun _ => rfl) rfl ?_
        have hT6 := rT_keep (t' := t101) hT (fun c i h => e101 c i (by omega))
        obtain ⟨_, r105, t105, a105, f105, c105, rfl, x105, w105, wa105⟩ := h d n _ _ _ _ s101 hT6 (by omega) k2 (by omega) k3
        have s105 := x105.1
        have e105 := x105.2.1
        have k105 := x105.2.2.1
        have q105 := x105.2.2.2.1
        have b105 := s105.2.2.2
        refine gx_call0 rfl rfl s101.1 rfl rfl r105 rfl ?_
        have k7 : ai_hv t105 383 21 = some (.inl fh) := (e105 383 21 (by omega)).trans k3
        refine ex_go (S := (20, [(2, .inl bx), (0, gx_r 383), (1, .inl e)], [gx_r 383], t105, n, 0)) rfl (fun _ => rfl) rfl ?_
        refine ex_go (S := (22, [(2, .inl bx), (0, gx_r 383), (1, .inl e)], [.inl 6, gx_r 383], t105, n, 0)) rfl (fun _ => rfl) rfl ?_
        refine ex_go (S := (23, [(2, .inl bx), (0, gx_r 383), (1, .inl e)], [.inl 0, .inl 6, gx_r 383], t105, n, 0)) rfl (fun _ => rfl) rfl ?_
        obtain ⟨_, r108, t108, rfl, s108, e108, k108, ko108, kz108⟩ := pk_emit (d + l + 2) n (s105) (o := 6) (z := 0) (by omega) (by omega) (by omega) k105
        have b108 := s108.2.2.2
        refine gx_call0 rfl rfl s105.1 rfl rfl r108 rfl ?_
        have k9 : ai_hv t108 383 21 = some (.inl fh) := (e108 383 21 (by omega)).trans k7
        refine ex_go (S := (5, [(2, .inl bx), (0, gx_r 383), (1, .inl e)], [], t108, n, 0)) rfl (fun _ => rfl) rfl ?_
        have hpf : f = 0 := by have := (q101.2.mp (by omega)).1; omega
        have hop : sp_op S m N 3 a := sp_op_3.mpr (q101.2.mp (by omega)).2
        have w9 : Ev S m N fh 4 e (a + 1, 0) (a105, f105) := Ev_at w105 (by show a101 = a + 1; omega) (by show f101 = 0; omega)
        subst hpf
        have hT10 := rT_keep (t' := t108) hT (fun c i h => (e108 c i (by omega)).trans ((e105 c i (by omega)).trans (e101 c i (by omega))))
        refine ex_imp (fun o9 h9 => ?_) (ih t108 a105 f105 (c105 + 1) [(2, .inl bx)] (Or.inr ⟨bx, by omega, rfl⟩) (by omega) (px_X_bin hx rfl (by omega) (fun c i h => e101 c i (by omega)) x105 (by omega) s108 e108 k108 ko108 kz108) hT10 (by omega) k9)
        obtain ⟨r9, g0, t9, a9, f9, c9, g1, g2, g3, g4⟩ := h9
        exact ⟨r9, g0, t9, a9, f9, c9, g1, g2, Ev_more (by omega) (by omega) hop w9 g3, g4⟩
theorem pe_products {l e : Nat} (h : ∀ d, pe_C S m N fh (d + l + 3) 288 4 e) (he : e ≤ 5) (d : Nat) : pe_C S m N fh (d + l + 4) 286 3 e := by
  intro n t0 a f c s0 hT ha kc hca kf
  have b0 := s0.2.2.2
  have hN := hT.2.2.2.2.1
  refine en_u_ex (d := d + l + 3) rfl ?_
  show en_ex _ _ _ _ (0, [(0, gx_r 383), (1, .inl e)], [], t0, n, 0) _
  refine ex_go (S := (1, [(0, gx_r 383), (1, .inl e)], [gx_r 383], t0, n, 0)) rfl (fun _ => rfl) rfl ?_
  refine ex_go (S := (2, [(0, gx_r 383), (1, .inl e)], [.inl e, gx_r 383], t0, n, 0)) rfl (fun _ => rfl) rfl ?_
  obtain ⟨_, r101, t101, a101, f101, c101, rfl, x101, w101, wa101⟩ := h d n _ _ _ _ s0 hT (by omega) kc (by omega) kf
  have s101 := x101.1
  have e101 := x101.2.1
  have k101 := x101.2.2.1
  have q101 := x101.2.2.2.1
  have b101 := s101.2.2.2
  refine gx_call0 rfl rfl s0.1 rfl rfl r101 rfl ?_
  have k2 : ai_hv t101 383 21 = some (.inl fh) := (e101 383 21 (by omega)).trans kf
  have hT3 := rT_keep (t' := t101) hT (fun c i h => e101 c i (by omega))
  refine ex_imp (fun o9 h9 => ?_) (pe_products_l h he d n hca 1000 t101 a101 f101 c101 [] (Or.inl rfl) (by omega) x101 hT3 (by omega) k2)
  obtain ⟨r9, g0, t9, a9, f9, c9, g1, g2, g3, g4⟩ := h9
  exact ⟨r9, g0, t9, a9, f9, c9, g1, g2, Ev_seq (by omega) w101 g3, g4⟩
theorem pe_sums_l {l e : Nat} (h : ∀ d, pe_C S m N fh (d + l + 4) 286 3 e) (he : e ≤ 5) (d n : Nat) {tb : en_H} {ab fb cb : Nat} (hcb : cb ≤ ab) : ∀ j t0 a f c lx, (lx = [] ∨ ∃ b, b ≤ 1 ∧ lx = [(2, .inl b)]) → 1000 ≤ a + j → px_X tb ab fb cb t0 a f c → rT t0 S m N → a ≤ N → ai_hv t0 383 21 = some (.inl fh) → en_ex none (en_u (d + l + 4)) (en_code 282) (fun _ => false) (5, lx ++ [(0, gx_r 383), (1, .inl e)], [], t0, n, 0) (fun o => ∃ r, o = .inl r ∧ ∃ t' a' f' c', r = (none, t', n, 0) ∧ px_X tb ab fb cb t' a' f' c' ∧ Ev S m N fh 7 e (a, f) (a', f') ∧ a' ≤ N) := by
  intro j
  induction j with
  | zero =>
    intro t0 a f c lx hlx hj hx hT ha kf
    have s0 := hx.1
    have kc := hx.2.2.1
    have q0 := hx.2.2.2.1
    have b0 := s0.2.2.2
    have hN := hT.2.2.2.2.1
    rcases hlx with rfl | ⟨bx, hbx, rfl⟩
    · show en_ex _ _ _ _ (5, [(0, gx_r 383), (1, .inl e)], [], t0, n, 0) _
      refine ex_go (S := (6, [(0, gx_r 383), (1, .inl e)], [gx_r 383], t0, n, 0)) rfl (fun _ => rfl) rfl ?_
      refine ex_go (S := (8, [(0, gx_r 383), (1, .inl e)], [.inl 43, gx_r 383], t0, n, 0)) rfl (fun _ => rfl) rfl ?_
      obtain ⟨_, r3, b1, rfl, q2⟩ := pe_isSign (d + l + 3) n (s0) hT (by omega) (w := 43) (by omega)
      refine gx_call1 rfl rfl s0.1 rfl rfl r3 rfl ?_
      have hlq2 : b1 = 1 → a < N := fun z => (q2.2.mp z).2.1
      by_cases hc4 : b1 ≠ 0
      · refine gx_1t (c := .ne) rfl (by omega) hc4 rfl ?_
        refine ex_go (S := (24, [(0, gx_r 383), (1, .inl e)], [gx_r 383], t0, n, 0)) rfl (fun _ => rfl) rfl ?_
        refine ex_go (S := (26, [(0, gx_r 383), (1, .inl e)], [.inl 43, gx_r 383], t0, n, 0)) rfl (fun _ => rfl) rfl ?_
        obtain ⟨_, r7, b5, rfl, q6⟩ := pe_isSign (d + l + 3) n (s0) hT (by omega) (w := 43) (by omega)
        refine gx_call1 rfl rfl s0.1 rfl rfl r7 rfl ?_
        have hlq6 : b5 = 1 → a < N := fun z => (q6.2.mp z).2.1
        refine ex_go (S := (30, [(2, .inl b5), (0, gx_r 383), (1, .inl e)], [], t0, n, 0)) rfl (fun _ => rfl) rfl ?_
        refine ex_go (S := (31, [(2, .inl b5), (0, gx_r 383), (1, .inl e)], [gx_r 383], t0, n, 0)) rfl (fun _ => rfl) rfl ?_
        refine ex_go (S := (32, [(2, .inl b5), (0, gx_r 383), (1, .inl e)], [gx_r 383, gx_r 383], t0, n, 0)) rfl (fun _ => rfl) rfl ?_
        refine gx_get rfl s0.1 rfl s0.2.1 rfl ?_
        refine ex_go (S := (36, [(2, .inl b5), (0, gx_r 383), (1, .inl e)], [.inl 1, .inl a, gx_r 383], t0, n, 0)) rfl (fun _ => rfl) rfl ?_
        refine ex_iadd rfl (by omega) rfl ?_
        refine gx_put rfl s0.1 rfl rfl (ai_in_h (by omega) (by omega) (by omega)) rfl (fun t108 g108 k108 e108 => ?_)
        have k9 : ai_hv t108 383 13 = some (.inl c) := (e108 383 13 (by omega)).trans kc
        have k10 : ai_hv t108 383 21 = some (.inl fh) := (e108 383 21 (by omega)).trans kf
        have s108 : px_S t108 (a + 1) f := ⟨g108, k108, (e108 383 8 (by omega)).trans s0.2.2.1, by omega, s0.2.2.2.2⟩
        refine ex_go (S := (41, [(2, .inl b5), (0, gx_r 383), (1, .inl e)], [gx_r 383], t108, n, 0)) rfl (fun _ => rfl) rfl ?_
        refine ex_go (S := (42, [(2, .inl b5), (0, gx_r 383), (1, .inl e)], [.inl e, gx_r 383], t108, n, 0)) rfl (fun _ => rfl) rfl ?_
        have hT12 := rT_keep (t' := t108) hT (fun c i h => e108 c i (by omega))
        obtain ⟨_, r111, t111, a111, f111, c111, rfl, x111, w111, wa111⟩ := h d n _ _ _ _ s108 hT12 (by omega) k9 (by omega) k10
        have s111 := x111.1
        have e111 := x111.2.1
        have k111 := x111.2.2.1
        have q111 := x111.2.2.2.1
        have b111 := s111.2.2.2
        refine gx_call0 rfl rfl s108.1 rfl rfl r111 rfl ?_
        have k13 : ai_hv t111 383 21 = some (.inl fh) := (e111 383 21 (by omega)).trans k10
        refine ex_go (S := (46, [(2, .inl b5), (0, gx_r 383), (1, .inl e)], [gx_r 383], t111, n, 0)) rfl (fun _ => rfl) rfl ?_
        refine ex_go (S := (47, [(2, .inl b5), (0, gx_r 383), (1, .inl e)], [.inl b5, gx_r 383], t111, n, 0)) rfl (fun _ => rfl) rfl ?_
        by_cases hc14 : b5 = 0
        · refine gx_1t (c := .eq) rfl (by omega) hc14 rfl ?_
          refine ex_go (S := (55, [(2, .inl b5), (0, gx_r 383), (1, .inl e)], [.inl 5, gx_r 383], t111, n, 0)) rfl (fun _ => rfl) rfl ?_
          refine ex_go (S := (56, [(2, .inl b5), (0, gx_r 383), (1, .inl e)], [.inl 0, .inl 5, gx_r 383], t111, n, 0)) rfl (fun _ => rfl) rfl ?_
          obtain ⟨_, r115, t115, rfl, s115, e115, k115, ko115, kz115⟩ := pk_emit (d + l + 3) n (s111) (o := 5) (z := 0) (by omega) (by omega) (by omega) k111
          have b115 := s115.2.2.2
          refine gx_call0 rfl rfl s111.1 rfl rfl r115 rfl ?_
          have k16 : ai_hv t115 383 21 = some (.inl fh) := (e115 383 21 (by omega)).trans k13
          refine ex_go (S := (5, [(2, .inl b5), (0, gx_r 383), (1, .inl e)], [], t115, n, 0)) rfl (fun _ => rfl) rfl ?_
          exfalso; omega
        · refine gx_1f (c := .eq) rfl (by omega) hc14 rfl ?_
          refine ex_go (S := (51, [(2, .inl b5), (0, gx_r 383), (1, .inl e)], [.inl 4, gx_r 383], t111, n, 0)) rfl (fun _ => rfl) rfl ?_
          refine ex_go (S := (55, [(2, .inl b5), (0, gx_r 383), (1, .inl e)], [.inl 4, gx_r 383], t111, n, 0)) rfl (fun _ => rfl) rfl ?_
          refine ex_go (S := (56, [(2, .inl b5), (0, gx_r 383), (1, .inl e)], [.inl 0, .inl 4, gx_r 383], t111, n, 0)) rfl (fun _ => rfl) rfl ?_
          obtain ⟨_, r117, t117, rfl, s117, e117, k117, ko117, kz117⟩ := pk_emit (d + l + 3) n (s111) (o := 4) (z := 0) (by omega) (by omega) (by omega) k111
          have b117 := s117.2.2.2
          refine gx_call0 rfl rfl s111.1 rfl rfl r117 rfl ?_
          have k18 : ai_hv t117 383 21 = some (.inl fh) := (e117 383 21 (by omega)).trans k13
          refine ex_go (S := (5, [(2, .inl b5), (0, gx_r 383), (1, .inl e)], [], t117, n, 0)) rfl (fun _ => rfl) rfl ?_
          exfalso; omega
      · refine gx_1f (c := .ne) rfl (by omega) hc4 rfl ?_
        refine ex_go (S := (15, [(0, gx_r 383), (1, .inl e)], [gx_r 383], t0, n, 0)) rfl (fun _ => rfl) rfl ?_
        refine ex_go (S := (17, [(0, gx_r 383), (1, .inl e)], [.inl 45, gx_r 383], t0, n, 0)) rfl (fun _ => rfl) rfl ?_
        obtain ⟨_, r21, b19, rfl, q20⟩ := pe_isSign (d + l + 3) n (s0) hT (by omega) (w := 45) (by omega)
        refine gx_call1 rfl rfl s0.1 rfl rfl r21 rfl ?_
        have hlq20 : b19 = 1 → a < N := fun z => (q20.2.mp z).2.1
        by_cases hc22 : b19 = 0
        · refine gx_1t (c := .eq) rfl (by omega) hc22 rfl ?_
          refine ex_ret (r := (none, t0, n, 0)) rfl (fun _ => rfl) ?_
          have hno : f = 0 → ¬ sp_op S m N 2 a := fun hf z => by
              rcases sp_op_2.mp z with z | z
              · exact absurd (q2.2.mpr ⟨hf, z⟩) (by omega)
              · exact absurd (q20.2.mpr ⟨hf, z⟩) (by omega)
          exact ⟨_, rfl, t0, a, f, c, rfl, px_X_same hx (fun _ _ _ => rfl) s0 (by omega) (by omega), Ev_to (Ev_exit (by omega) hno) (by show a = a; omega) (by show f = f; omega), by omega⟩
        · refine gx_1f (c := .eq) rfl (by omega) hc22 rfl ?_
          refine ex_go (S := (24, [(0, gx_r 383), (1, .inl e)], [gx_r 383], t0, n, 0)) rfl (fun _ => rfl) rfl ?_
          refine ex_go (S := (26, [(0, gx_r 383), (1, .inl e)], [.inl 43, gx_r 383], t0, n, 0)) rfl (fun _ => rfl) rfl ?_
          obtain ⟨_, r25, b23, rfl, q24⟩ := pe_isSign (d + l + 3) n (s0) hT (by omega) (w := 43) (by omega)
          refine gx_call1 rfl rfl s0.1 rfl rfl r25 rfl ?_
          have hlq24 : b23 = 1 → a < N := fun z => (q24.2.mp z).2.1
          refine ex_go (S := (30, [(2, .inl b23), (0, gx_r 383), (1, .inl e)], [], t0, n, 0)) rfl (fun _ => rfl) rfl ?_
          refine ex_go (S := (31, [(2, .inl b23), (0, gx_r 383), (1, .inl e)], [gx_r 383], t0, n, 0)) rfl (fun _ => rfl) rfl ?_
          refine ex_go (S := (32, [(2, .inl b23), (0, gx_r 383), (1, .inl e)], [gx_r 383, gx_r 383], t0, n, 0)) rfl (fun _ => rfl) rfl ?_
          refine gx_get rfl s0.1 rfl s0.2.1 rfl ?_
          refine ex_go (S := (36, [(2, .inl b23), (0, gx_r 383), (1, .inl e)], [.inl 1, .inl a, gx_r 383], t0, n, 0)) rfl (fun _ => rfl) rfl ?_
          refine ex_iadd rfl (by omega) rfl ?_
          refine gx_put rfl s0.1 rfl rfl (ai_in_h (by omega) (by omega) (by omega)) rfl (fun t126 g126 k126 e126 => ?_)
          have k27 : ai_hv t126 383 13 = some (.inl c) := (e126 383 13 (by omega)).trans kc
          have k28 : ai_hv t126 383 21 = some (.inl fh) := (e126 383 21 (by omega)).trans kf
          have s126 : px_S t126 (a + 1) f := ⟨g126, k126, (e126 383 8 (by omega)).trans s0.2.2.1, by omega, s0.2.2.2.2⟩
          refine ex_go (S := (41, [(2, .inl b23), (0, gx_r 383), (1, .inl e)], [gx_r 383], t126, n, 0)) rfl (fun _ => rfl) rfl ?_
          refine ex_go (S := (42, [(2, .inl b23), (0, gx_r 383), (1, .inl e)], [.inl e, gx_r 383], t126, n, 0)) rfl (fun _ => rfl) rfl ?_
          have hT30 := rT_keep (t' := t126) hT (fun c i h => e126 c i (by omega))
          obtain ⟨_, r129, t129, a129, f129, c129, rfl, x129, w129, wa129⟩ := h d n _ _ _ _ s126 hT30 (by omega) k27 (by omega) k28
          have s129 := x129.1
          have e129 := x129.2.1
          have k129 := x129.2.2.1
          have q129 := x129.2.2.2.1
          have b129 := s129.2.2.2
          refine gx_call0 rfl rfl s126.1 rfl rfl r129 rfl ?_
          have k31 : ai_hv t129 383 21 = some (.inl fh) := (e129 383 21 (by omega)).trans k28
          refine ex_go (S := (46, [(2, .inl b23), (0, gx_r 383), (1, .inl e)], [gx_r 383], t129, n, 0)) rfl (fun _ => rfl) rfl ?_
          refine ex_go (S := (47, [(2, .inl b23), (0, gx_r 383), (1, .inl e)], [.inl b23, gx_r 383], t129, n, 0)) rfl (fun _ => rfl) rfl ?_
          by_cases hc32 : b23 = 0
          · refine gx_1t (c := .eq) rfl (by omega) hc32 rfl ?_
            refine ex_go (S := (55, [(2, .inl b23), (0, gx_r 383), (1, .inl e)], [.inl 5, gx_r 383], t129, n, 0)) rfl (fun _ => rfl) rfl ?_
            refine ex_go (S := (56, [(2, .inl b23), (0, gx_r 383), (1, .inl e)], [.inl 0, .inl 5, gx_r 383], t129, n, 0)) rfl (fun _ => rfl) rfl ?_
            obtain ⟨_, r133, t133, rfl, s133, e133, k133, ko133, kz133⟩ := pk_emit (d + l + 3) n (s129) (o := 5) (z := 0) (by omega) (by omega) (by omega) k129
            have b133 := s133.2.2.2
            refine gx_call0 rfl rfl s129.1 rfl rfl r133 rfl ?_
            have k34 : ai_hv t133 383 21 = some (.inl fh) := (e133 383 21 (by omega)).trans k31
            refine ex_go (S := (5, [(2, .inl b23), (0, gx_r 383), (1, .inl e)], [], t133, n, 0)) rfl (fun _ => rfl) rfl ?_
            exfalso; omega
          · refine gx_1f (c := .eq) rfl (by omega) hc32 rfl ?_
            refine ex_go (S := (51, [(2, .inl b23), (0, gx_r 383), (1, .inl e)], [.inl 4, gx_r 383], t129, n, 0)) rfl (fun _ => rfl) rfl ?_
            refine ex_go (S := (55, [(2, .inl b23), (0, gx_r 383), (1, .inl e)], [.inl 4, gx_r 383], t129, n, 0)) rfl (fun _ => rfl) rfl ?_
            refine ex_go (S := (56, [(2, .inl b23), (0, gx_r 383), (1, .inl e)], [.inl 0, .inl 4, gx_r 383], t129, n, 0)) rfl (fun _ => rfl) rfl ?_
            obtain ⟨_, r135, t135, rfl, s135, e135, k135, ko135, kz135⟩ := pk_emit (d + l + 3) n (s129) (o := 4) (z := 0) (by omega) (by omega) (by omega) k129
            have b135 := s135.2.2.2
            refine gx_call0 rfl rfl s129.1 rfl rfl r135 rfl ?_
            have k36 : ai_hv t135 383 21 = some (.inl fh) := (e135 383 21 (by omega)).trans k31
            refine ex_go (S := (5, [(2, .inl b23), (0, gx_r 383), (1, .inl e)], [], t135, n, 0)) rfl (fun _ => rfl) rfl ?_
            exfalso; omega
    · show en_ex _ _ _ _ (5, [(2, .inl bx), (0, gx_r 383), (1, .inl e)], [], t0, n, 0) _
      refine ex_go (S := (6, [(2, .inl bx), (0, gx_r 383), (1, .inl e)], [gx_r 383], t0, n, 0)) rfl (fun _ => rfl) rfl ?_
      refine ex_go (S := (8, [(2, .inl bx), (0, gx_r 383), (1, .inl e)], [.inl 43, gx_r 383], t0, n, 0)) rfl (fun _ => rfl) rfl ?_
      obtain ⟨_, r3, b1, rfl, q2⟩ := pe_isSign (d + l + 3) n (s0) hT (by omega) (w := 43) (by omega)
      refine gx_call1 rfl rfl s0.1 rfl rfl r3 rfl ?_
      have hlq2 : b1 = 1 → a < N := fun z => (q2.2.mp z).2.1
      by_cases hc4 : b1 ≠ 0
      · refine gx_1t (c := .ne) rfl (by omega) hc4 rfl ?_
        refine ex_go (S := (24, [(2, .inl bx), (0, gx_r 383), (1, .inl e)], [gx_r 383], t0, n, 0)) rfl (fun _ => rfl) rfl ?_
        refine ex_go (S := (26, [(2, .inl bx), (0, gx_r 383), (1, .inl e)], [.inl 43, gx_r 383], t0, n, 0)) rfl (fun _ => rfl) rfl ?_
        obtain ⟨_, r7, b5, rfl, q6⟩ := pe_isSign (d + l + 3) n (s0) hT (by omega) (w := 43) (by omega)
        refine gx_call1 rfl rfl s0.1 rfl rfl r7 rfl ?_
        have hlq6 : b5 = 1 → a < N := fun z => (q6.2.mp z).2.1
        refine ex_go (S := (30, [(2, .inl b5), (0, gx_r 383), (1, .inl e)], [], t0, n, 0)) rfl (fun _ => rfl) rfl ?_
        refine ex_go (S := (31, [(2, .inl b5), (0, gx_r 383), (1, .inl e)], [gx_r 383], t0, n, 0)) rfl (fun _ => rfl) rfl ?_
        refine ex_go (S := (32, [(2, .inl b5), (0, gx_r 383), (1, .inl e)], [gx_r 383, gx_r 383], t0, n, 0)) rfl (fun _ => rfl) rfl ?_
        refine gx_get rfl s0.1 rfl s0.2.1 rfl ?_
        refine ex_go (S := (36, [(2, .inl b5), (0, gx_r 383), (1, .inl e)], [.inl 1, .inl a, gx_r 383], t0, n, 0)) rfl (fun _ => rfl) rfl ?_
        refine ex_iadd rfl (by omega) rfl ?_
        refine gx_put rfl s0.1 rfl rfl (ai_in_h (by omega) (by omega) (by omega)) rfl (fun t108 g108 k108 e108 => ?_)
        have k9 : ai_hv t108 383 13 = some (.inl c) := (e108 383 13 (by omega)).trans kc
        have k10 : ai_hv t108 383 21 = some (.inl fh) := (e108 383 21 (by omega)).trans kf
        have s108 : px_S t108 (a + 1) f := ⟨g108, k108, (e108 383 8 (by omega)).trans s0.2.2.1, by omega, s0.2.2.2.2⟩
        refine ex_go (S := (41, [(2, .inl b5), (0, gx_r 383), (1, .inl e)], [gx_r 383], t108, n, 0)) rfl (fun _ => rfl) rfl ?_
        refine ex_go (S := (42, [(2, .inl b5), (0, gx_r 383), (1, .inl e)], [.inl e, gx_r 383], t108, n, 0)) rfl (fun _ => rfl) rfl ?_
        have hT12 := rT_keep (t' := t108) hT (fun c i h => e108 c i (by omega))
        obtain ⟨_, r111, t111, a111, f111, c111, rfl, x111, w111, wa111⟩ := h d n _ _ _ _ s108 hT12 (by omega) k9 (by omega) k10
        have s111 := x111.1
        have e111 := x111.2.1
        have k111 := x111.2.2.1
        have q111 := x111.2.2.2.1
        have b111 := s111.2.2.2
        refine gx_call0 rfl rfl s108.1 rfl rfl r111 rfl ?_
        have k13 : ai_hv t111 383 21 = some (.inl fh) := (e111 383 21 (by omega)).trans k10
        refine ex_go (S := (46, [(2, .inl b5), (0, gx_r 383), (1, .inl e)], [gx_r 383], t111, n, 0)) rfl (fun _ => rfl) rfl ?_
        refine ex_go (S := (47, [(2, .inl b5), (0, gx_r 383), (1, .inl e)], [.inl b5, gx_r 383], t111, n, 0)) rfl (fun _ => rfl) rfl ?_
        by_cases hc14 : b5 = 0
        · refine gx_1t (c := .eq) rfl (by omega) hc14 rfl ?_
          refine ex_go (S := (55, [(2, .inl b5), (0, gx_r 383), (1, .inl e)], [.inl 5, gx_r 383], t111, n, 0)) rfl (fun _ => rfl) rfl ?_
          refine ex_go (S := (56, [(2, .inl b5), (0, gx_r 383), (1, .inl e)], [.inl 0, .inl 5, gx_r 383], t111, n, 0)) rfl (fun _ => rfl) rfl ?_
          obtain ⟨_, r115, t115, rfl, s115, e115, k115, ko115, kz115⟩ := pk_emit (d + l + 3) n (s111) (o := 5) (z := 0) (by omega) (by omega) (by omega) k111
          have b115 := s115.2.2.2
          refine gx_call0 rfl rfl s111.1 rfl rfl r115 rfl ?_
          have k16 : ai_hv t115 383 21 = some (.inl fh) := (e115 383 21 (by omega)).trans k13
          refine ex_go (S := (5, [(2, .inl b5), (0, gx_r 383), (1, .inl e)], [], t115, n, 0)) rfl (fun _ => rfl) rfl ?_
          exfalso; omega
        · refine gx_1f (c := .eq) rfl (by omega) hc14 rfl ?_
          refine ex_go (S := (51, [(2, .inl b5), (0, gx_r 383), (1, .inl e)], [.inl 4, gx_r 383], t111, n, 0)) rfl (fun _ => rfl) rfl ?_
          refine ex_go (S := (55, [(2, .inl b5), (0, gx_r 383), (1, .inl e)], [.inl 4, gx_r 383], t111, n, 0)) rfl (fun _ => rfl) rfl ?_
          refine ex_go (S := (56, [(2, .inl b5), (0, gx_r 383), (1, .inl e)], [.inl 0, .inl 4, gx_r 383], t111, n, 0)) rfl (fun _ => rfl) rfl ?_
          obtain ⟨_, r117, t117, rfl, s117, e117, k117, ko117, kz117⟩ := pk_emit (d + l + 3) n (s111) (o := 4) (z := 0) (by omega) (by omega) (by omega) k111
          have b117 := s117.2.2.2
          refine gx_call0 rfl rfl s111.1 rfl rfl r117 rfl ?_
          have k18 : ai_hv t117 383 21 = some (.inl fh) := (e117 383 21 (by omega)).trans k13
          refine ex_go (S := (5, [(2, .inl b5), (0, gx_r 383), (1, .inl e)], [], t117, n, 0)) rfl (fun _ => rfl) rfl ?_
          exfalso; omega
      · refine gx_1f (c := .ne) rfl (by omega) hc4 rfl ?_
        refine ex_go (S := (15, [(2, .inl bx), (0, gx_r 383), (1, .inl e)], [gx_r 383], t0, n, 0)) rfl (fun _ => rfl) rfl ?_
        refine ex_go (S := (17, [(2, .inl bx), (0, gx_r 383), (1, .inl e)], [.inl 45, gx_r 383], t0, n, 0)) rfl (fun _ => rfl) rfl ?_
        obtain ⟨_, r21, b19, rfl, q20⟩ := pe_isSign (d + l + 3) n (s0) hT (by omega) (w := 45) (by omega)
        refine gx_call1 rfl rfl s0.1 rfl rfl r21 rfl ?_
        have hlq20 : b19 = 1 → a < N := fun z => (q20.2.mp z).2.1
        by_cases hc22 : b19 = 0
        · refine gx_1t (c := .eq) rfl (by omega) hc22 rfl ?_
          refine ex_ret (r := (none, t0, n, 0)) rfl (fun _ => rfl) ?_
          have hno : f = 0 → ¬ sp_op S m N 2 a := fun hf z => by
              rcases sp_op_2.mp z with z | z
              · exact absurd (q2.2.mpr ⟨hf, z⟩) (by omega)
              · exact absurd (q20.2.mpr ⟨hf, z⟩) (by omega)
          exact ⟨_, rfl, t0, a, f, c, rfl, px_X_same hx (fun _ _ _ => rfl) s0 (by omega) (by omega), Ev_to (Ev_exit (by omega) hno) (by show a = a; omega) (by show f = f; omega), by omega⟩
        · refine gx_1f (c := .eq) rfl (by omega) hc22 rfl ?_
          refine ex_go (S := (24, [(2, .inl bx), (0, gx_r 383), (1, .inl e)], [gx_r 383], t0, n, 0)) rfl (fun _ => rfl) rfl ?_
          refine ex_go (S := (26, [(2, .inl bx), (0, gx_r 383), (1, .inl e)], [.inl 43, gx_r 383], t0, n, 0)) rfl (fun _ => rfl) rfl ?_
          obtain ⟨_, r25, b23, rfl, q24⟩ := pe_isSign (d + l + 3) n (s0) hT (by omega) (w := 43) (by omega)
          refine gx_call1 rfl rfl s0.1 rfl rfl r25 rfl ?_
          have hlq24 : b23 = 1 → a < N := fun z => (q24.2.mp z).2.1
          refine ex_go (S := (30, [(2, .inl b23), (0, gx_r 383), (1, .inl e)], [], t0, n, 0)) rfl (fun _ => rfl) rfl ?_
          refine ex_go (S := (31, [(2, .inl b23), (0, gx_r 383), (1, .inl e)], [gx_r 383], t0, n, 0)) rfl (fun _ => rfl) rfl ?_
          refine ex_go (S := (32, [(2, .inl b23), (0, gx_r 383), (1, .inl e)], [gx_r 383, gx_r 383], t0, n, 0)) rfl (fun _ => rfl) rfl ?_
          refine gx_get rfl s0.1 rfl s0.2.1 rfl ?_
          refine ex_go (S := (36, [(2, .inl b23), (0, gx_r 383), (1, .inl e)], [.inl 1, .inl a, gx_r 383], t0, n, 0)) rfl (fun _ => rfl) rfl ?_
          refine ex_iadd rfl (by omega) rfl ?_
          refine gx_put rfl s0.1 rfl rfl (ai_in_h (by omega) (by omega) (by omega)) rfl (fun t126 g126 k126 e126 => ?_)
          have k27 : ai_hv t126 383 13 = some (.inl c) := (e126 383 13 (by omega)).trans kc
          have k28 : ai_hv t126 383 21 = some (.inl fh) := (e126 383 21 (by omega)).trans kf
          have s126 : px_S t126 (a + 1) f := ⟨g126, k126, (e126 383 8 (by omega)).trans s0.2.2.1, by omega, s0.2.2.2.2⟩
          refine ex_go (S := (41, [(2, .inl b23), (0, gx_r 383), (1, .inl e)], [gx_r 383], t126, n, 0)) rfl (fun _ => rfl) rfl ?_
          refine ex_go (S := (42, [(2, .inl b23), (0, gx_r 383), (1, .inl e)], [.inl e, gx_r 383], t126, n, 0)) rfl (fun _ => rfl) rfl ?_
          have hT30 := rT_keep (t' := t126) hT (fun c i h => e126 c i (by omega))
          obtain ⟨_, r129, t129, a129, f129, c129, rfl, x129, w129, wa129⟩ := h d n _ _ _ _ s126 hT30 (by omega) k27 (by omega) k28
          have s129 := x129.1
          have e129 := x129.2.1
          have k129 := x129.2.2.1
          have q129 := x129.2.2.2.1
          have b129 := s129.2.2.2
          refine gx_call0 rfl rfl s126.1 rfl rfl r129 rfl ?_
          have k31 : ai_hv t129 383 21 = some (.inl fh) := (e129 383 21 (by omega)).trans k28
          refine ex_go (S := (46, [(2, .inl b23), (0, gx_r 383), (1, .inl e)], [gx_r 383], t129, n, 0)) rfl (fun _ => rfl) rfl ?_
          refine ex_go (S := (47, [(2, .inl b23), (0, gx_r 383), (1, .inl e)], [.inl b23, gx_r 383], t129, n, 0)) rfl (fun _ => rfl) rfl ?_
          by_cases hc32 : b23 = 0
          · refine gx_1t (c := .eq) rfl (by omega) hc32 rfl ?_
            refine ex_go (S := (55, [(2, .inl b23), (0, gx_r 383), (1, .inl e)], [.inl 5, gx_r 383], t129, n, 0)) rfl (fun _ => rfl) rfl ?_
            refine ex_go (S := (56, [(2, .inl b23), (0, gx_r 383), (1, .inl e)], [.inl 0, .inl 5, gx_r 383], t129, n, 0)) rfl (fun _ => rfl) rfl ?_
            obtain ⟨_, r133, t133, rfl, s133, e133, k133, ko133, kz133⟩ := pk_emit (d + l + 3) n (s129) (o := 5) (z := 0) (by omega) (by omega) (by omega) k129
            have b133 := s133.2.2.2
            refine gx_call0 rfl rfl s129.1 rfl rfl r133 rfl ?_
            have k34 : ai_hv t133 383 21 = some (.inl fh) := (e133 383 21 (by omega)).trans k31
            refine ex_go (S := (5, [(2, .inl b23), (0, gx_r 383), (1, .inl e)], [], t133, n, 0)) rfl (fun _ => rfl) rfl ?_
            exfalso; omega
          · refine gx_1f (c := .eq) rfl (by omega) hc32 rfl ?_
            refine ex_go (S := (51, [(2, .inl b23), (0, gx_r 383), (1, .inl e)], [.inl 4, gx_r 383], t129, n, 0)) rfl (fun _ => rfl) rfl ?_
            refine ex_go (S := (55, [(2, .inl b23), (0, gx_r 383), (1, .inl e)], [.inl 4, gx_r 383], t129, n, 0)) rfl (fun _ => rfl) rfl ?_
            refine ex_go (S := (56, [(2, .inl b23), (0, gx_r 383), (1, .inl e)], [.inl 0, .inl 4, gx_r 383], t129, n, 0)) rfl (fun _ => rfl) rfl ?_
            obtain ⟨_, r135, t135, rfl, s135, e135, k135, ko135, kz135⟩ := pk_emit (d + l + 3) n (s129) (o := 4) (z := 0) (by omega) (by omega) (by omega) k129
            have b135 := s135.2.2.2
            refine gx_call0 rfl rfl s129.1 rfl rfl r135 rfl ?_
            have k36 : ai_hv t135 383 21 = some (.inl fh) := (e135 383 21 (by omega)).trans k31
            refine ex_go (S := (5, [(2, .inl b23), (0, gx_r 383), (1, .inl e)], [], t135, n, 0)) rfl (fun _ => rfl) rfl ?_
            exfalso; omega
  | succ j ih =>
    intro t0 a f c lx hlx hj hx hT ha kf
    have s0 := hx.1
    have kc := hx.2.2.1
    have q0 := hx.2.2.2.1
    have b0 := s0.2.2.2
    have hN := hT.2.2.2.2.1
    rcases hlx with rfl | ⟨bx, hbx, rfl⟩
    · show en_ex _ _ _ _ (5, [(0, gx_r 383), (1, .inl e)], [], t0, n, 0) _
      refine ex_go (S := (6, [(0, gx_r 383), (1, .inl e)], [gx_r 383], t0, n, 0)) rfl (fun _ => rfl) rfl ?_
      refine ex_go (S := (8, [(0, gx_r 383), (1, .inl e)], [.inl 43, gx_r 383], t0, n, 0)) rfl (fun _ => rfl) rfl ?_
      obtain ⟨_, r3, b1, rfl, q2⟩ := pe_isSign (d + l + 3) n (s0) hT (by omega) (w := 43) (by omega)
      refine gx_call1 rfl rfl s0.1 rfl rfl r3 rfl ?_
      have hlq2 : b1 = 1 → a < N := fun z => (q2.2.mp z).2.1
      by_cases hc4 : b1 ≠ 0
      · refine gx_1t (c := .ne) rfl (by omega) hc4 rfl ?_
        refine ex_go (S := (24, [(0, gx_r 383), (1, .inl e)], [gx_r 383], t0, n, 0)) rfl (fun _ => rfl) rfl ?_
        refine ex_go (S := (26, [(0, gx_r 383), (1, .inl e)], [.inl 43, gx_r 383], t0, n, 0)) rfl (fun _ => rfl) rfl ?_
        obtain ⟨_, r7, b5, rfl, q6⟩ := pe_isSign (d + l + 3) n (s0) hT (by omega) (w := 43) (by omega)
        refine gx_call1 rfl rfl s0.1 rfl rfl r7 rfl ?_
        have hlq6 : b5 = 1 → a < N := fun z => (q6.2.mp z).2.1
        refine ex_go (S := (30, [(2, .inl b5), (0, gx_r 383), (1, .inl e)], [], t0, n, 0)) rfl (fun _ => rfl) rfl ?_
        refine ex_go (S := (31, [(2, .inl b5), (0, gx_r 383), (1, .inl e)], [gx_r 383], t0, n, 0)) rfl (fun _ => rfl) rfl ?_
        refine ex_go (S := (32, [(2, .inl b5), (0, gx_r 383), (1, .inl e)], [gx_r 383, gx_r 383], t0, n, 0)) rfl (fun _ => rfl) rfl ?_
        refine gx_get rfl s0.1 rfl s0.2.1 rfl ?_
        refine ex_go (S := (36, [(2, .inl b5), (0, gx_r 383), (1, .inl e)], [.inl 1, .inl a, gx_r 383], t0, n, 0)) rfl (fun _ => rfl) rfl ?_
        refine ex_iadd rfl (by omega) rfl ?_
        refine gx_put rfl s0.1 rfl rfl (ai_in_h (by omega) (by omega) (by omega)) rfl (fun t108 g108 k108 e108 => ?_)
        have k9 : ai_hv t108 383 13 = some (.inl c) := (e108 383 13 (by omega)).trans kc
        have k10 : ai_hv t108 383 21 = some (.inl fh) := (e108 383 21 (by omega)).trans kf
        have s108 : px_S t108 (a + 1) f := ⟨g108, k108, (e108 383 8 (by omega)).trans s0.2.2.1, by omega, s0.2.2.2.2⟩
        refine ex_go (S := (41, [(2, .inl b5), (0, gx_r 383), (1, .inl e)], [gx_r 383], t108, n, 0)) rfl (fun _ => rfl) rfl ?_
        refine ex_go (S := (42, [(2, .inl b5), (0, gx_r 383), (1, .inl e)], [.inl e, gx_r 383], t108, n, 0)) rfl (fun _ => rfl) rfl ?_
        have hT12 := rT_keep (t' := t108) hT (fun c i h => e108 c i (by omega))
        obtain ⟨_, r111, t111, a111, f111, c111, rfl, x111, w111, wa111⟩ := h d n _ _ _ _ s108 hT12 (by omega) k9 (by omega) k10
        have s111 := x111.1
        have e111 := x111.2.1
        have k111 := x111.2.2.1
        have q111 := x111.2.2.2.1
        have b111 := s111.2.2.2
        refine gx_call0 rfl rfl s108.1 rfl rfl r111 rfl ?_
        have k13 : ai_hv t111 383 21 = some (.inl fh) := (e111 383 21 (by omega)).trans k10
        refine ex_go (S := (46, [(2, .inl b5), (0, gx_r 383), (1, .inl e)], [gx_r 383], t111, n, 0)) rfl (fun _ => rfl) rfl ?_
        refine ex_go (S := (47, [(2, .inl b5), (0, gx_r 383), (1, .inl e)], [.inl b5, gx_r 383], t111, n, 0)) rfl (fun _ => rfl) rfl ?_
        by_cases hc14 : b5 = 0
        · refine gx_1t (c := .eq) rfl (by omega) hc14 rfl ?_
          refine ex_go (S := (55, [(2, .inl b5), (0, gx_r 383), (1, .inl e)], [.inl 5, gx_r 383], t111, n, 0)) rfl (fun _ => rfl) rfl ?_
          refine ex_go (S := (56, [(2, .inl b5), (0, gx_r 383), (1, .inl e)], [.inl 0, .inl 5, gx_r 383], t111, n, 0)) rfl (fun _ => rfl) rfl ?_
          obtain ⟨_, r115, t115, rfl, s115, e115, k115, ko115, kz115⟩ := pk_emit (d + l + 3) n (s111) (o := 5) (z := 0) (by omega) (by omega) (by omega) k111
          have b115 := s115.2.2.2
          refine gx_call0 rfl rfl s111.1 rfl rfl r115 rfl ?_
          have k16 : ai_hv t115 383 21 = some (.inl fh) := (e115 383 21 (by omega)).trans k13
          refine ex_go (S := (5, [(2, .inl b5), (0, gx_r 383), (1, .inl e)], [], t115, n, 0)) rfl (fun _ => rfl) rfl ?_
          have hpf : f = 0 := by have := (q2.2.mp (by omega)).1; omega
          have hop : sp_op S m N 2 a := sp_op_2.mpr (Or.inl (q2.2.mp (by omega)).2)
          have w9 : Ev S m N fh 3 e (a + 1, 0) (a111, f111) := Ev_at w111 (by show a + 1 = a + 1; omega) (by show f = 0; omega)
          subst hpf
          have hT17 := rT_keep (t' := t115) hT (fun c i h => (e115 c i (by omega)).trans ((e111 c i (by omega)).trans (e108 c i (by omega))))
          refine ex_imp (fun o9 h9 => ?_) (ih t115 a111 f111 (c111 + 1) [(2, .inl b5)] (Or.inr ⟨b5, by omega, rfl⟩) (by omega) (px_X_bin hx rfl (by omega) (fun c i h => e108 c i (by omega)) x111 (by omega) s115 e115 k115 ko115 kz115) hT17 (by omega) k16)
          obtain ⟨r9, g0, t9, a9, f9, c9, g1, g2, g3, g4⟩ := h9
          exact ⟨r9, g0, t9, a9, f9, c9, g1, g2, Ev_more (by omega) (by omega) hop w9 g3, g4⟩
        · refine gx_1f (c := .eq) rfl (by omega) hc14 rfl ?_
          refine ex_go (S := (51, [(2, .inl b5), (0, gx_r 383), (1, .inl e)], [.inl 4, gx_r 383], t111, n, 0)) rfl (fun _ => rfl) rfl ?_
          refine ex_go (S := (55, [(2, .inl b5), (0, gx_r 383), (1, .inl e)], [.inl 4, gx_r 383], t111, n, 0)) rfl (fun _ => rfl) rfl ?_
          refine ex_go (S := (56, [(2, .inl b5), (0, gx_r 383), (1, .inl e)], [.inl 0, .inl 4, gx_r 383], t111, n, 0)) rfl (fun _ => rfl) rfl ?_
          obtain ⟨_, r118, t118, rfl, s118, e118, k118, ko118, kz118⟩ := pk_emit (d + l + 3) n (s111) (o := 4) (z := 0) (by omega) (by omega) (by omega) k111
          have b118 := s118.2.2.2
          refine gx_call0 rfl rfl s111.1 rfl rfl r118 rfl ?_
          have k19 : ai_hv t118 383 21 = some (.inl fh) := (e118 383 21 (by omega)).trans k13
          refine ex_go (S := (5, [(2, .inl b5), (0, gx_r 383), (1, .inl e)], [], t118, n, 0)) rfl (fun _ => rfl) rfl ?_
          have hpf : f = 0 := by have := (q2.2.mp (by omega)).1; omega
          have hop : sp_op S m N 2 a := sp_op_2.mpr (Or.inl (q2.2.mp (by omega)).2)
          have w9 : Ev S m N fh 3 e (a + 1, 0) (a111, f111) := Ev_at w111 (by show a + 1 = a + 1; omega) (by show f = 0; omega)
          subst hpf
          have hT20 := rT_keep (t' := t118) hT (fun c i h => (e118 c i (by omega)).trans ((e111 c i (by omega)).trans (e108 c i (by omega))))
          refine ex_imp (fun o9 h9 => ?_) (ih t118 a111 f111 (c111 + 1) [(2, .inl b5)] (Or.inr ⟨b5, by omega, rfl⟩) (by omega) (px_X_bin hx rfl (by omega) (fun c i h => e108 c i (by omega)) x111 (by omega) s118 e118 k118 ko118 kz118) hT20 (by omega) k19)
          obtain ⟨r9, g0, t9, a9, f9, c9, g1, g2, g3, g4⟩ := h9
          exact ⟨r9, g0, t9, a9, f9, c9, g1, g2, Ev_more (by omega) (by omega) hop w9 g3, g4⟩
      · refine gx_1f (c := .ne) rfl (by omega) hc4 rfl ?_
        refine ex_go (S := (15, [(0, gx_r 383), (1, .inl e)], [gx_r 383], t0, n, 0)) rfl (fun _ => rfl) rfl ?_
        refine ex_go (S := (17, [(0, gx_r 383), (1, .inl e)], [.inl 45, gx_r 383], t0, n, 0)) rfl (fun _ => rfl) rfl ?_
        obtain ⟨_, r23, b21, rfl, q22⟩ := pe_isSign (d + l + 3) n (s0) hT (by omega) (w := 45) (by omega)
        refine gx_call1 rfl rfl s0.1 rfl rfl r23 rfl ?_
        have hlq22 : b21 = 1 → a < N := fun z => (q22.2.mp z).2.1
        by_cases hc24 : b21 = 0
        · refine gx_1t (c := .eq) rfl (by omega) hc24 rfl ?_
          refine ex_ret (r := (none, t0, n, 0)) rfl (fun _ => rfl) ?_
          have hno : f = 0 → ¬ sp_op S m N 2 a := fun hf z => by
              rcases sp_op_2.mp z with z | z
              · exact absurd (q2.2.mpr ⟨hf, z⟩) (by omega)
              · exact absurd (q22.2.mpr ⟨hf, z⟩) (by omega)
          exact ⟨_, rfl, t0, a, f, c, rfl, px_X_same hx (fun _ _ _ => rfl) s0 (by omega) (by omega), Ev_to (Ev_exit (by omega) hno) (by show a = a; omega) (by show f = f; omega), by omega⟩
        · refine gx_1f (c := .eq) rfl (by omega) hc24 rfl ?_
          refine ex_go (S := (24, [(0, gx_r 383), (1, .inl e)], [gx_r 383], t0, n, 0)) rfl (fun _ => rfl) rfl ?_
          refine ex_go (S := (26, [(0, gx_r 383), (1, .inl e)], [.inl 43, gx_r 383], t0, n, 0)) rfl (fun _ => rfl) rfl ?_
          obtain ⟨_, r27, b25, rfl, q26⟩ := pe_isSign (d + l + 3) n (s0) hT (by omega) (w := 43) (by omega)
          refine gx_call1 rfl rfl s0.1 rfl rfl r27 rfl ?_
          have hlq26 : b25 = 1 → a < N := fun z => (q26.2.mp z).2.1
          refine ex_go (S := (30, [(2, .inl b25), (0, gx_r 383), (1, .inl e)], [], t0, n, 0)) rfl (fun _ => rfl) rfl ?_
          refine ex_go (S := (31, [(2, .inl b25), (0, gx_r 383), (1, .inl e)], [gx_r 383], t0, n, 0)) rfl (fun _ => rfl) rfl ?_
          refine ex_go (S := (32, [(2, .inl b25), (0, gx_r 383), (1, .inl e)], [gx_r 383, gx_r 383], t0, n, 0)) rfl (fun _ => rfl) rfl ?_
          refine gx_get rfl s0.1 rfl s0.2.1 rfl ?_
          refine ex_go (S := (36, [(2, .inl b25), (0, gx_r 383), (1, .inl e)], [.inl 1, .inl a, gx_r 383], t0, n, 0)) rfl (fun _ => rfl) rfl ?_
          refine ex_iadd rfl (by omega) rfl ?_
          refine gx_put rfl s0.1 rfl rfl (ai_in_h (by omega) (by omega) (by omega)) rfl (fun t128 g128 k128 e128 => ?_)
          have k29 : ai_hv t128 383 13 = some (.inl c) := (e128 383 13 (by omega)).trans kc
          have k30 : ai_hv t128 383 21 = some (.inl fh) := (e128 383 21 (by omega)).trans kf
          have s128 : px_S t128 (a + 1) f := ⟨g128, k128, (e128 383 8 (by omega)).trans s0.2.2.1, by omega, s0.2.2.2.2⟩
          refine ex_go (S := (41, [(2, .inl b25), (0, gx_r 383), (1, .inl e)], [gx_r 383], t128, n, 0)) rfl (fun _ => rfl) rfl ?_
          refine ex_go (S := (42, [(2, .inl b25), (0, gx_r 383), (1, .inl e)], [.inl e, gx_r 383], t128, n, 0)) rfl (fun _ => rfl) rfl ?_
          have hT32 := rT_keep (t' := t128) hT (fun c i h => e128 c i (by omega))
          obtain ⟨_, r131, t131, a131, f131, c131, rfl, x131, w131, wa131⟩ := h d n _ _ _ _ s128 hT32 (by omega) k29 (by omega) k30
          have s131 := x131.1
          have e131 := x131.2.1
          have k131 := x131.2.2.1
          have q131 := x131.2.2.2.1
          have b131 := s131.2.2.2
          refine gx_call0 rfl rfl s128.1 rfl rfl r131 rfl ?_
          have k33 : ai_hv t131 383 21 = some (.inl fh) := (e131 383 21 (by omega)).trans k30
          refine ex_go (S := (46, [(2, .inl b25), (0, gx_r 383), (1, .inl e)], [gx_r 383], t131, n, 0)) rfl (fun _ => rfl) rfl ?_
          refine ex_go (S := (47, [(2, .inl b25), (0, gx_r 383), (1, .inl e)], [.inl b25, gx_r 383], t131, n, 0)) rfl (fun _ => rfl) rfl ?_
          by_cases hc34 : b25 = 0
          · refine gx_1t (c := .eq) rfl (by omega) hc34 rfl ?_
            refine ex_go (S := (55, [(2, .inl b25), (0, gx_r 383), (1, .inl e)], [.inl 5, gx_r 383], t131, n, 0)) rfl (fun _ => rfl) rfl ?_
            refine ex_go (S := (56, [(2, .inl b25), (0, gx_r 383), (1, .inl e)], [.inl 0, .inl 5, gx_r 383], t131, n, 0)) rfl (fun _ => rfl) rfl ?_
            obtain ⟨_, r135, t135, rfl, s135, e135, k135, ko135, kz135⟩ := pk_emit (d + l + 3) n (s131) (o := 5) (z := 0) (by omega) (by omega) (by omega) k131
            have b135 := s135.2.2.2
            refine gx_call0 rfl rfl s131.1 rfl rfl r135 rfl ?_
            have k36 : ai_hv t135 383 21 = some (.inl fh) := (e135 383 21 (by omega)).trans k33
            refine ex_go (S := (5, [(2, .inl b25), (0, gx_r 383), (1, .inl e)], [], t135, n, 0)) rfl (fun _ => rfl) rfl ?_
            have hpf : f = 0 := by have := (q22.2.mp (by omega)).1; omega
            have hop : sp_op S m N 2 a := sp_op_2.mpr (Or.inr (q22.2.mp (by omega)).2)
            have w9 : Ev S m N fh 3 e (a + 1, 0) (a131, f131) := Ev_at w131 (by show a + 1 = a + 1; omega) (by show f = 0; omega)
            subst hpf
            have hT37 := rT_keep (t' := t135) hT (fun c i h => (e135 c i (by omega)).trans ((e131 c i (by omega)).trans (e128 c i (by omega))))
            refine ex_imp (fun o9 h9 => ?_) (ih t135 a131 f131 (c131 + 1) [(2, .inl b25)] (Or.inr ⟨b25, by omega, rfl⟩) (by omega) (px_X_bin hx rfl (by omega) (fun c i h => e128 c i (by omega)) x131 (by omega) s135 e135 k135 ko135 kz135) hT37 (by omega) k36)
            obtain ⟨r9, g0, t9, a9, f9, c9, g1, g2, g3, g4⟩ := h9
            exact ⟨r9, g0, t9, a9, f9, c9, g1, g2, Ev_more (by omega) (by omega) hop w9 g3, g4⟩
          · refine gx_1f (c := .eq) rfl (by omega) hc34 rfl ?_
            refine ex_go (S := (51, [(2, .inl b25), (0, gx_r 383), (1, .inl e)], [.inl 4, gx_r 383], t131, n, 0)) rfl (fun _ => rfl) rfl ?_
            refine ex_go (S := (55, [(2, .inl b25), (0, gx_r 383), (1, .inl e)], [.inl 4, gx_r 383], t131, n, 0)) rfl (fun _ => rfl) rfl ?_
            refine ex_go (S := (56, [(2, .inl b25), (0, gx_r 383), (1, .inl e)], [.inl 0, .inl 4, gx_r 383], t131, n, 0)) rfl (fun _ => rfl) rfl ?_
            obtain ⟨_, r138, t138, rfl, s138, e138, k138, ko138, kz138⟩ := pk_emit (d + l + 3) n (s131) (o := 4) (z := 0) (by omega) (by omega) (by omega) k131
            have b138 := s138.2.2.2
            refine gx_call0 rfl rfl s131.1 rfl rfl r138 rfl ?_
            have k39 : ai_hv t138 383 21 = some (.inl fh) := (e138 383 21 (by omega)).trans k33
            refine ex_go (S := (5, [(2, .inl b25), (0, gx_r 383), (1, .inl e)], [], t138, n, 0)) rfl (fun _ => rfl) rfl ?_
            have hpf : f = 0 := by have := (q22.2.mp (by omega)).1; omega
            have hop : sp_op S m N 2 a := sp_op_2.mpr (Or.inr (q22.2.mp (by omega)).2)
            have w9 : Ev S m N fh 3 e (a + 1, 0) (a131, f131) := Ev_at w131 (by show a + 1 = a + 1; omega) (by show f = 0; omega)
            subst hpf
            have hT40 := rT_keep (t' := t138) hT (fun c i h => (e138 c i (by omega)).trans ((e131 c i (by omega)).trans (e128 c i (by omega))))
            refine ex_imp (fun o9 h9 => ?_) (ih t138 a131 f131 (c131 + 1) [(2, .inl b25)] (Or.inr ⟨b25, by omega, rfl⟩) (by omega) (px_X_bin hx rfl (by omega) (fun c i h => e128 c i (by omega)) x131 (by omega) s138 e138 k138 ko138 kz138) hT40 (by omega) k39)
            obtain ⟨r9, g0, t9, a9, f9, c9, g1, g2, g3, g4⟩ := h9
            exact ⟨r9, g0, t9, a9, f9, c9, g1, g2, Ev_more (by omega) (by omega) hop w9 g3, g4⟩
    · show en_ex _ _ _ _ (5, [(2, .inl bx), (0, gx_r 383), (1, .inl e)], [], t0, n, 0) _
      refine ex_go (S := (6, [(2, .inl bx), (0, gx_r 383), (1, .inl e)], [gx_r 383], t0, n, 0)) rfl (fun _ => rfl) rfl ?_
      refine ex_go (S := (8, [(2, .inl bx), (0, gx_r 383), (1, .inl e)], [.inl 43, gx_r 383], t0, n, 0)) rfl (fun _ => rfl) rfl ?_
      obtain ⟨_, r3, b1, rfl, q2⟩ := pe_isSign (d + l + 3) n (s0) hT (by omega) (w := 43) (by omega)
      refine gx_call1 rfl rfl s0.1 rfl rfl r3 rfl ?_
      have hlq2 : b1 = 1 → a < N := fun z => (q2.2.mp z).2.1
      by_cases hc4 : b1 ≠ 0
      · refine gx_1t (c := .ne) rfl (by omega) hc4 rfl ?_
        refine ex_go (S := (24, [(2, .inl bx), (0, gx_r 383), (1, .inl e)], [gx_r 383], t0, n, 0)) rfl (fun _ => rfl) rfl ?_
        refine ex_go (S := (26, [(2, .inl bx), (0, gx_r 383), (1, .inl e)], [.inl 43, gx_r 383], t0, n, 0)) rfl (fun _ => rfl) rfl ?_
        obtain ⟨_, r7, b5, rfl, q6⟩ := pe_isSign (d + l + 3) n (s0) hT (by omega) (w := 43) (by omega)
        refine gx_call1 rfl rfl s0.1 rfl rfl r7 rfl ?_
        have hlq6 : b5 = 1 → a < N := fun z => (q6.2.mp z).2.1
        refine ex_go (S := (30, [(2, .inl b5), (0, gx_r 383), (1, .inl e)], [], t0, n, 0)) rfl (fun _ => rfl) rfl ?_
        refine ex_go (S := (31, [(2, .inl b5), (0, gx_r 383), (1, .inl e)], [gx_r 383], t0, n, 0)) rfl (fun _ => rfl) rfl ?_
        refine ex_go (S := (32, [(2, .inl b5), (0, gx_r 383), (1, .inl e)], [gx_r 383, gx_r 383], t0, n, 0)) rfl (fun _ => rfl) rfl ?_
        refine gx_get rfl s0.1 rfl s0.2.1 rfl ?_
        refine ex_go (S := (36, [(2, .inl b5), (0, gx_r 383), (1, .inl e)], [.inl 1, .inl a, gx_r 383], t0, n, 0)) rfl (fun _ => rfl) rfl ?_
        refine ex_iadd rfl (by omega) rfl ?_
        refine gx_put rfl s0.1 rfl rfl (ai_in_h (by omega) (by omega) (by omega)) rfl (fun t108 g108 k108 e108 => ?_)
        have k9 : ai_hv t108 383 13 = some (.inl c) := (e108 383 13 (by omega)).trans kc
        have k10 : ai_hv t108 383 21 = some (.inl fh) := (e108 383 21 (by omega)).trans kf
        have s108 : px_S t108 (a + 1) f := ⟨g108, k108, (e108 383 8 (by omega)).trans s0.2.2.1, by omega, s0.2.2.2.2⟩
        refine ex_go (S := (41, [(2, .inl b5), (0, gx_r 383), (1, .inl e)], [gx_r 383], t108, n, 0)) rfl (fun _ => rfl) rfl ?_
        refine ex_go (S := (42, [(2, .inl b5), (0, gx_r 383), (1, .inl e)], [.inl e, gx_r 383], t108, n, 0)) rfl (fun _ => rfl) rfl ?_
        have hT12 := rT_keep (t' := t108) hT (fun c i h => e108 c i (by omega))
        obtain ⟨_, r111, t111, a111, f111, c111, rfl, x111, w111, wa111⟩ := h d n _ _ _ _ s108 hT12 (by omega) k9 (by omega) k10
        have s111 := x111.1
        have e111 := x111.2.1
        have k111 := x111.2.2.1
        have q111 := x111.2.2.2.1
        have b111 := s111.2.2.2
        refine gx_call0 rfl rfl s108.1 rfl rfl r111 rfl ?_
        have k13 : ai_hv t111 383 21 = some (.inl fh) := (e111 383 21 (by omega)).trans k10
        refine ex_go (S := (46, [(2, .inl b5), (0, gx_r 383), (1, .inl e)], [gx_r 383], t111, n, 0)) rfl (fun _ => rfl) rfl ?_
        refine ex_go (S := (47, [(2, .inl b5), (0, gx_r 383), (1, .inl e)], [.inl b5, gx_r 383], t111, n, 0)) rfl (fun _ => rfl) rfl ?_
        by_cases hc14 : b5 = 0
        · refine gx_1t (c := .eq) rfl (by omega) hc14 rfl ?_
          refine ex_go (S := (55, [(2, .inl b5), (0, gx_r 383), (1, .inl e)], [.inl 5, gx_r 383], t111, n, 0)) rfl (fun _ => rfl) rfl ?_
          refine ex_go (S := (56, [(2, .inl b5), (0, gx_r 383), (1, .inl e)], [.inl 0, .inl 5, gx_r 383], t111, n, 0)) rfl (fun _ => rfl) rfl ?_
          obtain ⟨_, r115, t115, rfl, s115, e115, k115, ko115, kz115⟩ := pk_emit (d + l + 3) n (s111) (o := 5) (z := 0) (by omega) (by omega) (by omega) k111
          have b115 := s115.2.2.2
          refine gx_call0 rfl rfl s111.1 rfl rfl r115 rfl ?_
          have k16 : ai_hv t115 383 21 = some (.inl fh) := (e115 383 21 (by omega)).trans k13
          refine ex_go (S := (5, [(2, .inl b5), (0, gx_r 383), (1, .inl e)], [], t115, n, 0)) rfl (fun _ => rfl) rfl ?_
          have hpf : f = 0 := by have := (q2.2.mp (by omega)).1; omega
          have hop : sp_op S m N 2 a := sp_op_2.mpr (Or.inl (q2.2.mp (by omega)).2)
          have w9 : Ev S m N fh 3 e (a + 1, 0) (a111, f111) := Ev_at w111 (by show a + 1 = a + 1; omega) (by show f = 0; omega)
          subst hpf
          have hT17 := rT_keep (t' := t115) hT (fun c i h => (e115 c i (by omega)).trans ((e111 c i (by omega)).trans (e108 c i (by omega))))
          refine ex_imp (fun o9 h9 => ?_) (ih t115 a111 f111 (c111 + 1) [(2, .inl b5)] (Or.inr ⟨b5, by omega, rfl⟩) (by omega) (px_X_bin hx rfl (by omega) (fun c i h => e108 c i (by omega)) x111 (by omega) s115 e115 k115 ko115 kz115) hT17 (by omega) k16)
          obtain ⟨r9, g0, t9, a9, f9, c9, g1, g2, g3, g4⟩ := h9
          exact ⟨r9, g0, t9, a9, f9, c9, g1, g2, Ev_more (by omega) (by omega) hop w9 g3, g4⟩
        · refine gx_1f (c := .eq) rfl (by omega) hc14 rfl ?_
          refine ex_go (S := (51, [(2, .inl b5), (0, gx_r 383), (1, .inl e)], [.inl 4, gx_r 383], t111, n, 0)) rfl (fun _ => rfl) rfl ?_
          refine ex_go (S := (55, [(2, .inl b5), (0, gx_r 383), (1, .inl e)], [.inl 4, gx_r 383], t111, n, 0)) rfl (fun _ => rfl) rfl ?_
          refine ex_go (S := (56, [(2, .inl b5), (0, gx_r 383), (1, .inl e)], [.inl 0, .inl 4, gx_r 383], t111, n, 0)) rfl (fun _ => rfl) rfl ?_
          obtain ⟨_, r118, t118, rfl, s118, e118, k118, ko118, kz118⟩ := pk_emit (d + l + 3) n (s111) (o := 4) (z := 0) (by omega) (by omega) (by omega) k111
          have b118 := s118.2.2.2
          refine gx_call0 rfl rfl s111.1 rfl rfl r118 rfl ?_
          have k19 : ai_hv t118 383 21 = some (.inl fh) := (e118 383 21 (by omega)).trans k13
          refine ex_go (S := (5, [(2, .inl b5), (0, gx_r 383), (1, .inl e)], [], t118, n, 0)) rfl (fun _ => rfl) rfl ?_
          have hpf : f = 0 := by have := (q2.2.mp (by omega)).1; omega
          have hop : sp_op S m N 2 a := sp_op_2.mpr (Or.inl (q2.2.mp (by omega)).2)
          have w9 : Ev S m N fh 3 e (a + 1, 0) (a111, f111) := Ev_at w111 (by show a + 1 = a + 1; omega) (by show f = 0; omega)
          subst hpf
          have hT20 := rT_keep (t' := t118) hT (fun c i h => (e118 c i (by omega)).trans ((e111 c i (by omega)).trans (e108 c i (by omega))))
          refine ex_imp (fun o9 h9 => ?_) (ih t118 a111 f111 (c111 + 1) [(2, .inl b5)] (Or.inr ⟨b5, by omega, rfl⟩) (by omega) (px_X_bin hx rfl (by omega) (fun c i h => e108 c i (by omega)) x111 (by omega) s118 e118 k118 ko118 kz118) hT20 (by omega) k19)
          obtain ⟨r9, g0, t9, a9, f9, c9, g1, g2, g3, g4⟩ := h9
          exact ⟨r9, g0, t9, a9, f9, c9, g1, g2, Ev_more (by omega) (by omega) hop w9 g3, g4⟩
      · refine gx_1f (c := .ne) rfl (by omega) hc4 rfl ?_
        refine ex_go (S := (15, [(2, .inl bx), (0, gx_r 383), (1, .inl e)], [gx_r 383], t0, n, 0)) rfl (fun _ => rfl) rfl ?_
        refine ex_go (S := (17, [(2, .inl bx), (0, gx_r 383), (1, .inl e)], [.inl 45, gx_r 383], t0, n, 0)) rfl (fun _ => rfl) rfl ?_
        obtain ⟨_, r23, b21, rfl, q22⟩ := pe_isSign (d + l + 3) n (s0) hT (by omega) (w := 45) (by omega)
        refine gx_call1 rfl rfl s0.1 rfl rfl r23 rfl ?_
        have hlq22 : b21 = 1 → a < N := fun z => (q22.2.mp z).2.1
        by_cases hc24 : b21 = 0
        · refine gx_1t (c := .eq) rfl (by omega) hc24 rfl ?_
          refine ex_ret (r := (none, t0, n, 0)) rfl (fun _ => rfl) ?_
          have hno : f = 0 → ¬ sp_op S m N 2 a := fun hf z => by
              rcases sp_op_2.mp z with z | z
              · exact absurd (q2.2.mpr ⟨hf, z⟩) (by omega)
              · exact absurd (q22.2.mpr ⟨hf, z⟩) (by omega)
          exact ⟨_, rfl, t0, a, f, c, rfl, px_X_same hx (fun _ _ _ => rfl) s0 (by omega) (by omega), Ev_to (Ev_exit (by omega) hno) (by show a = a; omega) (by show f = f; omega), by omega⟩
        · refine gx_1f (c := .eq) rfl (by omega) hc24 rfl ?_
          refine ex_go (S := (24, [(2, .inl bx), (0, gx_r 383), (1, .inl e)], [gx_r 383], t0, n, 0)) rfl (fun _ => rfl) rfl ?_
          refine ex_go (S := (26, [(2, .inl bx), (0, gx_r 383), (1, .inl e)], [.inl 43, gx_r 383], t0, n, 0)) rfl (fun _ => rfl) rfl ?_
          obtain ⟨_, r27, b25, rfl, q26⟩ := pe_isSign (d + l + 3) n (s0) hT (by omega) (w := 43) (by omega)
          refine gx_call1 rfl rfl s0.1 rfl rfl r27 rfl ?_
          have hlq26 : b25 = 1 → a < N := fun z => (q26.2.mp z).2.1
          refine ex_go (S := (30, [(2, .inl b25), (0, gx_r 383), (1, .inl e)], [], t0, n, 0)) rfl (fun _ => rfl) rfl ?_
          refine ex_go (S := (31, [(2, .inl b25), (0, gx_r 383), (1, .inl e)], [gx_r 383], t0, n, 0)) rfl (fun _ => rfl) rfl ?_
          refine ex_go (S := (32, [(2, .inl b25), (0, gx_r 383), (1, .inl e)], [gx_r 383, gx_r 383], t0, n, 0)) rfl (fun _ => rfl) rfl ?_
          refine gx_get rfl s0.1 rfl s0.2.1 rfl ?_
          refine ex_go (S := (36, [(2, .inl b25), (0, gx_r 383), (1, .inl e)], [.inl 1, .inl a, gx_r 383], t0, n, 0)) rfl (fun _ => rfl) rfl ?_
          refine ex_iadd rfl (by omega) rfl ?_
          refine gx_put rfl s0.1 rfl rfl (ai_in_h (by omega) (by omega) (by omega)) rfl (fun t128 g128 k128 e128 => ?_)
          have k29 : ai_hv t128 383 13 = some (.inl c) := (e128 383 13 (by omega)).trans kc
          have k30 : ai_hv t128 383 21 = some (.inl fh) := (e128 383 21 (by omega)).trans kf
          have s128 : px_S t128 (a + 1) f := ⟨g128, k128, (e128 383 8 (by omega)).trans s0.2.2.1, by omega, s0.2.2.2.2⟩
          refine ex_go (S := (41, [(2, .inl b25), (0, gx_r 383), (1, .inl e)], [gx_r 383], t128, n, 0)) rfl (fun _ => rfl) rfl ?_
          refine ex_go (S := (42, [(2, .inl b25), (0, gx_r 383), (1, .inl e)], [.inl e, gx_r 383], t128, n, 0)) rfl (fun _ => rfl) rfl ?_
          have hT32 := rT_keep (t' := t128) hT (fun c i h => e128 c i (by omega))
          obtain ⟨_, r131, t131, a131, f131, c131, rfl, x131, w131, wa131⟩ := h d n _ _ _ _ s128 hT32 (by omega) k29 (by omega) k30
          have s131 := x131.1
          have e131 := x131.2.1
          have k131 := x131.2.2.1
          have q131 := x131.2.2.2.1
          have b131 := s131.2.2.2
          refine gx_call0 rfl rfl s128.1 rfl rfl r131 rfl ?_
          have k33 : ai_hv t131 383 21 = some (.inl fh) := (e131 383 21 (by omega)).trans k30
          refine ex_go (S := (46, [(2, .inl b25), (0, gx_r 383), (1, .inl e)], [gx_r 383], t131, n, 0)) rfl (fun _ => rfl) rfl ?_
          refine ex_go (S := (47, [(2, .inl b25), (0, gx_r 383), (1, .inl e)], [.inl b25, gx_r 383], t131, n, 0)) rfl (fun _ => rfl) rfl ?_
          by_cases hc34 : b25 = 0
          · refine gx_1t (c := .eq) rfl (by omega) hc34 rfl ?_
            refine ex_go (S := (55, [(2, .inl b25), (0, gx_r 383), (1, .inl e)], [.inl 5, gx_r 383], t131, n, 0)) rfl (fun _ => rfl) rfl ?_
            refine ex_go (S := (56, [(2, .inl b25), (0, gx_r 383), (1, .inl e)], [.inl 0, .inl 5, gx_r 383], t131, n, 0)) rfl (fun _ => rfl) rfl ?_
            obtain ⟨_, r135, t135, rfl, s135, e135, k135, ko135, kz135⟩ := pk_emit (d + l + 3) n (s131) (o := 5) (z := 0) (by omega) (by omega) (by omega) k131
            have b135 := s135.2.2.2
            refine gx_call0 rfl rfl s131.1 rfl rfl r135 rfl ?_
            have k36 : ai_hv t135 383 21 = some (.inl fh) := (e135 383 21 (by omega)).trans k33
            refine ex_go (S := (5, [(2, .inl b25), (0, gx_r 383), (1, .inl e)], [], t135, n, 0)) rfl (fun _ => rfl) rfl ?_
            have hpf : f = 0 := by have := (q22.2.mp (by omega)).1; omega
            have hop : sp_op S m N 2 a := sp_op_2.mpr (Or.inr (q22.2.mp (by omega)).2)
            have w9 : Ev S m N fh 3 e (a + 1, 0) (a131, f131) := Ev_at w131 (by show a + 1 = a + 1; omega) (by show f = 0; omega)
            subst hpf
            have hT37 := rT_keep (t' := t135) hT (fun c i h => (e135 c i (by omega)).trans ((e131 c i (by omega)).trans (e128 c i (by omega))))
            refine ex_imp (fun o9 h9 => ?_) (ih t135 a131 f131 (c131 + 1) [(2, .inl b25)] (Or.inr ⟨b25, by omega, rfl⟩) (by omega) (px_X_bin hx rfl (by omega) (fun c i h => e128 c i (by omega)) x131 (by omega) s135 e135 k135 ko135 kz135) hT37 (by omega) k36)
            obtain ⟨r9, g0, t9, a9, f9, c9, g1, g2, g3, g4⟩ := h9
            exact ⟨r9, g0, t9, a9, f9, c9, g1, g2, Ev_more (by omega) (by omega) hop w9 g3, g4⟩
          · refine gx_1f (c := .eq) rfl (by omega) hc34 rfl ?_
            refine ex_go (S := (51, [(2, .inl b25), (0, gx_r 383), (1, .inl e)], [.inl 4, gx_r 383], t131, n, 0)) rfl (fun _ => rfl) rfl ?_
            refine ex_go (S := (55, [(2, .inl b25), (0, gx_r 383), (1, .inl e)], [.inl 4, gx_r 383], t131, n, 0)) rfl (fun _ => rfl) rfl ?_
            refine ex_go (S := (56, [(2, .inl b25), (0, gx_r 383), (1, .inl e)], [.inl 0, .inl 4, gx_r 383], t131, n, 0)) rfl (fun _ => rfl) rfl ?_
            obtain ⟨_, r138, t138, rfl, s138, e138, k138, ko138, kz138⟩ := pk_emit (d + l + 3) n (s131) (o := 4) (z := 0) (by omega) (by omega) (by omega) k131
            have b138 := s138.2.2.2
            refine gx_call0 rfl rfl s131.1 rfl rfl r138 rfl ?_
            have k39 : ai_hv t138 383 21 = some (.inl fh) := (e138 383 21 (by omega)).trans k33
            refine ex_go (S := (5, [(2, .inl b25), (0, gx_r 383), (1, .inl e)], [], t138, n, 0)) rfl (fun _ => rfl) rfl ?_
            have hpf : f = 0 := by have := (q22.2.mp (by omega)).1; omega
            have hop : sp_op S m N 2 a := sp_op_2.mpr (Or.inr (q22.2.mp (by omega)).2)
            have w9 : Ev S m N fh 3 e (a + 1, 0) (a131, f131) := Ev_at w131 (by show a + 1 = a + 1; omega) (by show f = 0; omega)
            subst hpf
            have hT40 := rT_keep (t' := t138) hT (fun c i h => (e138 c i (by omega)).trans ((e131 c i (by omega)).trans (e128 c i (by omega))))
            refine ex_imp (fun o9 h9 => ?_) (ih t138 a131 f131 (c131 + 1) [(2, .inl b25)] (Or.inr ⟨b25, by omega, rfl⟩) (by omega) (px_X_bin hx rfl (by omega) (fun c i h => e128 c i (by omega)) x131 (by omega) s138 e138 k138 ko138 kz138) hT40 (by omega) k39)
            obtain ⟨r9, g0, t9, a9, f9, c9, g1, g2, g3, g4⟩ := h9
            exact ⟨r9, g0, t9, a9, f9, c9, g1, g2, Ev_more (by omega) (by omega) hop w9 g3, g4⟩
theorem pe_sums {l e : Nat} (h : ∀ d, pe_C S m N fh (d + l + 4) 286 3 e) (he : e ≤ 5) (d : Nat) : pe_C S m N fh (d + l + 5) 282 2 e := by
  intro n t0 a f c s0 hT ha kc hca kf
  have b0 := s0.2.2.2
  have hN := hT.2.2.2.2.1
  refine en_u_ex (d := d + l + 4) rfl ?_
  show en_ex _ _ _ _ (0, [(0, gx_r 383), (1, .inl e)], [], t0, n, 0) _
  refine ex_go (S := (1, [(0, gx_r 383), (1, .inl e)], [gx_r 383], t0, n, 0)) rfl (fun _ => rfl) rfl ?_
  refine ex_go (S := (2, [(0, gx_r 383), (1, .inl e)], [.inl e, gx_r 383], t0, n, 0)) rfl (fun _ => rfl) rfl ?_
  obtain ⟨_, r101, t101, a101, f101, c101, rfl, x101, w101, wa101⟩ := h d n _ _ _ _ s0 hT (by omega) kc (by omega) kf
  have s101 := x101.1
  have e101 := x101.2.1
  have k101 := x101.2.2.1
  have q101 := x101.2.2.2.1
  have b101 := s101.2.2.2
  refine gx_call0 rfl rfl s0.1 rfl rfl r101 rfl ?_
  have k2 : ai_hv t101 383 21 = some (.inl fh) := (e101 383 21 (by omega)).trans kf
  have hT3 := rT_keep (t' := t101) hT (fun c i h => e101 c i (by omega))
  refine ex_imp (fun o9 h9 => ?_) (pe_sums_l h he d n hca 1000 t101 a101 f101 c101 [] (Or.inl rfl) (by omega) x101 hT3 (by omega) k2)
  obtain ⟨r9, g0, t9, a9, f9, c9, g1, g2, g3, g4⟩ := h9
  exact ⟨r9, g0, t9, a9, f9, c9, g1, g2, Ev_seq (by omega) w101 g3, g4⟩
theorem pe_test {l e : Nat} (h : ∀ d, pe_C S m N fh (d + l + 5) 282 2 e) (he : e ≤ 5) (d : Nat) : pe_C S m N fh (d + l + 6) 271 1 e := by
  intro n t0 a f c s0 hT ha kc hca kf
  have b0 := s0.2.2.2
  have hN := hT.2.2.2.2.1
  refine en_u_ex (d := d + l + 5) rfl ?_
  show en_ex _ _ _ _ (0, [(0, gx_r 383), (1, .inl e)], [], t0, n, 0) _
  refine ex_go (S := (1, [(0, gx_r 383), (1, .inl e)], [gx_r 383], t0, n, 0)) rfl (fun _ => rfl) rfl ?_
  refine ex_go (S := (2, [(0, gx_r 383), (1, .inl e)], [.inl e, gx_r 383], t0, n, 0)) rfl (fun _ => rfl) rfl ?_
  obtain ⟨_, r101, t101, a101, f101, c101, rfl, x101, w101, wa101⟩ := h d n _ _ _ _ s0 hT (by omega) kc (by omega) kf
  have s101 := x101.1
  have e101 := x101.2.1
  have k101 := x101.2.2.1
  have q101 := x101.2.2.2.1
  have b101 := s101.2.2.2
  refine gx_call0 rfl rfl s0.1 rfl rfl r101 rfl ?_
  have k2 : ai_hv t101 383 21 = some (.inl fh) := (e101 383 21 (by omega)).trans kf
  refine ex_go (S := (6, [(0, gx_r 383), (1, .inl e)], [gx_r 383], t101, n, 0)) rfl (fun _ => rfl) rfl ?_
  refine ex_go (S := (8, [(0, gx_r 383), (1, .inl e)], [.inl 60, gx_r 383], t101, n, 0)) rfl (fun _ => rfl) rfl ?_
  have hT6 := rT_keep (t' := t101) hT (fun c i h => e101 c i (by omega))
  obtain ⟨_, r5, b3, rfl, q4⟩ := pe_isSign (d + l + 4) n (s101) hT6 (by omega) (w := 60) (by omega)
  refine gx_call1 rfl rfl s101.1 rfl rfl r5 rfl ?_
  refine ex_go (S := (12, [(2, .inl b3), (0, gx_r 383), (1, .inl e)], [], t101, n, 0)) rfl (fun _ => rfl) rfl ?_
  refine ex_go (S := (13, [(2, .inl b3), (0, gx_r 383), (1, .inl e)], [gx_r 383], t101, n, 0)) rfl (fun _ => rfl) rfl ?_
  refine ex_go (S := (15, [(2, .inl b3), (0, gx_r 383), (1, .inl e)], [.inl 60, gx_r 383], t101, n, 0)) rfl (fun _ => rfl) rfl ?_
  obtain ⟨_, r107, v107, t107, a107, f107, rfl, s107, e107, q107⟩ := pe_hasSign (d + l + 3) n (s101) hT6 (by omega) (w := 60) (by omega)
  have b107 := s107.2.2.2
  have hlq107 : v107 = 1 → a101 < N := fun z => (q107.2.mp z).2.1
  refine gx_call1 rfl rfl s101.1 rfl rfl r107 rfl ?_
  have k8 : ai_hv t107 383 21 = some (.inl fh) := (e107 383 21 (by omega)).trans k2
  have k9 : ai_hv t107 383 13 = some (.inl c101) := (e107 383 13 (by omega)).trans k101
  by_cases hc10 : v107 ≠ 0
  · refine gx_1t (c := .ne) rfl (by omega) hc10 rfl ?_
    refine ex_go (S := (31, [(2, .inl b3), (0, gx_r 383), (1, .inl e)], [gx_r 383], t107, n, 0)) rfl (fun _ => rfl) rfl ?_
    refine ex_go (S := (32, [(2, .inl b3), (0, gx_r 383), (1, .inl e)], [.inl e, gx_r 383], t107, n, 0)) rfl (fun _ => rfl) rfl ?_
    have hT12 := rT_keep (t' := t107) hT (fun c i h => (e107 c i (by omega)).trans (e101 c i (by omega)))
    obtain ⟨_, r111, t111, a111, f111, c111, rfl, x111, w111, wa111⟩ := h d n _ _ _ _ s107 hT12 (by omega) k9 (by omega) k8
    have s111 := x111.1
    have e111 := x111.2.1
    have k111 := x111.2.2.1
    have q111 := x111.2.2.2.1
    have b111 := s111.2.2.2
    refine gx_call0 rfl rfl s107.1 rfl rfl r111 rfl ?_
    have k13 : ai_hv t111 383 21 = some (.inl fh) := (e111 383 21 (by omega)).trans k8
    refine ex_go (S := (36, [(2, .inl b3), (0, gx_r 383), (1, .inl e)], [gx_r 383], t111, n, 0)) rfl (fun _ => rfl) rfl ?_
    refine ex_go (S := (37, [(2, .inl b3), (0, gx_r 383), (1, .inl e)], [.inl b3, gx_r 383], t111, n, 0)) rfl (fun _ => rfl) rfl ?_
    by_cases hc14 : b3 = 0
    · refine gx_1t (c := .eq) rfl (by omega) hc14 rfl ?_
      refine ex_go (S := (47, [(2, .inl b3), (0, gx_r 383), (1, .inl e)], [.inl 8, gx_r 383], t111, n, 0)) rfl (fun _ => rfl) rfl ?_
      refine ex_go (S := (48, [(2, .inl b3), (0, gx_r 383), (1, .inl e)], [.inl 0, .inl 8, gx_r 383], t111, n, 0)) rfl (fun _ => rfl) rfl ?_
      obtain ⟨_, r115, t115, rfl, s115, e115, k115, ko115, kz115⟩ := pk_emit (d + l + 4) n (s111) (o := 8) (z := 0) (by omega) (by omega) (by omega) k111
      have b115 := s115.2.2.2
      refine gx_call0 rfl rfl s111.1 rfl rfl r115 rfl ?_
      have k16 : ai_hv t115 383 21 = some (.inl fh) := (e115 383 21 (by omega)).trans k13
      refine ex_ret (r := (none, t115, n, 0)) rfl (fun _ => rfl) ?_
      have hpf : f101 = 0 := by have := (q107.2.mp (by omega)).1; omega
      have hop : sp_op S m N 1 a101 := sp_op_1.mpr (Or.inl (q107.2.mp (by omega)).2)
      have w9 : Ev S m N fh 2 e (a101 + 1, 0) (a111, f111) := Ev_at w111 (by show a107 = a101 + 1; omega) (by show f107 = 0; omega)
      exact ⟨_, rfl, t115, a111, f111, c111 + 1, rfl, px_X_bin x101 (by omega) (by omega) (fun c i h => e107 c i (by omega)) x111 (by omega) s115 e115 k115 ko115 kz115, Ev_seq (by omega) w101 (Ev_at (Ev_once hop w9) rfl (by show 0 = f101; omega)), by omega⟩
    · refine gx_1f (c := .eq) rfl (by omega) hc14 rfl ?_
      refine ex_go (S := (42, [(2, .inl b3), (0, gx_r 383), (1, .inl e)], [.inl 7, gx_r 383], t111, n, 0)) rfl (fun _ => rfl) rfl ?_
      refine ex_go (S := (47, [(2, .inl b3), (0, gx_r 383), (1, .inl e)], [.inl 7, gx_r 383], t111, n, 0)) rfl (fun _ => rfl) rfl ?_
      refine ex_go (S := (48, [(2, .inl b3), (0, gx_r 383), (1, .inl e)], [.inl 0, .inl 7, gx_r 383], t111, n, 0)) rfl (fun _ => rfl) rfl ?_
      obtain ⟨_, r117, t117, rfl, s117, e117, k117, ko117, kz117⟩ := pk_emit (d + l + 4) n (s111) (o := 7) (z := 0) (by omega) (by omega) (by omega) k111
      have b117 := s117.2.2.2
      refine gx_call0 rfl rfl s111.1 rfl rfl r117 rfl ?_
      have k18 : ai_hv t117 383 21 = some (.inl fh) := (e117 383 21 (by omega)).trans k13
      refine ex_ret (r := (none, t117, n, 0)) rfl (fun _ => rfl) ?_
      have hpf : f101 = 0 := by have := (q107.2.mp (by omega)).1; omega
      have hop : sp_op S m N 1 a101 := sp_op_1.mpr (Or.inl (q107.2.mp (by omega)).2)
      have w9 : Ev S m N fh 2 e (a101 + 1, 0) (a111, f111) := Ev_at w111 (by show a107 = a101 + 1; omega) (by show f107 = 0; omega)
      exact ⟨_, rfl, t117, a111, f111, c111 + 1, rfl, px_X_bin x101 (by omega) (by omega) (fun c i h => e107 c i (by omega)) x111 (by omega) s117 e117 k117 ko117 kz117, Ev_seq (by omega) w101 (Ev_at (Ev_once hop w9) rfl (by show 0 = f101; omega)), by omega⟩
  · refine gx_1f (c := .ne) rfl (by omega) hc10 rfl ?_
    refine ex_go (S := (22, [(2, .inl b3), (0, gx_r 383), (1, .inl e)], [gx_r 383], t107, n, 0)) rfl (fun _ => rfl) rfl ?_
    refine ex_go (S := (24, [(2, .inl b3), (0, gx_r 383), (1, .inl e)], [.inl 61, gx_r 383], t107, n, 0)) rfl (fun _ => rfl) rfl ?_
    have hT20 := rT_keep (t' := t107) hT (fun c i h => (e107 c i (by omega)).trans (e101 c i (by omega)))
    obtain ⟨_, r119, v119, t119, a119, f119, rfl, s119, e119, q119⟩ := pe_hasSign (d + l + 3) n (s107) hT20 (by omega) (w := 61) (by omega)
    have b119 := s119.2.2.2
    have hlq119 : v119 = 1 → a107 < N := fun z => (q119.2.mp z).2.1
    refine gx_call1 rfl rfl s107.1 rfl rfl r119 rfl ?_
    have k21 : ai_hv t119 383 21 = some (.inl fh) := (e119 383 21 (by omega)).trans k8
    have k22 : ai_hv t119 383 13 = some (.inl c101) := (e119 383 13 (by omega)).trans k9
    by_cases hc23 : v119 = 0
    · refine gx_1t (c := .eq) rfl (by omega) hc23 rfl ?_
      refine ex_ret (r := (none, t119, n, 0)) rfl (fun _ => rfl) ?_
      have hno : f101 = 0 → ¬ sp_op S m N 1 a101 := fun hf z => by
        rcases sp_op_1.mp z with z | z
        · exact absurd (q107.2.mpr ⟨hf, z⟩) (by omega)
        · exact absurd (q119.2.mpr ⟨by omega, by rw [show a107 = a101 by omega]; exact z⟩) (by omega)
      exact ⟨_, rfl, t119, a119, f119, c101, rfl, px_X_same x101 (fun c i h => (e119 c i (by omega)).trans (e107 c i (by omega))) s119 (by omega) (by omega), Ev_seq (by omega) w101 (Ev_to (Ev_exit (by omega) hno) (by show a101 = a119; omega) (by show f101 = f119; omega)), by omega⟩
    · refine gx_1f (c := .eq) rfl (by omega) hc23 rfl ?_
      refine ex_go (S := (31, [(2, .inl b3), (0, gx_r 383), (1, .inl e)], [gx_r 383], t119, n, 0)) rfl (fun _ => rfl) rfl ?_
      refine ex_go (S := (32, [(2, .inl b3), (0, gx_r 383), (1, .inl e)], [.inl e, gx_r 383], t119, n, 0)) rfl (fun _ => rfl) rfl ?_
      have hT25 := rT_keep (t' := t119) hT (fun c i h => (e119 c i (by omega)).trans ((e107 c i (by omega)).trans (e101 c i (by omega))))
      obtain ⟨_, r124, t124, a124, f124, c124, rfl, x124, w124, wa124⟩ := h d n _ _ _ _ s119 hT25 (by omega) k22 (by omega) k21
      have s124 := x124.1
      have e124 := x124.2.1
      have k124 := x124.2.2.1
      have q124 := x124.2.2.2.1
      have b124 := s124.2.2.2
      refine gx_call0 rfl rfl s119.1 rfl rfl r124 rfl ?_
      have k26 : ai_hv t124 383 21 = some (.inl fh) := (e124 383 21 (by omega)).trans k21
      refine ex_go (S := (36, [(2, .inl b3), (0, gx_r 383), (1, .inl e)], [gx_r 383], t124, n, 0)) rfl (fun _ => rfl) rfl ?_
      refine ex_go (S := (37, [(2, .inl b3), (0, gx_r 383), (1, .inl e)], [.inl b3, gx_r 383], t124, n, 0)) rfl (fun _ => rfl) rfl ?_
      by_cases hc27 : b3 = 0
      · refine gx_1t (c := .eq) rfl (by omega) hc27 rfl ?_
        refine ex_go (S := (47, [(2, .inl b3), (0, gx_r 383), (1, .inl e)], [.inl 8, gx_r 383], t124, n, 0)) rfl (fun _ => rfl) rfl ?_
        refine ex_go (S := (48, [(2, .inl b3), (0, gx_r 383), (1, .inl e)], [.inl 0, .inl 8, gx_r 383], t124, n, 0)) rfl (fun _ => rfl) rfl ?_
        obtain ⟨_, r128, t128, rfl, s128, e128, k128, ko128, kz128⟩ := pk_emit (d + l + 4) n (s124) (o := 8) (z := 0) (by omega) (by omega) (by omega) k124
        have b128 := s128.2.2.2
        refine gx_call0 rfl rfl s124.1 rfl rfl r128 rfl ?_
        have k29 : ai_hv t128 383 21 = some (.inl fh) := (e128 383 21 (by omega)).trans k26
        refine ex_ret (r := (none, t128, n, 0)) rfl (fun _ => rfl) ?_
        have hpf : f101 = 0 := by have := (q119.2.mp (by omega)).1; omega
        have hop : sp_op S m N 1 a101 := sp_op_1.mpr (Or.inr (by have z9 := (q119.2.mp (by omega)).2; rw [show a107 = a101 by omega] at z9; exact z9))
        have w9 : Ev S m N fh 2 e (a101 + 1, 0) (a124, f124) := Ev_at w124 (by show a119 = a101 + 1; omega) (by show f119 = 0; omega)
        exact ⟨_, rfl, t128, a124, f124, c124 + 1, rfl, px_X_bin x101 (by omega) (by omega) (fun c i h => (e119 c i (by omega)).trans (e107 c i (by omega))) x124 (by omega) s128 e128 k128 ko128 kz128, Ev_seq (by omega) w101 (Ev_at (Ev_once hop w9) rfl (by show 0 = f101; omega)), by omega⟩
      · refine gx_1f (c := .eq) rfl (by omega) hc27 rfl ?_
        refine ex_go (S := (42, [(2, .inl b3), (0, gx_r 383), (1, .inl e)], [.inl 7, gx_r 383], t124, n, 0)) rfl (fun _ => rfl) rfl ?_
        refine ex_go (S := (47, [(2, .inl b3), (0, gx_r 383), (1, .inl e)], [.inl 7, gx_r 383], t124, n, 0)) rfl (fun _ => rfl) rfl ?_
        refine ex_go (S := (48, [(2, .inl b3), (0, gx_r 383), (1, .inl e)], [.inl 0, .inl 7, gx_r 383], t124, n, 0)) rfl (fun _ => rfl) rfl ?_
        obtain ⟨_, r130, t130, rfl, s130, e130, k130, ko130, kz130⟩ := pk_emit (d + l + 4) n (s124) (o := 7) (z := 0) (by omega) (by omega) (by omega) k124
        have b130 := s130.2.2.2
        refine gx_call0 rfl rfl s124.1 rfl rfl r130 rfl ?_
        have k31 : ai_hv t130 383 21 = some (.inl fh) := (e130 383 21 (by omega)).trans k26
        refine ex_ret (r := (none, t130, n, 0)) rfl (fun _ => rfl) ?_
        have hpf : f101 = 0 := by have := (q119.2.mp (by omega)).1; omega
        have hop : sp_op S m N 1 a101 := sp_op_1.mpr (Or.inr (by have z9 := (q119.2.mp (by omega)).2; rw [show a107 = a101 by omega] at z9; exact z9))
        have w9 : Ev S m N fh 2 e (a101 + 1, 0) (a124, f124) := Ev_at w124 (by show a119 = a101 + 1; omega) (by show f119 = 0; omega)
        exact ⟨_, rfl, t130, a124, f124, c124 + 1, rfl, px_X_bin x101 (by omega) (by omega) (fun c i h => (e119 c i (by omega)).trans (e107 c i (by omega))) x124 (by omega) s130 e130 k130 ko130 kz130, Ev_seq (by omega) w101 (Ev_at (Ev_once hop w9) rfl (by show 0 = f101; omega)), by omega⟩
theorem pe_all_l {l e : Nat} (h : ∀ d, pe_C S m N fh (d + l + 6) 271 1 e) (he : e ≤ 5) (d n : Nat) {tb : en_H} {ab fb cb : Nat} (hcb : cb ≤ ab) : ∀ j t0 a f c lx, (lx = [] ∨ ∃ b, b ≤ 1 ∧ lx = [(2, .inl b)]) → 1000 ≤ a + j → px_X tb ab fb cb t0 a f c → rT t0 S m N → a ≤ N → ai_hv t0 383 21 = some (.inl fh) → en_ex none (en_u (d + l + 6)) (en_code 247) (fun _ => false) (5, lx ++ [(0, gx_r 383), (1, .inl e)], [], t0, n, 0) (fun o => ∃ r, o = .inl r ∧ ∃ t' a' f' c', r = (none, t', n, 0) ∧ px_X tb ab fb cb t' a' f' c' ∧ Ev S m N fh 5 e (a, f) (a', f') ∧ a' ≤ N) := by
  intro j
  induction j with
  | zero =>
    intro t0 a f c lx hlx hj hx hT ha kf
    have s0 := hx.1
    have kc := hx.2.2.1
    have q0 := hx.2.2.2.1
    have b0 := s0.2.2.2
    have hN := hT.2.2.2.2.1
    rcases hlx with rfl | ⟨bx, hbx, rfl⟩
    · show en_ex _ _ _ _ (5, [(0, gx_r 383), (1, .inl e)], [], t0, n, 0) _
      refine ex_go (S := (6, [(0, gx_r 383), (1, .inl e)], [gx_r 383], t0, n, 0)) rfl (fun _ => rfl) rfl ?_
      refine ex_go (S := (8, [(0, gx_r 383), (1, .inl e)], [.inl 36, gx_r 383], t0, n, 0)) rfl (fun _ => rfl) rfl ?_
      obtain ⟨_, r3, b1, rfl, q2⟩ := pe_isWord (d + l + 5) n (s0) hT (by omega) (w := 36) (by omega)
      refine gx_call1 rfl rfl s0.1 rfl rfl r3 rfl ?_
      have hlq2 : b1 = 1 → a < N := fun z => (q2.2.mp z).2.1
      by_cases hc4 : b1 ≠ 0
      · refine gx_1t (c := .ne) rfl (by omega) hc4 rfl ?_
        refine ex_go (S := (24, [(0, gx_r 383), (1, .inl e)], [gx_r 383], t0, n, 0)) rfl (fun _ => rfl) rfl ?_
        refine ex_go (S := (26, [(0, gx_r 383), (1, .inl e)], [.inl 36, gx_r 383], t0, n, 0)) rfl (fun _ => rfl) rfl ?_
        obtain ⟨_, r7, b5, rfl, q6⟩ := pe_isWord (d + l + 5) n (s0) hT (by omega) (w := 36) (by omega)
        refine gx_call1 rfl rfl s0.1 rfl rfl r7 rfl ?_
        have hlq6 : b5 = 1 → a < N := fun z => (q6.2.mp z).2.1
        refine ex_go (S := (30, [(2, .inl b5), (0, gx_r 383), (1, .inl e)], [], t0, n, 0)) rfl (fun _ => rfl) rfl ?_
        refine ex_go (S := (31, [(2, .inl b5), (0, gx_r 383), (1, .inl e)], [gx_r 383], t0, n, 0)) rfl (fun _ => rfl) rfl ?_
        refine ex_go (S := (32, [(2, .inl b5), (0, gx_r 383), (1, .inl e)], [gx_r 383, gx_r 383], t0, n, 0)) rfl (fun _ => rfl) rfl ?_
        refine gx_get rfl s0.1 rfl s0.2.1 rfl ?_
        refine ex_go (S := (36, [(2, .inl b5), (0, gx_r 383), (1, .inl e)], [.inl 1, .inl a, gx_r 383], t0, n, 0)) rfl (fun _ => rfl) rfl ?_
        refine ex_iadd rfl (by omega) rfl ?_
        refine gx_put rfl s0.1 rfl rfl (ai_in_h (by omega) (by omega) (by omega)) rfl (fun t108 g108 k108 e108 => ?_)
        have k9 : ai_hv t108 383 13 = some (.inl c) := (e108 383 13 (by omega)).trans kc
        have k10 : ai_hv t108 383 21 = some (.inl fh) := (e108 383 21 (by omega)).trans kf
        have s108 : px_S t108 (a + 1) f := ⟨g108, k108, (e108 383 8 (by omega)).trans s0.2.2.1, by omega, s0.2.2.2.2⟩
        refine ex_go (S := (41, [(2, .inl b5), (0, gx_r 383), (1, .inl e)], [gx_r 383], t108, n, 0)) rfl (fun _ => rfl) rfl ?_
        refine ex_go (S := (42, [(2, .inl b5), (0, gx_r 383), (1, .inl e)], [.inl e, gx_r 383], t108, n, 0)) rfl (fun _ => rfl) rfl ?_
        have hT12 := rT_keep (t' := t108) hT (fun c i h => e108 c i (by omega))
        obtain ⟨_, r111, t111, a111, f111, c111, rfl, x111, w111, wa111⟩ := h d n _ _ _ _ s108 hT12 (by omega) k9 (by omega) k10
        have s111 := x111.1
        have e111 := x111.2.1
        have k111 := x111.2.2.1
        have q111 := x111.2.2.2.1
        have b111 := s111.2.2.2
        refine gx_call0 rfl rfl s108.1 rfl rfl r111 rfl ?_
        have k13 : ai_hv t111 383 21 = some (.inl fh) := (e111 383 21 (by omega)).trans k10
        refine ex_go (S := (46, [(2, .inl b5), (0, gx_r 383), (1, .inl e)], [gx_r 383], t111, n, 0)) rfl (fun _ => rfl) rfl ?_
        refine ex_go (S := (47, [(2, .inl b5), (0, gx_r 383), (1, .inl e)], [.inl b5, gx_r 383], t111, n, 0)) rfl (fun _ => rfl) rfl ?_
        by_cases hc14 : b5 = 0
        · refine gx_1t (c := .eq) rfl (by omega) hc14 rfl ?_
          refine ex_go (S := (57, [(2, .inl b5), (0, gx_r 383), (1, .inl e)], [.inl 10, gx_r 383], t111, n, 0)) rfl (fun _ => rfl) rfl ?_
          refine ex_go (S := (58, [(2, .inl b5), (0, gx_r 383), (1, .inl e)], [.inl 0, .inl 10, gx_r 383], t111, n, 0)) rfl (fun _ => rfl) rfl ?_
          obtain ⟨_, r115, t115, rfl, s115, e115, k115, ko115, kz115⟩ := pk_emit (d + l + 5) n (s111) (o := 10) (z := 0) (by omega) (by omega) (by omega) k111
          have b115 := s115.2.2.2
          refine gx_call0 rfl rfl s111.1 rfl rfl r115 rfl ?_
          have k16 : ai_hv t115 383 21 = some (.inl fh) := (e115 383 21 (by omega)).trans k13
          refine ex_go (S := (5, [(2, .inl b5), (0, gx_r 383), (1, .inl e)], [], t115, n, 0)) rfl (fun _ => rfl) rfl ?_
          exfalso; omega
        · refine gx_1f (c := .eq) rfl (by omega) hc14 rfl ?_
          refine ex_go (S := (52, [(2, .inl b5), (0, gx_r 383), (1, .inl e)], [.inl 9, gx_r 383], t111, n, 0)) rfl (fun _ => rfl) rfl ?_
          refine ex_go (S := (57, [(2, .inl b5), (0, gx_r 383), (1, .inl e)], [.inl 9, gx_r 383], t111, n, 0)) rfl (fun _ => rfl) rfl ?_
          refine ex_go (S := (58, [(2, .inl b5), (0, gx_r 383), (1, .inl e)], [.inl 0, .inl 9, gx_r 383], t111, n, 0)) rfl (fun _ => rfl) rfl ?_
          obtain ⟨_, r117, t117, rfl, s117, e117, k117, ko117, kz117⟩ := pk_emit (d + l + 5) n (s111) (o := 9) (z := 0) (by omega) (by omega) (by omega) k111
          have b117 := s117.2.2.2
          refine gx_call0 rfl rfl s111.1 rfl rfl r117 rfl ?_
          have k18 : ai_hv t117 383 21 = some (.inl fh) := (e117 383 21 (by omega)).trans k13
          refine ex_go (S := (5, [(2, .inl b5), (0, gx_r 383), (1, .inl e)], [], t117, n, 0)) rfl (fun _ => rfl) rfl ?_
          exfalso; omega
      · refine gx_1f (c := .ne) rfl (by omega) hc4 rfl ?_
        refine ex_go (S := (15, [(0, gx_r 383), (1, .inl e)], [gx_r 383], t0, n, 0)) rfl (fun _ => rfl) rfl ?_
        refine ex_go (S := (17, [(0, gx_r 383), (1, .inl e)], [.inl 37, gx_r 383], t0, n, 0)) rfl (fun _ => rfl) rfl ?_
        obtain ⟨_, r21, b19, rfl, q20⟩ := pe_isWord (d + l + 5) n (s0) hT (by omega) (w := 37) (by omega)
        refine gx_call1 rfl rfl s0.1 rfl rfl r21 rfl ?_
        have hlq20 : b19 = 1 → a < N := fun z => (q20.2.mp z).2.1
        by_cases hc22 : b19 = 0
        · refine gx_1t (c := .eq) rfl (by omega) hc22 rfl ?_
          refine ex_ret (r := (none, t0, n, 0)) rfl (fun _ => rfl) ?_
          have hno : f = 0 → ¬ sp_op S m N 0 a := fun hf z => by
              rcases sp_op_0.mp z with z | z
              · exact absurd (q2.2.mpr ⟨hf, z⟩) (by omega)
              · exact absurd (q20.2.mpr ⟨hf, z⟩) (by omega)
          exact ⟨_, rfl, t0, a, f, c, rfl, px_X_same hx (fun _ _ _ => rfl) s0 (by omega) (by omega), Ev_to (Ev_exit (by omega) hno) (by show a = a; omega) (by show f = f; omega), by omega⟩
        · refine gx_1f (c := .eq) rfl (by omega) hc22 rfl ?_
          refine ex_go (S := (24, [(0, gx_r 383), (1, .inl e)], [gx_r 383], t0, n, 0)) rfl (fun _ => rfl) rfl ?_
          refine ex_go (S := (26, [(0, gx_r 383), (1, .inl e)], [.inl 36, gx_r 383], t0, n, 0)) rfl (fun _ => rfl) rfl ?_
          obtain ⟨_, r25, b23, rfl, q24⟩ := pe_isWord (d + l + 5) n (s0) hT (by omega) (w := 36) (by omega)
          refine gx_call1 rfl rfl s0.1 rfl rfl r25 rfl ?_
          have hlq24 : b23 = 1 → a < N := fun z => (q24.2.mp z).2.1
          refine ex_go (S := (30, [(2, .inl b23), (0, gx_r 383), (1, .inl e)], [], t0, n, 0)) rfl (fun _ => rfl) rfl ?_
          refine ex_go (S := (31, [(2, .inl b23), (0, gx_r 383), (1, .inl e)], [gx_r 383], t0, n, 0)) rfl (fun _ => rfl) rfl ?_
          refine ex_go (S := (32, [(2, .inl b23), (0, gx_r 383), (1, .inl e)], [gx_r 383, gx_r 383], t0, n, 0)) rfl (fun _ => rfl) rfl ?_
          refine gx_get rfl s0.1 rfl s0.2.1 rfl ?_
          refine ex_go (S := (36, [(2, .inl b23), (0, gx_r 383), (1, .inl e)], [.inl 1, .inl a, gx_r 383], t0, n, 0)) rfl (fun _ => rfl) rfl ?_
          refine ex_iadd rfl (by omega) rfl ?_
          refine gx_put rfl s0.1 rfl rfl (ai_in_h (by omega) (by omega) (by omega)) rfl (fun t126 g126 k126 e126 => ?_)
          have k27 : ai_hv t126 383 13 = some (.inl c) := (e126 383 13 (by omega)).trans kc
          have k28 : ai_hv t126 383 21 = some (.inl fh) := (e126 383 21 (by omega)).trans kf
          have s126 : px_S t126 (a + 1) f := ⟨g126, k126, (e126 383 8 (by omega)).trans s0.2.2.1, by omega, s0.2.2.2.2⟩
          refine ex_go (S := (41, [(2, .inl b23), (0, gx_r 383), (1, .inl e)], [gx_r 383], t126, n, 0)) rfl (fun _ => rfl) rfl ?_
          refine ex_go (S := (42, [(2, .inl b23), (0, gx_r 383), (1, .inl e)], [.inl e, gx_r 383], t126, n, 0)) rfl (fun _ => rfl) rfl ?_
          have hT30 := rT_keep (t' := t126) hT (fun c i h => e126 c i (by omega))
          obtain ⟨_, r129, t129, a129, f129, c129, rfl, x129, w129, wa129⟩ := h d n _ _ _ _ s126 hT30 (by omega) k27 (by omega) k28
          have s129 := x129.1
          have e129 := x129.2.1
          have k129 := x129.2.2.1
          have q129 := x129.2.2.2.1
          have b129 := s129.2.2.2
          refine gx_call0 rfl rfl s126.1 rfl rfl r129 rfl ?_
          have k31 : ai_hv t129 383 21 = some (.inl fh) := (e129 383 21 (by omega)).trans k28
          refine ex_go (S := (46, [(2, .inl b23), (0, gx_r 383), (1, .inl e)], [gx_r 383], t129, n, 0)) rfl (fun _ => rfl) rfl ?_
          refine ex_go (S := (47, [(2, .inl b23), (0, gx_r 383), (1, .inl e)], [.inl b23, gx_r 383], t129, n, 0)) rfl (fun _ => rfl) rfl ?_
          by_cases hc32 : b23 = 0
          · refine gx_1t (c := .eq) rfl (by omega) hc32 rfl ?_
            refine ex_go (S := (57, [(2, .inl b23), (0, gx_r 383), (1, .inl e)], [.inl 10, gx_r 383], t129, n, 0)) rfl (fun _ => rfl) rfl ?_
            refine ex_go (S := (58, [(2, .inl b23), (0, gx_r 383), (1, .inl e)], [.inl 0, .inl 10, gx_r 383], t129, n, 0)) rfl (fun _ => rfl) rfl ?_
            obtain ⟨_, r133, t133, rfl, s133, e133, k133, ko133, kz133⟩ := pk_emit (d + l + 5) n (s129) (o := 10) (z := 0) (by omega) (by omega) (by omega) k129
            have b133 := s133.2.2.2
            refine gx_call0 rfl rfl s129.1 rfl rfl r133 rfl ?_
            have k34 : ai_hv t133 383 21 = some (.inl fh) := (e133 383 21 (by omega)).trans k31
            refine ex_go (S := (5, [(2, .inl b23), (0, gx_r 383), (1, .inl e)], [], t133, n, 0)) rfl (fun _ => rfl) rfl ?_
            exfalso; omega
          · refine gx_1f (c := .eq) rfl (by omega) hc32 rfl ?_
            refine ex_go (S := (52, [(2, .inl b23), (0, gx_r 383), (1, .inl e)], [.inl 9, gx_r 383], t129, n, 0)) rfl (fun _ => rfl) rfl ?_
            refine ex_go (S := (57, [(2, .inl b23), (0, gx_r 383), (1, .inl e)], [.inl 9, gx_r 383], t129, n, 0)) rfl (fun _ => rfl) rfl ?_
            refine ex_go (S := (58, [(2, .inl b23), (0, gx_r 383), (1, .inl e)], [.inl 0, .inl 9, gx_r 383], t129, n, 0)) rfl (fun _ => rfl) rfl ?_
            obtain ⟨_, r135, t135, rfl, s135, e135, k135, ko135, kz135⟩ := pk_emit (d + l + 5) n (s129) (o := 9) (z := 0) (by omega) (by omega) (by omega) k129
            have b135 := s135.2.2.2
            refine gx_call0 rfl rfl s129.1 rfl rfl r135 rfl ?_
            have k36 : ai_hv t135 383 21 = some (.inl fh) := (e135 383 21 (by omega)).trans k31
            refine ex_go (S := (5, [(2, .inl b23), (0, gx_r 383), (1, .inl e)], [], t135, n, 0)) rfl (fun _ => rfl) rfl ?_
            exfalso; omega
    · show en_ex _ _ _ _ (5, [(2, .inl bx), (0, gx_r 383), (1, .inl e)], [], t0, n, 0) _
      refine ex_go (S := (6, [(2, .inl bx), (0, gx_r 383), (1, .inl e)], [gx_r 383], t0, n, 0)) rfl (fun _ => rfl) rfl ?_
      refine ex_go (S := (8, [(2, .inl bx), (0, gx_r 383), (1, .inl e)], [.inl 36, gx_r 383], t0, n, 0)) rfl (fun _ => rfl) rfl ?_
      obtain ⟨_, r3, b1, rfl, q2⟩ := pe_isWord (d + l + 5) n (s0) hT (by omega) (w := 36) (by omega)
      refine gx_call1 rfl rfl s0.1 rfl rfl r3 rfl ?_
      have hlq2 : b1 = 1 → a < N := fun z => (q2.2.mp z).2.1
      by_cases hc4 : b1 ≠ 0
      · refine gx_1t (c := .ne) rfl (by omega) hc4 rfl ?_
        refine ex_go (S := (24, [(2, .inl bx), (0, gx_r 383), (1, .inl e)], [gx_r 383], t0, n, 0)) rfl (fun _ => rfl) rfl ?_
        refine ex_go (S := (26, [(2, .inl bx), (0, gx_r 383), (1, .inl e)], [.inl 36, gx_r 383], t0, n, 0)) rfl (fun _ => rfl) rfl ?_
        obtain ⟨_, r7, b5, rfl, q6⟩ := pe_isWord (d + l + 5) n (s0) hT (by omega) (w := 36) (by omega)
        refine gx_call1 rfl rfl s0.1 rfl rfl r7 rfl ?_
        have hlq6 : b5 = 1 → a < N := fun z => (q6.2.mp z).2.1
        refine ex_go (S := (30, [(2, .inl b5), (0, gx_r 383), (1, .inl e)], [], t0, n, 0)) rfl (fun _ => rfl) rfl ?_
        refine ex_go (S := (31, [(2, .inl b5), (0, gx_r 383), (1, .inl e)], [gx_r 383], t0, n, 0)) rfl (fun _ => rfl) rfl ?_
        refine ex_go (S := (32, [(2, .inl b5), (0, gx_r 383), (1, .inl e)], [gx_r 383, gx_r 383], t0, n, 0)) rfl (fun _ => rfl) rfl ?_
        refine gx_get rfl s0.1 rfl s0.2.1 rfl ?_
        refine ex_go (S := (36, [(2, .inl b5), (0, gx_r 383), (1, .inl e)], [.inl 1, .inl a, gx_r 383], t0, n, 0)) rfl (fun _ => rfl) rfl ?_
        refine ex_iadd rfl (by omega) rfl ?_
        refine gx_put rfl s0.1 rfl rfl (ai_in_h (by omega) (by omega) (by omega)) rfl (fun t108 g108 k108 e108 => ?_)
        have k9 : ai_hv t108 383 13 = some (.inl c) := (e108 383 13 (by omega)).trans kc
        have k10 : ai_hv t108 383 21 = some (.inl fh) := (e108 383 21 (by omega)).trans kf
        have s108 : px_S t108 (a + 1) f := ⟨g108, k108, (e108 383 8 (by omega)).trans s0.2.2.1, by omega, s0.2.2.2.2⟩
        refine ex_go (S := (41, [(2, .inl b5), (0, gx_r 383), (1, .inl e)], [gx_r 383], t108, n, 0)) rfl (fun _ => rfl) rfl ?_
        refine ex_go (S := (42, [(2, .inl b5), (0, gx_r 383), (1, .inl e)], [.inl e, gx_r 383], t108, n, 0)) rfl (fun _ => rfl) rfl ?_
        have hT12 := rT_keep (t' := t108) hT (fun c i h => e108 c i (by omega))
        obtain ⟨_, r111, t111, a111, f111, c111, rfl, x111, w111, wa111⟩ := h d n _ _ _ _ s108 hT12 (by omega) k9 (by omega) k10
        have s111 := x111.1
        have e111 := x111.2.1
        have k111 := x111.2.2.1
        have q111 := x111.2.2.2.1
        have b111 := s111.2.2.2
        refine gx_call0 rfl rfl s108.1 rfl rfl r111 rfl ?_
        have k13 : ai_hv t111 383 21 = some (.inl fh) := (e111 383 21 (by omega)).trans k10
        refine ex_go (S := (46, [(2, .inl b5), (0, gx_r 383), (1, .inl e)], [gx_r 383], t111, n, 0)) rfl (fun _ => rfl) rfl ?_
        refine ex_go (S := (47, [(2, .inl b5), (0, gx_r 383), (1, .inl e)], [.inl b5, gx_r 383], t111, n, 0)) rfl (fun _ => rfl) rfl ?_
        by_cases hc14 : b5 = 0
        · refine gx_1t (c := .eq) rfl (by omega) hc14 rfl ?_
          refine ex_go (S := (57, [(2, .inl b5), (0, gx_r 383), (1, .inl e)], [.inl 10, gx_r 383], t111, n, 0)) rfl (fun _ => rfl) rfl ?_
          refine ex_go (S := (58, [(2, .inl b5), (0, gx_r 383), (1, .inl e)], [.inl 0, .inl 10, gx_r 383], t111, n, 0)) rfl (fun _ => rfl) rfl ?_
          obtain ⟨_, r115, t115, rfl, s115, e115, k115, ko115, kz115⟩ := pk_emit (d + l + 5) n (s111) (o := 10) (z := 0) (by omega) (by omega) (by omega) k111
          have b115 := s115.2.2.2
          refine gx_call0 rfl rfl s111.1 rfl rfl r115 rfl ?_
          have k16 : ai_hv t115 383 21 = some (.inl fh) := (e115 383 21 (by omega)).trans k13
          refine ex_go (S := (5, [(2, .inl b5), (0, gx_r 383), (1, .inl e)], [], t115, n, 0)) rfl (fun _ => rfl) rfl ?_
          exfalso; omega
        · refine gx_1f (c := .eq) rfl (by omega) hc14 rfl ?_
          refine ex_go (S := (52, [(2, .inl b5), (0, gx_r 383), (1, .inl e)], [.inl 9, gx_r 383], t111, n, 0)) rfl (fun _ => rfl) rfl ?_
          refine ex_go (S := (57, [(2, .inl b5), (0, gx_r 383), (1, .inl e)], [.inl 9, gx_r 383], t111, n, 0)) rfl (fun _ => rfl) rfl ?_
          refine ex_go (S := (58, [(2, .inl b5), (0, gx_r 383), (1, .inl e)], [.inl 0, .inl 9, gx_r 383], t111, n, 0)) rfl (fun _ => rfl) rfl ?_
          obtain ⟨_, r117, t117, rfl, s117, e117, k117, ko117, kz117⟩ := pk_emit (d + l + 5) n (s111) (o := 9) (z := 0) (by omega) (by omega) (by omega) k111
          have b117 := s117.2.2.2
          refine gx_call0 rfl rfl s111.1 rfl rfl r117 rfl ?_
          have k18 : ai_hv t117 383 21 = some (.inl fh) := (e117 383 21 (by omega)).trans k13
          refine ex_go (S := (5, [(2, .inl b5), (0, gx_r 383), (1, .inl e)], [], t117, n, 0)) rfl (fun _ => rfl) rfl ?_
          exfalso; omega
      · refine gx_1f (c := .ne) rfl (by omega) hc4 rfl ?_
        refine ex_go (S := (15, [(2, .inl bx), (0, gx_r 383), (1, .inl e)], [gx_r 383], t0, n, 0)) rfl (fun _ => rfl) rfl ?_
        refine ex_go (S := (17, [(2, .inl bx), (0, gx_r 383), (1, .inl e)], [.inl 37, gx_r 383], t0, n, 0)) rfl (fun _ => rfl) rfl ?_
        obtain ⟨_, r21, b19, rfl, q20⟩ := pe_isWord (d + l + 5) n (s0) hT (by omega) (w := 37) (by omega)
        refine gx_call1 rfl rfl s0.1 rfl rfl r21 rfl ?_
        have hlq20 : b19 = 1 → a < N := fun z => (q20.2.mp z).2.1
        by_cases hc22 : b19 = 0
        · refine gx_1t (c := .eq) rfl (by omega) hc22 rfl ?_
          refine ex_ret (r := (none, t0, n, 0)) rfl (fun _ => rfl) ?_
          have hno : f = 0 → ¬ sp_op S m N 0 a := fun hf z => by
              rcases sp_op_0.mp z with z | z
              · exact absurd (q2.2.mpr ⟨hf, z⟩) (by omega)
              · exact absurd (q20.2.mpr ⟨hf, z⟩) (by omega)
          exact ⟨_, rfl, t0, a, f, c, rfl, px_X_same hx (fun _ _ _ => rfl) s0 (by omega) (by omega), Ev_to (Ev_exit (by omega) hno) (by show a = a; omega) (by show f = f; omega), by omega⟩
        · refine gx_1f (c := .eq) rfl (by omega) hc22 rfl ?_
          refine ex_go (S := (24, [(2, .inl bx), (0, gx_r 383), (1, .inl e)], [gx_r 383], t0, n, 0)) rfl (fun _ => rfl) rfl ?_
          refine ex_go (S := (26, [(2, .inl bx), (0, gx_r 383), (1, .inl e)], [.inl 36, gx_r 383], t0, n, 0)) rfl (fun _ => rfl) rfl ?_
          obtain ⟨_, r25, b23, rfl, q24⟩ := pe_isWord (d + l + 5) n (s0) hT (by omega) (w := 36) (by omega)
          refine gx_call1 rfl rfl s0.1 rfl rfl r25 rfl ?_
          have hlq24 : b23 = 1 → a < N := fun z => (q24.2.mp z).2.1
          refine ex_go (S := (30, [(2, .inl b23), (0, gx_r 383), (1, .inl e)], [], t0, n, 0)) rfl (fun _ => rfl) rfl ?_
          refine ex_go (S := (31, [(2, .inl b23), (0, gx_r 383), (1, .inl e)], [gx_r 383], t0, n, 0)) rfl (fun _ => rfl) rfl ?_
          refine ex_go (S := (32, [(2, .inl b23), (0, gx_r 383), (1, .inl e)], [gx_r 383, gx_r 383], t0, n, 0)) rfl (fun _ => rfl) rfl ?_
          refine gx_get rfl s0.1 rfl s0.2.1 rfl ?_
          refine ex_go (S := (36, [(2, .inl b23), (0, gx_r 383), (1, .inl e)], [.inl 1, .inl a, gx_r 383], t0, n, 0)) rfl (fun _ => rfl) rfl ?_
          refine ex_iadd rfl (by omega) rfl ?_
          refine gx_put rfl s0.1 rfl rfl (ai_in_h (by omega) (by omega) (by omega)) rfl (fun t126 g126 k126 e126 => ?_)
          have k27 : ai_hv t126 383 13 = some (.inl c) := (e126 383 13 (by omega)).trans kc
          have k28 : ai_hv t126 383 21 = some (.inl fh) := (e126 383 21 (by omega)).trans kf
          have s126 : px_S t126 (a + 1) f := ⟨g126, k126, (e126 383 8 (by omega)).trans s0.2.2.1, by omega, s0.2.2.2.2⟩
          refine ex_go (S := (41, [(2, .inl b23), (0, gx_r 383), (1, .inl e)], [gx_r 383], t126, n, 0)) rfl (fun _ => rfl) rfl ?_
          refine ex_go (S := (42, [(2, .inl b23), (0, gx_r 383), (1, .inl e)], [.inl e, gx_r 383], t126, n, 0)) rfl (fun _ => rfl) rfl ?_
          have hT30 := rT_keep (t' := t126) hT (fun c i h => e126 c i (by omega))
          obtain ⟨_, r129, t129, a129, f129, c129, rfl, x129, w129, wa129⟩ := h d n _ _ _ _ s126 hT30 (by omega) k27 (by omega) k28
          have s129 := x129.1
          have e129 := x129.2.1
          have k129 := x129.2.2.1
          have q129 := x129.2.2.2.1
          have b129 := s129.2.2.2
          refine gx_call0 rfl rfl s126.1 rfl rfl r129 rfl ?_
          have k31 : ai_hv t129 383 21 = some (.inl fh) := (e129 383 21 (by omega)).trans k28
          refine ex_go (S := (46, [(2, .inl b23), (0, gx_r 383), (1, .inl e)], [gx_r 383], t129, n, 0)) rfl (fun _ => rfl) rfl ?_
          refine ex_go (S := (47, [(2, .inl b23), (0, gx_r 383), (1, .inl e)], [.inl b23, gx_r 383], t129, n, 0)) rfl (fun _ => rfl) rfl ?_
          by_cases hc32 : b23 = 0
          · refine gx_1t (c := .eq) rfl (by omega) hc32 rfl ?_
            refine ex_go (S := (57, [(2, .inl b23), (0, gx_r 383), (1, .inl e)], [.inl 10, gx_r 383], t129, n, 0)) rfl (fun _ => rfl) rfl ?_
            refine ex_go (S := (58, [(2, .inl b23), (0, gx_r 383), (1, .inl e)], [.inl 0, .inl 10, gx_r 383], t129, n, 0)) rfl (fun _ => rfl) rfl ?_
            obtain ⟨_, r133, t133, rfl, s133, e133, k133, ko133, kz133⟩ := pk_emit (d + l + 5) n (s129) (o := 10) (z := 0) (by omega) (by omega) (by omega) k129
            have b133 := s133.2.2.2
            refine gx_call0 rfl rfl s129.1 rfl rfl r133 rfl ?_
            have k34 : ai_hv t133 383 21 = some (.inl fh) := (e133 383 21 (by omega)).trans k31
            refine ex_go (S := (5, [(2, .inl b23), (0, gx_r 383), (1, .inl e)], [], t133, n, 0)) rfl (fun _ => rfl) rfl ?_
            exfalso; omega
          · refine gx_1f (c := .eq) rfl (by omega) hc32 rfl ?_
            refine ex_go (S := (52, [(2, .inl b23), (0, gx_r 383), (1, .inl e)], [.inl 9, gx_r 383], t129, n, 0)) rfl (fun _ => rfl) rfl ?_
            refine ex_go (S := (57, [(2, .inl b23), (0, gx_r 383), (1, .inl e)], [.inl 9, gx_r 383], t129, n, 0)) rfl (fun _ => rfl) rfl ?_
            refine ex_go (S := (58, [(2, .inl b23), (0, gx_r 383), (1, .inl e)], [.inl 0, .inl 9, gx_r 383], t129, n, 0)) rfl (fun _ => rfl) rfl ?_
            obtain ⟨_, r135, t135, rfl, s135, e135, k135, ko135, kz135⟩ := pk_emit (d + l + 5) n (s129) (o := 9) (z := 0) (by omega) (by omega) (by omega) k129
            have b135 := s135.2.2.2
            refine gx_call0 rfl rfl s129.1 rfl rfl r135 rfl ?_
            have k36 : ai_hv t135 383 21 = some (.inl fh) := (e135 383 21 (by omega)).trans k31
            refine ex_go (S := (5, [(2, .inl b23), (0, gx_r 383), (1, .inl e)], [], t135, n, 0)) rfl (fun _ => rfl) rfl ?_
            exfalso; omega
  | succ j ih =>
    intro t0 a f c lx hlx hj hx hT ha kf
    have s0 := hx.1
    have kc := hx.2.2.1
    have q0 := hx.2.2.2.1
    have b0 := s0.2.2.2
    have hN := hT.2.2.2.2.1
    rcases hlx with rfl | ⟨bx, hbx, rfl⟩
    · show en_ex _ _ _ _ (5, [(0, gx_r 383), (1, .inl e)], [], t0, n, 0) _
      refine ex_go (S := (6, [(0, gx_r 383), (1, .inl e)], [gx_r 383], t0, n, 0)) rfl (fun _ => rfl) rfl ?_
      refine ex_go (S := (8, [(0, gx_r 383), (1, .inl e)], [.inl 36, gx_r 383], t0, n, 0)) rfl (fun _ => rfl) rfl ?_
      obtain ⟨_, r3, b1, rfl, q2⟩ := pe_isWord (d + l + 5) n (s0) hT (by omega) (w := 36) (by omega)
      refine gx_call1 rfl rfl s0.1 rfl rfl r3 rfl ?_
      have hlq2 : b1 = 1 → a < N := fun z => (q2.2.mp z).2.1
      by_cases hc4 : b1 ≠ 0
      · refine gx_1t (c := .ne) rfl (by omega) hc4 rfl ?_
        refine ex_go (S := (24, [(0, gx_r 383), (1, .inl e)], [gx_r 383], t0, n, 0)) rfl (fun _ => rfl) rfl ?_
        refine ex_go (S := (26, [(0, gx_r 383), (1, .inl e)], [.inl 36, gx_r 383], t0, n, 0)) rfl (fun _ => rfl) rfl ?_
        obtain ⟨_, r7, b5, rfl, q6⟩ := pe_isWord (d + l + 5) n (s0) hT (by omega) (w := 36) (by omega)
        refine gx_call1 rfl rfl s0.1 rfl rfl r7 rfl ?_
        have hlq6 : b5 = 1 → a < N := fun z => (q6.2.mp z).2.1
        refine ex_go (S := (30, [(2, .inl b5), (0, gx_r 383), (1, .inl e)], [], t0, n, 0)) rfl (fun _ => rfl) rfl ?_
        refine ex_go (S := (31, [(2, .inl b5), (0, gx_r 383), (1, .inl e)], [gx_r 383], t0, n, 0)) rfl (fun _ => rfl) rfl ?_
        refine ex_go (S := (32, [(2, .inl b5), (0, gx_r 383), (1, .inl e)], [gx_r 383, gx_r 383], t0, n, 0)) rfl (fun _ => rfl) rfl ?_
        refine gx_get rfl s0.1 rfl s0.2.1 rfl ?_
        refine ex_go (S := (36, [(2, .inl b5), (0, gx_r 383), (1, .inl e)], [.inl 1, .inl a, gx_r 383], t0, n, 0)) rfl (fun _ => rfl) rfl ?_
        refine ex_iadd rfl (by omega) rfl ?_
        refine gx_put rfl s0.1 rfl rfl (ai_in_h (by omega) (by omega) (by omega)) rfl (fun t108 g108 k108 e108 => ?_)
        have k9 : ai_hv t108 383 13 = some (.inl c) := (e108 383 13 (by omega)).trans kc
        have k10 : ai_hv t108 383 21 = some (.inl fh) := (e108 383 21 (by omega)).trans kf
        have s108 : px_S t108 (a + 1) f := ⟨g108, k108, (e108 383 8 (by omega)).trans s0.2.2.1, by omega, s0.2.2.2.2⟩
        refine ex_go (S := (41, [(2, .inl b5), (0, gx_r 383), (1, .inl e)], [gx_r 383], t108, n, 0)) rfl (fun _ => rfl) rfl ?_
        refine ex_go (S := (42, [(2, .inl b5), (0, gx_r 383), (1, .inl e)], [.inl e, gx_r 383], t108, n, 0)) rfl (fun _ => rfl) rfl ?_
        have hT12 := rT_keep (t' := t108) hT (fun c i h => e108 c i (by omega))
        obtain ⟨_, r111, t111, a111, f111, c111, rfl, x111, w111, wa111⟩ := h d n _ _ _ _ s108 hT12 (by omega) k9 (by omega) k10
        have s111 := x111.1
        have e111 := x111.2.1
        have k111 := x111.2.2.1
        have q111 := x111.2.2.2.1
        have b111 := s111.2.2.2
        refine gx_call0 rfl rfl s108.1 rfl rfl r111 rfl ?_
        have k13 : ai_hv t111 383 21 = some (.inl fh) := (e111 383 21 (by omega)).trans k10
        refine ex_go (S := (46, [(2, .inl b5), (0, gx_r 383), (1, .inl e)], [gx_r 383], t111, n, 0)) rfl (fun _ => rfl) rfl ?_
        refine ex_go (S := (47, [(2, .inl b5), (0, gx_r 383), (1, .inl e)], [.inl b5, gx_r 383], t111, n, 0)) rfl (fun _ => rfl) rfl ?_
        by_cases hc14 : b5 = 0
        · refine gx_1t (c := .eq) rfl (by omega) hc14 rfl ?_
          refine ex_go (S := (57, [(2, .inl b5), (0, gx_r 383), (1, .inl e)], [.inl 10, gx_r 383], t111, n, 0)) rfl (fun _ => rfl) rfl ?_
          refine ex_go (S := (58, [(2, .inl b5), (0, gx_r 383), (1, .inl e)], [.inl 0, .inl 10, gx_r 383], t111, n, 0)) rfl (fun _ => rfl) rfl ?_
          obtain ⟨_, r115, t115, rfl, s115, e115, k115, ko115, kz115⟩ := pk_emit (d + l + 5) n (s111) (o := 10) (z := 0) (by omega) (by omega) (by omega) k111
          have b115 := s115.2.2.2
          refine gx_call0 rfl rfl s111.1 rfl rfl r115 rfl ?_
          have k16 : ai_hv t115 383 21 = some (.inl fh) := (e115 383 21 (by omega)).trans k13
          refine ex_go (S := (5, [(2, .inl b5), (0, gx_r 383), (1, .inl e)], [], t115, n, 0)) rfl (fun _ => rfl) rfl ?_
          have hpf : f = 0 := by have := (q2.2.mp (by omega)).1; omega
          have hop : sp_op S m N 0 a := sp_op_0.mpr (Or.inl (q2.2.mp (by omega)).2)
          have w9 : Ev S m N fh 1 e (a + 1, 0) (a111, f111) := Ev_at w111 (by show a + 1 = a + 1; omega) (by show f = 0; omega)
          subst hpf
          have hT17 := rT_keep (t' := t115) hT (fun c i h => (e115 c i (by omega)).trans ((e111 c i (by omega)).trans (e108 c i (by omega))))
          refine ex_imp (fun o9 h9 => ?_) (ih t115 a111 f111 (c111 + 1) [(2, .inl b5)] (Or.inr ⟨b5, by omega, rfl⟩) (by omega) (px_X_bin hx rfl (by omega) (fun c i h => e108 c i (by omega)) x111 (by omega) s115 e115 k115 ko115 kz115) hT17 (by omega) k16)
          obtain ⟨r9, g0, t9, a9, f9, c9, g1, g2, g3, g4⟩ := h9
          exact ⟨r9, g0, t9, a9, f9, c9, g1, g2, Ev_more (by omega) (by omega) hop w9 g3, g4⟩
        · refine gx_1f (c := .eq) rfl (by omega) hc14 rfl ?_
          refine ex_go (S := (52, [(2, .inl b5), (0, gx_r 383), (1, .inl e)], [.inl 9, gx_r 383], t111, n, 0)) rfl (fun _ => rfl) rfl ?_
          refine ex_go (S := (57, [(2, .inl b5), (0, gx_r 383), (1, .inl e)], [.inl 9, gx_r 383], t111, n, 0)) rfl (fun _ => rfl) rfl ?_
          refine ex_go (S := (58, [(2, .inl b5), (0, gx_r 383), (1, .inl e)], [.inl 0, .inl 9, gx_r 383], t111, n, 0)) rfl (fun _ => rfl) rfl ?_
          obtain ⟨_, r118, t118, rfl, s118, e118, k118, ko118, kz118⟩ := pk_emit (d + l + 5) n (s111) (o := 9) (z := 0) (by omega) (by omega) (by omega) k111
          have b118 := s118.2.2.2
          refine gx_call0 rfl rfl s111.1 rfl rfl r118 rfl ?_
          have k19 : ai_hv t118 383 21 = some (.inl fh) := (e118 383 21 (by omega)).trans k13
          refine ex_go (S := (5, [(2, .inl b5), (0, gx_r 383), (1, .inl e)], [], t118, n, 0)) rfl (fun _ => rfl) rfl ?_
          have hpf : f = 0 := by have := (q2.2.mp (by omega)).1; omega
          have hop : sp_op S m N 0 a := sp_op_0.mpr (Or.inl (q2.2.mp (by omega)).2)
          have w9 : Ev S m N fh 1 e (a + 1, 0) (a111, f111) := Ev_at w111 (by show a + 1 = a + 1; omega) (by show f = 0; omega)
          subst hpf
          have hT20 := rT_keep (t' := t118) hT (fun c i h => (e118 c i (by omega)).trans ((e111 c i (by omega)).trans (e108 c i (by omega))))
          refine ex_imp (fun o9 h9 => ?_) (ih t118 a111 f111 (c111 + 1) [(2, .inl b5)] (Or.inr ⟨b5, by omega, rfl⟩) (by omega) (px_X_bin hx rfl (by omega) (fun c i h => e108 c i (by omega)) x111 (by omega) s118 e118 k118 ko118 kz118) hT20 (by omega) k19)
          obtain ⟨r9, g0, t9, a9, f9, c9, g1, g2, g3, g4⟩ := h9
          exact ⟨r9, g0, t9, a9, f9, c9, g1, g2, Ev_more (by omega) (by omega) hop w9 g3, g4⟩
      · refine gx_1f (c := .ne) rfl (by omega) hc4 rfl ?_
        refine ex_go (S := (15, [(0, gx_r 383), (1, .inl e)], [gx_r 383], t0, n, 0)) rfl (fun _ => rfl) rfl ?_
        refine ex_go (S := (17, [(0, gx_r 383), (1, .inl e)], [.inl 37, gx_r 383], t0, n, 0)) rfl (fun _ => rfl) rfl ?_
        obtain ⟨_, r23, b21, rfl, q22⟩ := pe_isWord (d + l + 5) n (s0) hT (by omega) (w := 37) (by omega)
        refine gx_call1 rfl rfl s0.1 rfl rfl r23 rfl ?_
        have hlq22 : b21 = 1 → a < N := fun z => (q22.2.mp z).2.1
        by_cases hc24 : b21 = 0
        · refine gx_1t (c := .eq) rfl (by omega) hc24 rfl ?_
          refine ex_ret (r := (none, t0, n, 0)) rfl (fun _ => rfl) ?_
          have hno : f = 0 → ¬ sp_op S m N 0 a := fun hf z => by
              rcases sp_op_0.mp z with z | z
              · exact absurd (q2.2.mpr ⟨hf, z⟩) (by omega)
              · exact absurd (q22.2.mpr ⟨hf, z⟩) (by omega)
          exact ⟨_, rfl, t0, a, f, c, rfl, px_X_same hx (fun _ _ _ => rfl) s0 (by omega) (by omega), Ev_to (Ev_exit (by omega) hno) (by show a = a; omega) (by show f = f; omega), by omega⟩
        · refine gx_1f (c := .eq) rfl (by omega) hc24 rfl ?_
          refine ex_go (S := (24, [(0, gx_r 383), (1, .inl e)], [gx_r 383], t0, n, 0)) rfl (fun _ => rfl) rfl ?_
          refine ex_go (S := (26, [(0, gx_r 383), (1, .inl e)], [.inl 36, gx_r 383], t0, n, 0)) rfl (fun _ => rfl) rfl ?_
          obtain ⟨_, r27, b25, rfl, q26⟩ := pe_isWord (d + l + 5) n (s0) hT (by omega) (w := 36) (by omega)
          refine gx_call1 rfl rfl s0.1 rfl rfl r27 rfl ?_
          have hlq26 : b25 = 1 → a < N := fun z => (q26.2.mp z).2.1
          refine ex_go (S := (30, [(2, .inl b25), (0, gx_r 383), (1, .inl e)], [], t0, n, 0)) rfl (fun _ => rfl) rfl ?_
          refine ex_go (S := (31, [(2, .inl b25), (0, gx_r 383), (1, .inl e)], [gx_r 383], t0, n, 0)) rfl (fun _ => rfl) rfl ?_
          refine ex_go (S := (32, [(2, .inl b25), (0, gx_r 383), (1, .inl e)], [gx_r 383, gx_r 383], t0, n, 0)) rfl (fun _ => rfl) rfl ?_
          refine gx_get rfl s0.1 rfl s0.2.1 rfl ?_
          refine ex_go (S := (36, [(2, .inl b25), (0, gx_r 383), (1, .inl e)], [.inl 1, .inl a, gx_r 383], t0, n, 0)) rfl (fun _ => rfl) rfl ?_
          refine ex_iadd rfl (by omega) rfl ?_
          refine gx_put rfl s0.1 rfl rfl (ai_in_h (by omega) (by omega) (by omega)) rfl (fun t128 g128 k128 e128 => ?_)
          have k29 : ai_hv t128 383 13 = some (.inl c) := (e128 383 13 (by omega)).trans kc
          have k30 : ai_hv t128 383 21 = some (.inl fh) := (e128 383 21 (by omega)).trans kf
          have s128 : px_S t128 (a + 1) f := ⟨g128, k128, (e128 383 8 (by omega)).trans s0.2.2.1, by omega, s0.2.2.2.2⟩
          refine ex_go (S := (41, [(2, .inl b25), (0, gx_r 383), (1, .inl e)], [gx_r 383], t128, n, 0)) rfl (fun _ => rfl) rfl ?_
          refine ex_go (S := (42, [(2, .inl b25), (0, gx_r 383), (1, .inl e)], [.inl e, gx_r 383], t128, n, 0)) rfl (fun _ => rfl) rfl ?_
          have hT32 := rT_keep (t' := t128) hT (fun c i h => e128 c i (by omega))
          obtain ⟨_, r131, t131, a131, f131, c131, rfl, x131, w131, wa131⟩ := h d n _ _ _ _ s128 hT32 (by omega) k29 (by omega) k30
          have s131 := x131.1
          have e131 := x131.2.1
          have k131 := x131.2.2.1
          have q131 := x131.2.2.2.1
          have b131 := s131.2.2.2
          refine gx_call0 rfl rfl s128.1 rfl rfl r131 rfl ?_
          have k33 : ai_hv t131 383 21 = some (.inl fh) := (e131 383 21 (by omega)).trans k30
          refine ex_go (S := (46, [(2, .inl b25), (0, gx_r 383), (1, .inl e)], [gx_r 383], t131, n, 0)) rfl (fun _ => rfl) rfl ?_
          refine ex_go (S := (47, [(2, .inl b25), (0, gx_r 383), (1, .inl e)], [.inl b25, gx_r 383], t131, n, 0)) rfl (fun _ => rfl) rfl ?_
          by_cases hc34 : b25 = 0
          · refine gx_1t (c := .eq) rfl (by omega) hc34 rfl ?_
            refine ex_go (S := (57, [(2, .inl b25), (0, gx_r 383), (1, .inl e)], [.inl 10, gx_r 383], t131, n, 0)) rfl (fun _ => rfl) rfl ?_
            refine ex_go (S := (58, [(2, .inl b25), (0, gx_r 383), (1, .inl e)], [.inl 0, .inl 10, gx_r 383], t131, n, 0)) rfl (fun _ => rfl) rfl ?_
            obtain ⟨_, r135, t135, rfl, s135, e135, k135, ko135, kz135⟩ := pk_emit (d + l + 5) n (s131) (o := 10) (z := 0) (by omega) (by omega) (by omega) k131
            have b135 := s135.2.2.2
            refine gx_call0 rfl rfl s131.1 rfl rfl r135 rfl ?_
            have k36 : ai_hv t135 383 21 = some (.inl fh) := (e135 383 21 (by omega)).trans k33
            refine ex_go (S := (5, [(2, .inl b25), (0, gx_r 383), (1, .inl e)], [], t135, n, 0)) rfl (fun _ => rfl) rfl ?_
            have hpf : f = 0 := by have := (q22.2.mp (by omega)).1; omega
            have hop : sp_op S m N 0 a := sp_op_0.mpr (Or.inr (q22.2.mp (by omega)).2)
            have w9 : Ev S m N fh 1 e (a + 1, 0) (a131, f131) := Ev_at w131 (by show a + 1 = a + 1; omega) (by show f = 0; omega)
            subst hpf
            have hT37 := rT_keep (t' := t135) hT (fun c i h => (e135 c i (by omega)).trans ((e131 c i (by omega)).trans (e128 c i (by omega))))
            refine ex_imp (fun o9 h9 => ?_) (ih t135 a131 f131 (c131 + 1) [(2, .inl b25)] (Or.inr ⟨b25, by omega, rfl⟩) (by omega) (px_X_bin hx rfl (by omega) (fun c i h => e128 c i (by omega)) x131 (by omega) s135 e135 k135 ko135 kz135) hT37 (by omega) k36)
            obtain ⟨r9, g0, t9, a9, f9, c9, g1, g2, g3, g4⟩ := h9
            exact ⟨r9, g0, t9, a9, f9, c9, g1, g2, Ev_more (by omega) (by omega) hop w9 g3, g4⟩
          · refine gx_1f (c := .eq) rfl (by omega) hc34 rfl ?_
            refine ex_go (S := (52, [(2, .inl b25), (0, gx_r 383), (1, .inl e)], [.inl 9, gx_r 383], t131, n, 0)) rfl (fun _ => rfl) rfl ?_
            refine ex_go (S := (57, [(2, .inl b25), (0, gx_r 383), (1, .inl e)], [.inl 9, gx_r 383], t131, n, 0)) rfl (fun _ => rfl) rfl ?_
            refine ex_go (S := (58, [(2, .inl b25), (0, gx_r 383), (1, .inl e)], [.inl 0, .inl 9, gx_r 383], t131, n, 0)) rfl (fun _ => rfl) rfl ?_
            obtain ⟨_, r138, t138, rfl, s138, e138, k138, ko138, kz138⟩ := pk_emit (d + l + 5) n (s131) (o := 9) (z := 0) (by omega) (by omega) (by omega) k131
            have b138 := s138.2.2.2
            refine gx_call0 rfl rfl s131.1 rfl rfl r138 rfl ?_
            have k39 : ai_hv t138 383 21 = some (.inl fh) := (e138 383 21 (by omega)).trans k33
            refine ex_go (S := (5, [(2, .inl b25), (0, gx_r 383), (1, .inl e)], [], t138, n, 0)) rfl (fun _ => rfl) rfl ?_
            have hpf : f = 0 := by have := (q22.2.mp (by omega)).1; omega
            have hop : sp_op S m N 0 a := sp_op_0.mpr (Or.inr (q22.2.mp (by omega)).2)
            have w9 : Ev S m N fh 1 e (a + 1, 0) (a131, f131) := Ev_at w131 (by show a + 1 = a + 1; omega) (by show f = 0; omega)
            subst hpf
            have hT40 := rT_keep (t' := t138) hT (fun c i h => (e138 c i (by omega)).trans ((e131 c i (by omega)).trans (e128 c i (by omega))))
            refine ex_imp (fun o9 h9 => ?_) (ih t138 a131 f131 (c131 + 1) [(2, .inl b25)] (Or.inr ⟨b25, by omega, rfl⟩) (by omega) (px_X_bin hx rfl (by omega) (fun c i h => e128 c i (by omega)) x131 (by omega) s138 e138 k138 ko138 kz138) hT40 (by omega) k39)
            obtain ⟨r9, g0, t9, a9, f9, c9, g1, g2, g3, g4⟩ := h9
            exact ⟨r9, g0, t9, a9, f9, c9, g1, g2, Ev_more (by omega) (by omega) hop w9 g3, g4⟩
    · show en_ex _ _ _ _ (5, [(2, .inl bx), (0, gx_r 383), (1, .inl e)], [], t0, n, 0) _
      refine ex_go (S := (6, [(2, .inl bx), (0, gx_r 383), (1, .inl e)], [gx_r 383], t0, n, 0)) rfl (fun _ => rfl) rfl ?_
      refine ex_go (S := (8, [(2, .inl bx), (0, gx_r 383), (1, .inl e)], [.inl 36, gx_r 383], t0, n, 0)) rfl (fun _ => rfl) rfl ?_
      obtain ⟨_, r3, b1, rfl, q2⟩ := pe_isWord (d + l + 5) n (s0) hT (by omega) (w := 36) (by omega)
      refine gx_call1 rfl rfl s0.1 rfl rfl r3 rfl ?_
      have hlq2 : b1 = 1 → a < N := fun z => (q2.2.mp z).2.1
      by_cases hc4 : b1 ≠ 0
      · refine gx_1t (c := .ne) rfl (by omega) hc4 rfl ?_
        refine ex_go (S := (24, [(2, .inl bx), (0, gx_r 383), (1, .inl e)], [gx_r 383], t0, n, 0)) rfl (fun _ => rfl) rfl ?_
        refine ex_go (S := (26, [(2, .inl bx), (0, gx_r 383), (1, .inl e)], [.inl 36, gx_r 383], t0, n, 0)) rfl (fun _ => rfl) rfl ?_
        obtain ⟨_, r7, b5, rfl, q6⟩ := pe_isWord (d + l + 5) n (s0) hT (by omega) (w := 36) (by omega)
        refine gx_call1 rfl rfl s0.1 rfl rfl r7 rfl ?_
        have hlq6 : b5 = 1 → a < N := fun z => (q6.2.mp z).2.1
        refine ex_go (S := (30, [(2, .inl b5), (0, gx_r 383), (1, .inl e)], [], t0, n, 0)) rfl (fun _ => rfl) rfl ?_
        refine ex_go (S := (31, [(2, .inl b5), (0, gx_r 383), (1, .inl e)], [gx_r 383], t0, n, 0)) rfl (fun _ => rfl) rfl ?_
        refine ex_go (S := (32, [(2, .inl b5), (0, gx_r 383), (1, .inl e)], [gx_r 383, gx_r 383], t0, n, 0)) rfl (fun _ => rfl) rfl ?_
        refine gx_get rfl s0.1 rfl s0.2.1 rfl ?_
        refine ex_go (S := (36, [(2, .inl b5), (0, gx_r 383), (1, .inl e)], [.inl 1, .inl a, gx_r 383], t0, n, 0)) rfl (fun _ => rfl) rfl ?_
        refine ex_iadd rfl (by omega) rfl ?_
        refine gx_put rfl s0.1 rfl rfl (ai_in_h (by omega) (by omega) (by omega)) rfl (fun t108 g108 k108 e108 => ?_)
        have k9 : ai_hv t108 383 13 = some (.inl c) := (e108 383 13 (by omega)).trans kc
        have k10 : ai_hv t108 383 21 = some (.inl fh) := (e108 383 21 (by omega)).trans kf
        have s108 : px_S t108 (a + 1) f := ⟨g108, k108, (e108 383 8 (by omega)).trans s0.2.2.1, by omega, s0.2.2.2.2⟩
        refine ex_go (S := (41, [(2, .inl b5), (0, gx_r 383), (1, .inl e)], [gx_r 383], t108, n, 0)) rfl (fun _ => rfl) rfl ?_
        refine ex_go (S := (42, [(2, .inl b5), (0, gx_r 383), (1, .inl e)], [.inl e, gx_r 383], t108, n, 0)) rfl (fun _ => rfl) rfl ?_
        have hT12 := rT_keep (t' := t108) hT (fun c i h => e108 c i (by omega))
        obtain ⟨_, r111, t111, a111, f111, c111, rfl, x111, w111, wa111⟩ := h d n _ _ _ _ s108 hT12 (by omega) k9 (by omega) k10
        have s111 := x111.1
        have e111 := x111.2.1
        have k111 := x111.2.2.1
        have q111 := x111.2.2.2.1
        have b111 := s111.2.2.2
        refine gx_call0 rfl rfl s108.1 rfl rfl r111 rfl ?_
        have k13 : ai_hv t111 383 21 = some (.inl fh) := (e111 383 21 (by omega)).trans k10
        refine ex_go (S := (46, [(2, .inl b5), (0, gx_r 383), (1, .inl e)], [gx_r 383], t111, n, 0)) rfl (fun _ => rfl) rfl ?_
        refine ex_go (S := (47, [(2, .inl b5), (0, gx_r 383), (1, .inl e)], [.inl b5, gx_r 383], t111, n, 0)) rfl (fun _ => rfl) rfl ?_
        by_cases hc14 : b5 = 0
        · refine gx_1t (c := .eq) rfl (by omega) hc14 rfl ?_
          refine ex_go (S := (57, [(2, .inl b5), (0, gx_r 383), (1, .inl e)], [.inl 10, gx_r 383], t111, n, 0)) rfl (fun _ => rfl) rfl ?_
          refine ex_go (S := (58, [(2, .inl b5), (0, gx_r 383), (1, .inl e)], [.inl 0, .inl 10, gx_r 383], t111, n, 0)) rfl (fun _ => rfl) rfl ?_
          obtain ⟨_, r115, t115, rfl, s115, e115, k115, ko115, kz115⟩ := pk_emit (d + l + 5) n (s111) (o := 10) (z := 0) (by omega) (by omega) (by omega) k111
          have b115 := s115.2.2.2
          refine gx_call0 rfl rfl s111.1 rfl rfl r115 rfl ?_
          have k16 : ai_hv t115 383 21 = some (.inl fh) := (e115 383 21 (by omega)).trans k13
          refine ex_go (S := (5, [(2, .inl b5), (0, gx_r 383), (1, .inl e)], [], t115, n, 0)) rfl (fun _ => rfl) rfl ?_
          have hpf : f = 0 := by have := (q2.2.mp (by omega)).1; omega
          have hop : sp_op S m N 0 a := sp_op_0.mpr (Or.inl (q2.2.mp (by omega)).2)
          have w9 : Ev S m N fh 1 e (a + 1, 0) (a111, f111) := Ev_at w111 (by show a + 1 = a + 1; omega) (by show f = 0; omega)
          subst hpf
          have hT17 := rT_keep (t' := t115) hT (fun c i h => (e115 c i (by omega)).trans ((e111 c i (by omega)).trans (e108 c i (by omega))))
          refine ex_imp (fun o9 h9 => ?_) (ih t115 a111 f111 (c111 + 1) [(2, .inl b5)] (Or.inr ⟨b5, by omega, rfl⟩) (by omega) (px_X_bin hx rfl (by omega) (fun c i h => e108 c i (by omega)) x111 (by omega) s115 e115 k115 ko115 kz115) hT17 (by omega) k16)
          obtain ⟨r9, g0, t9, a9, f9, c9, g1, g2, g3, g4⟩ := h9
          exact ⟨r9, g0, t9, a9, f9, c9, g1, g2, Ev_more (by omega) (by omega) hop w9 g3, g4⟩
        · refine gx_1f (c := .eq) rfl (by omega) hc14 rfl ?_
          refine ex_go (S := (52, [(2, .inl b5), (0, gx_r 383), (1, .inl e)], [.inl 9, gx_r 383], t111, n, 0)) rfl (fun _ => rfl) rfl ?_
          refine ex_go (S := (57, [(2, .inl b5), (0, gx_r 383), (1, .inl e)], [.inl 9, gx_r 383], t111, n, 0)) rfl (fun _ => rfl) rfl ?_
          refine ex_go (S := (58, [(2, .inl b5), (0, gx_r 383), (1, .inl e)], [.inl 0, .inl 9, gx_r 383], t111, n, 0)) rfl (fun _ => rfl) rfl ?_
          obtain ⟨_, r118, t118, rfl, s118, e118, k118, ko118, kz118⟩ := pk_emit (d + l + 5) n (s111) (o := 9) (z := 0) (by omega) (by omega) (by omega) k111
          have b118 := s118.2.2.2
          refine gx_call0 rfl rfl s111.1 rfl rfl r118 rfl ?_
          have k19 : ai_hv t118 383 21 = some (.inl fh) := (e118 383 21 (by omega)).trans k13
          refine ex_go (S := (5, [(2, .inl b5), (0, gx_r 383), (1, .inl e)], [], t118, n, 0)) rfl (fun _ => rfl) rfl ?_
          have hpf : f = 0 := by have := (q2.2.mp (by omega)).1; omega
          have hop : sp_op S m N 0 a := sp_op_0.mpr (Or.inl (q2.2.mp (by omega)).2)
          have w9 : Ev S m N fh 1 e (a + 1, 0) (a111, f111) := Ev_at w111 (by show a + 1 = a + 1; omega) (by show f = 0; omega)
          subst hpf
          have hT20 := rT_keep (t' := t118) hT (fun c i h => (e118 c i (by omega)).trans ((e111 c i (by omega)).trans (e108 c i (by omega))))
          refine ex_imp (fun o9 h9 => ?_) (ih t118 a111 f111 (c111 + 1) [(2, .inl b5)] (Or.inr ⟨b5, by omega, rfl⟩) (by omega) (px_X_bin hx rfl (by omega) (fun c i h => e108 c i (by omega)) x111 (by omega) s118 e118 k118 ko118 kz118) hT20 (by omega) k19)
          obtain ⟨r9, g0, t9, a9, f9, c9, g1, g2, g3, g4⟩ := h9
          exact ⟨r9, g0, t9, a9, f9, c9, g1, g2, Ev_more (by omega) (by omega) hop w9 g3, g4⟩
      · refine gx_1f (c := .ne) rfl (by omega) hc4 rfl ?_
        refine ex_go (S := (15, [(2, .inl bx), (0, gx_r 383), (1, .inl e)], [gx_r 383], t0, n, 0)) rfl (fun _ => rfl) rfl ?_
        refine ex_go (S := (17, [(2, .inl bx), (0, gx_r 383), (1, .inl e)], [.inl 37, gx_r 383], t0, n, 0)) rfl (fun _ => rfl) rfl ?_
        obtain ⟨_, r23, b21, rfl, q22⟩ := pe_isWord (d + l + 5) n (s0) hT (by omega) (w := 37) (by omega)
        refine gx_call1 rfl rfl s0.1 rfl rfl r23 rfl ?_
        have hlq22 : b21 = 1 → a < N := fun z => (q22.2.mp z).2.1
        by_cases hc24 : b21 = 0
        · refine gx_1t (c := .eq) rfl (by omega) hc24 rfl ?_
          refine ex_ret (r := (none, t0, n, 0)) rfl (fun _ => rfl) ?_
          have hno : f = 0 → ¬ sp_op S m N 0 a := fun hf z => by
              rcases sp_op_0.mp z with z | z
              · exact absurd (q2.2.mpr ⟨hf, z⟩) (by omega)
              · exact absurd (q22.2.mpr ⟨hf, z⟩) (by omega)
          exact ⟨_, rfl, t0, a, f, c, rfl, px_X_same hx (fun _ _ _ => rfl) s0 (by omega) (by omega), Ev_to (Ev_exit (by omega) hno) (by show a = a; omega) (by show f = f; omega), by omega⟩
        · refine gx_1f (c := .eq) rfl (by omega) hc24 rfl ?_
          refine ex_go (S := (24, [(2, .inl bx), (0, gx_r 383), (1, .inl e)], [gx_r 383], t0, n, 0)) rfl (fun _ => rfl) rfl ?_
          refine ex_go (S := (26, [(2, .inl bx), (0, gx_r 383), (1, .inl e)], [.inl 36, gx_r 383], t0, n, 0)) rfl (fun _ => rfl) rfl ?_
          obtain ⟨_, r27, b25, rfl, q26⟩ := pe_isWord (d + l + 5) n (s0) hT (by omega) (w := 36) (by omega)
          refine gx_call1 rfl rfl s0.1 rfl rfl r27 rfl ?_
          have hlq26 : b25 = 1 → a < N := fun z => (q26.2.mp z).2.1
          refine ex_go (S := (30, [(2, .inl b25), (0, gx_r 383), (1, .inl e)], [], t0, n, 0)) rfl (fun _ => rfl) rfl ?_
          refine ex_go (S := (31, [(2, .inl b25), (0, gx_r 383), (1, .inl e)], [gx_r 383], t0, n, 0)) rfl (fun _ => rfl) rfl ?_
          refine ex_go (S := (32, [(2, .inl b25), (0, gx_r 383), (1, .inl e)], [gx_r 383, gx_r 383], t0, n, 0)) rfl (fun _ => rfl) rfl ?_
          refine gx_get rfl s0.1 rfl s0.2.1 rfl ?_
          refine ex_go (S := (36, [(2, .inl b25), (0, gx_r 383), (1, .inl e)], [.inl 1, .inl a, gx_r 383], t0, n, 0)) rfl (fun _ => rfl) rfl ?_
          refine ex_iadd rfl (by omega) rfl ?_
          refine gx_put rfl s0.1 rfl rfl (ai_in_h (by omega) (by omega) (by omega)) rfl (fun t128 g128 k128 e128 => ?_)
          have k29 : ai_hv t128 383 13 = some (.inl c) := (e128 383 13 (by omega)).trans kc
          have k30 : ai_hv t128 383 21 = some (.inl fh) := (e128 383 21 (by omega)).trans kf
          have s128 : px_S t128 (a + 1) f := ⟨g128, k128, (e128 383 8 (by omega)).trans s0.2.2.1, by omega, s0.2.2.2.2⟩
          refine ex_go (S := (41, [(2, .inl b25), (0, gx_r 383), (1, .inl e)], [gx_r 383], t128, n, 0)) rfl (fun _ => rfl) rfl ?_
          refine ex_go (S := (42, [(2, .inl b25), (0, gx_r 383), (1, .inl e)], [.inl e, gx_r 383], t128, n, 0)) rfl (fun _ => rfl) rfl ?_
          have hT32 := rT_keep (t' := t128) hT (fun c i h => e128 c i (by omega))
          obtain ⟨_, r131, t131, a131, f131, c131, rfl, x131, w131, wa131⟩ := h d n _ _ _ _ s128 hT32 (by omega) k29 (by omega) k30
          have s131 := x131.1
          have e131 := x131.2.1
          have k131 := x131.2.2.1
          have q131 := x131.2.2.2.1
          have b131 := s131.2.2.2
          refine gx_call0 rfl rfl s128.1 rfl rfl r131 rfl ?_
          have k33 : ai_hv t131 383 21 = some (.inl fh) := (e131 383 21 (by omega)).trans k30
          refine ex_go (S := (46, [(2, .inl b25), (0, gx_r 383), (1, .inl e)], [gx_r 383], t131, n, 0)) rfl (fun _ => rfl) rfl ?_
          refine ex_go (S := (47, [(2, .inl b25), (0, gx_r 383), (1, .inl e)], [.inl b25, gx_r 383], t131, n, 0)) rfl (fun _ => rfl) rfl ?_
          by_cases hc34 : b25 = 0
          · refine gx_1t (c := .eq) rfl (by omega) hc34 rfl ?_
            refine ex_go (S := (57, [(2, .inl b25), (0, gx_r 383), (1, .inl e)], [.inl 10, gx_r 383], t131, n, 0)) rfl (fun _ => rfl) rfl ?_
            refine ex_go (S := (58, [(2, .inl b25), (0, gx_r 383), (1, .inl e)], [.inl 0, .inl 10, gx_r 383], t131, n, 0)) rfl (fun _ => rfl) rfl ?_
            obtain ⟨_, r135, t135, rfl, s135, e135, k135, ko135, kz135⟩ := pk_emit (d + l + 5) n (s131) (o := 10) (z := 0) (by omega) (by omega) (by omega) k131
            have b135 := s135.2.2.2
            refine gx_call0 rfl rfl s131.1 rfl rfl r135 rfl ?_
            have k36 : ai_hv t135 383 21 = some (.inl fh) := (e135 383 21 (by omega)).trans k33
            refine ex_go (S := (5, [(2, .inl b25), (0, gx_r 383), (1, .inl e)], [], t135, n, 0)) rfl (fun _ => rfl) rfl ?_
            have hpf : f = 0 := by have := (q22.2.mp (by omega)).1; omega
            have hop : sp_op S m N 0 a := sp_op_0.mpr (Or.inr (q22.2.mp (by omega)).2)
            have w9 : Ev S m N fh 1 e (a + 1, 0) (a131, f131) := Ev_at w131 (by show a + 1 = a + 1; omega) (by show f = 0; omega)
            subst hpf
            have hT37 := rT_keep (t' := t135) hT (fun c i h => (e135 c i (by omega)).trans ((e131 c i (by omega)).trans (e128 c i (by omega))))
            refine ex_imp (fun o9 h9 => ?_) (ih t135 a131 f131 (c131 + 1) [(2, .inl b25)] (Or.inr ⟨b25, by omega, rfl⟩) (by omega) (px_X_bin hx rfl (by omega) (fun c i h => e128 c i (by omega)) x131 (by omega) s135 e135 k135 ko135 kz135) hT37 (by omega) k36)
            obtain ⟨r9, g0, t9, a9, f9, c9, g1, g2, g3, g4⟩ := h9
            exact ⟨r9, g0, t9, a9, f9, c9, g1, g2, Ev_more (by omega) (by omega) hop w9 g3, g4⟩
          · refine gx_1f (c := .eq) rfl (by omega) hc34 rfl ?_
            refine ex_go (S := (52, [(2, .inl b25), (0, gx_r 383), (1, .inl e)], [.inl 9, gx_r 383], t131, n, 0)) rfl (fun _ => rfl) rfl ?_
            refine ex_go (S := (57, [(2, .inl b25), (0, gx_r 383), (1, .inl e)], [.inl 9, gx_r 383], t131, n, 0)) rfl (fun _ => rfl) rfl ?_
            refine ex_go (S := (58, [(2, .inl b25), (0, gx_r 383), (1, .inl e)], [.inl 0, .inl 9, gx_r 383], t131, n, 0)) rfl (fun _ => rfl) rfl ?_
            obtain ⟨_, r138, t138, rfl, s138, e138, k138, ko138, kz138⟩ := pk_emit (d + l + 5) n (s131) (o := 9) (z := 0) (by omega) (by omega) (by omega) k131
            have b138 := s138.2.2.2
            refine gx_call0 rfl rfl s131.1 rfl rfl r138 rfl ?_
            have k39 : ai_hv t138 383 21 = some (.inl fh) := (e138 383 21 (by omega)).trans k33
            refine ex_go (S := (5, [(2, .inl b25), (0, gx_r 383), (1, .inl e)], [], t138, n, 0)) rfl (fun _ => rfl) rfl ?_
            have hpf : f = 0 := by have := (q22.2.mp (by omega)).1; omega
            have hop : sp_op S m N 0 a := sp_op_0.mpr (Or.inr (q22.2.mp (by omega)).2)
            have w9 : Ev S m N fh 1 e (a + 1, 0) (a131, f131) := Ev_at w131 (by show a + 1 = a + 1; omega) (by show f = 0; omega)
            subst hpf
            have hT40 := rT_keep (t' := t138) hT (fun c i h => (e138 c i (by omega)).trans ((e131 c i (by omega)).trans (e128 c i (by omega))))
            refine ex_imp (fun o9 h9 => ?_) (ih t138 a131 f131 (c131 + 1) [(2, .inl b25)] (Or.inr ⟨b25, by omega, rfl⟩) (by omega) (px_X_bin hx rfl (by omega) (fun c i h => e128 c i (by omega)) x131 (by omega) s138 e138 k138 ko138 kz138) hT40 (by omega) k39)
            obtain ⟨r9, g0, t9, a9, f9, c9, g1, g2, g3, g4⟩ := h9
            exact ⟨r9, g0, t9, a9, f9, c9, g1, g2, Ev_more (by omega) (by omega) hop w9 g3, g4⟩
theorem pe_all {l e : Nat} (h : ∀ d, pe_C S m N fh (d + l + 6) 271 1 e) (he : e ≤ 5) (d : Nat) : pe_C S m N fh (d + l + 7) 247 0 e := by
  intro n t0 a f c s0 hT ha kc hca kf
  have b0 := s0.2.2.2
  have hN := hT.2.2.2.2.1
  refine en_u_ex (d := d + l + 6) rfl ?_
  show en_ex _ _ _ _ (0, [(0, gx_r 383), (1, .inl e)], [], t0, n, 0) _
  refine ex_go (S := (1, [(0, gx_r 383), (1, .inl e)], [gx_r 383], t0, n, 0)) rfl (fun _ => rfl) rfl ?_
  refine ex_go (S := (2, [(0, gx_r 383), (1, .inl e)], [.inl e, gx_r 383], t0, n, 0)) rfl (fun _ => rfl) rfl ?_
  obtain ⟨_, r101, t101, a101, f101, c101, rfl, x101, w101, wa101⟩ := h d n _ _ _ _ s0 hT (by omega) kc (by omega) kf
  have s101 := x101.1
  have e101 := x101.2.1
  have k101 := x101.2.2.1
  have q101 := x101.2.2.2.1
  have b101 := s101.2.2.2
  refine gx_call0 rfl rfl s0.1 rfl rfl r101 rfl ?_
  have k2 : ai_hv t101 383 21 = some (.inl fh) := (e101 383 21 (by omega)).trans kf
  have hT3 := rT_keep (t' := t101) hT (fun c i h => e101 c i (by omega))
  refine ex_imp (fun o9 h9 => ?_) (pe_all_l h he d n hca 1000 t101 a101 f101 c101 [] (Or.inl rfl) (by omega) x101 hT3 (by omega) k2)
  obtain ⟨r9, g0, t9, a9, f9, c9, g1, g2, g3, g4⟩ := h9
  exact ⟨r9, g0, t9, a9, f9, c9, g1, g2, Ev_seq (by omega) w101 g3, g4⟩
theorem pe_takePart_t {l e : Nat} (hP : ∀ d, pe_C S m N fh (d + l + 3) 288 4 (e + 1)) (hA : ∀ d, pe_C S m N fh (d + l + 7) 247 0 (e + 1)) (he : e ≤ 4) (d n : Nat) {t0 : en_H} {a f c nb fa : Nat} (s0 : px_S t0 a f) (hT : rT t0 S m N) (ha : a ≤ N) (kc : ai_hv t0 383 13 = some (.inl c)) (hca : c ≤ a) (kf : ai_hv t0 383 21 = some (.inl fh)) (hf : f = 0) (hb : sp_bp S m N fh a) (hk : (nb = 1 ∧ a < N) ∨ (nb = 0 ∧ fa < 4 ∧ a < N) ∨ (nb = 0 ∧ (sp_sg S m N a 40 ∨ sp_wd S m N a 35))) : en_ex none (en_u (d + l + 7)) (en_code 288) (fun _ => false) (101, [(3, .inl fa), (2, .inl nb), (0, gx_r 383), (1, .inl e)], [], t0, n, 0) (fun o => ∃ r, o = .inl r ∧ ∃ t' a' f' c', r = (none, t', n, 0) ∧ px_X t0 a f c t' a' f' c' ∧ Ev S m N fh 4 e (a, f) (a', f') ∧ a' ≤ N) := by
  subst hf
  have b0 := s0.2.2.2
  have hN := hT.2.2.2.2.1
  have he5 : e ≠ 5 := by omega
  have hP7 : ∀ d, pe_C S m N fh (d + l + 7) 288 4 (e + 1) := fun d => by
    have h9 := hP (d + 4)
    rw [show d + 4 + l + 3 = d + l + 7 by omega] at h9
    exact h9
  refine ex_go (S := (102, [(3, .inl fa), (2, .inl nb), (0, gx_r 383), (1, .inl e)], [gx_r 383], t0, n, 0)) rfl (fun _ => rfl) rfl ?_
  refine gx_get rfl s0.1 rfl s0.2.2.1 rfl ?_
  refine ex_go (S := (109, [(3, .inl fa), (2, .inl nb), (0, gx_r 383), (1, .inl e)], [], t0, n, 0)) rfl (fun _ => rfl) rfl ?_
  refine ex_go (S := (110, [(3, .inl fa), (2, .inl nb), (0, gx_r 383), (1, .inl e)], [gx_r 383], t0, n, 0)) rfl (fun _ => rfl) rfl ?_
  refine ex_go (S := (112, [(3, .inl fa), (2, .inl nb), (0, gx_r 383), (1, .inl e)], [.inl 35, gx_r 383], t0, n, 0)) rfl (fun _ => rfl) rfl ?_
  obtain ⟨_, r101, v101, t101, a101, f101, rfl, s101, e101, q101⟩ := pe_hasWord (d + l + 5) n (s0) hT (by omega) (w := 35) (by omega)
  have b101 := s101.2.2.2
  have hlq101 : v101 = 1 → a < N := fun z => (q101.2.mp z).2.1
  refine gx_call1 rfl rfl s0.1 rfl rfl r101 rfl ?_
  have k2 : ai_hv t101 383 13 = some (.inl c) := (e101 383 13 (by omega)).trans kc
  have k3 : ai_hv t101 383 21 = some (.inl fh) := (e101 383 21 (by omega)).trans kf
  by_cases hc4 : v101 = 0
  · refine gx_1t (c := .eq) rfl (by omega) hc4 rfl ?_
    refine ex_go (S := (135, [(3, .inl fa), (2, .inl nb), (0, gx_r 383), (1, .inl e)], [gx_r 383], t101, n, 0)) rfl (fun _ => rfl) rfl ?_
    refine ex_go (S := (137, [(3, .inl fa), (2, .inl nb), (0, gx_r 383), (1, .inl e)], [.inl 40, gx_r 383], t101, n, 0)) rfl (fun _ => rfl) rfl ?_
    have hT6 := rT_keep (t' := t101) hT (fun c i h => e101 c i (by omega))
    obtain ⟨_, r105, v105, t105, a105, f105, rfl, s105, e105, q105⟩ := pe_hasSign (d + l + 5) n (s101) hT6 (by omega) (w := 40) (by omega)
    have b105 := s105.2.2.2
    have hlq105 : v105 = 1 → a101 < N := fun z => (q105.2.mp z).2.1
    refine gx_call1 rfl rfl s101.1 rfl rfl r105 rfl ?_
    have k7 : ai_hv t105 383 13 = some (.inl c) := (e105 383 13 (by omega)).trans k2
    have k8 : ai_hv t105 383 21 = some (.inl fh) := (e105 383 21 (by omega)).trans k3
    by_cases hc9 : v105 = 0
    · refine gx_1t (c := .eq) rfl (by omega) hc9 rfl ?_
      have hw9 : ¬ sp_wd S m N a 35 := fun z => absurd (q101.2.mpr ⟨rfl, z⟩) (by omega)
      have hs9 : ¬ sp_sg S m N a 40 := fun z => absurd (q105.2.mpr ⟨by omega, by rw [show a101 = a by omega]; exact z⟩) (by omega)
      have hk2 : (nb = 1 ∧ a < N) ∨ (nb = 0 ∧ fa < 4 ∧ a < N) := by
        rcases hk with hk | hk | ⟨hk, hk | hk⟩
        · exact Or.inl hk
        · exact Or.inr hk
        · exact absurd hk hs9
        · exact absurd hk hw9
      rcases hk2 with ⟨h7, h8⟩ | ⟨h7, h9, h8⟩
      · subst h7
        refine ex_go (S := (160, [(3, .inl fa), (2, .inl 1), (0, gx_r 383), (1, .inl e)], [gx_r 383], t105, n, 0)) rfl (fun _ => rfl) rfl ?_
        refine ex_go (S := (161, [(3, .inl fa), (2, .inl 1), (0, gx_r 383), (1, .inl e)], [.inl 1, gx_r 383], t105, n, 0)) rfl (fun _ => rfl) rfl ?_
        refine ex_go (S := (164, [(3, .inl fa), (2, .inl 1), (0, gx_r 383), (1, .inl e)], [gx_r 383], t105, n, 0)) rfl (fun _ => rfl) rfl ?_
        refine ex_go (S := (165, [(3, .inl fa), (2, .inl 1), (0, gx_r 383), (1, .inl e)], [.inl 1, gx_r 383], t105, n, 0)) rfl (fun _ => rfl) rfl ?_
        refine ex_go (S := (169, [(3, .inl fa), (2, .inl 1), (0, gx_r 383), (1, .inl e)], [.inl 1, gx_r 383], t105, n, 0)) rfl (fun _ => rfl) rfl ?_
        refine ex_go (S := (170, [(3, .inl fa), (2, .inl 1), (0, gx_r 383), (1, .inl e)], [.inl 1, .inl 1, gx_r 383], t105, n, 0)) rfl (fun _ => rfl) rfl ?_
        refine ex_go (S := (173, [(3, .inl fa), (2, .inl 1), (0, gx_r 383), (1, .inl e)], [.inl 1, gx_r 383], t105, n, 0)) rfl (fun _ => rfl) rfl ?_
        refine ex_go (S := (174, [(3, .inl fa), (2, .inl 1), (0, gx_r 383), (1, .inl e)], [gx_r 383, .inl 1, gx_r 383], t105, n, 0)) rfl (fun _ => rfl) rfl ?_
        refine gx_ref (c := 387) rfl s105.1 rfl rfl rfl rfl ?_
        refine ex_go (S := (178, [(3, .inl fa), (2, .inl 1), (0, gx_r 383), (1, .inl e)], [gx_r 383, gx_r 387, .inl 1, gx_r 383], t105, n, 0)) rfl (fun _ => rfl) rfl ?_
        refine gx_get rfl s105.1 rfl s105.2.1 rfl ?_
        obtain ⟨m10, k11⟩ := gx_long_387 s105.1 (i := a105) (by omega)
        refine gx_ag (v := .inr (.inl m10)) (cb := fun c => Nat.beq c 3) rfl (fun _ => rfl) s105.1 rfl rfl k11 (by omega) rfl ?_
        refine ex_go (S := (183, [(3, .inl fa), (2, .inl 1), (0, gx_r 383), (1, .inl e)], [.inl ((lN m10).toInt32.toBitVec.toNat), .inl 1, gx_r 383], t105, n, 0)) rfl (fun _ => rfl) rfl ?_
        refine ex_go (S := (187, [(3, .inl fa), (2, .inl 1), (0, gx_r 383), (1, .inl e)], [.inl ((lN m10).toInt32.toBitVec.toNat), .inl 1, gx_r 383], t105, n, 0)) rfl (fun _ => rfl) rfl ?_
        have z12b : (lN m10).toInt32.toBitVec.toNat < 4294967296 := (lN m10).toInt32.toBitVec.isLt
        generalize (lN m10).toInt32.toBitVec.toNat = z12 at z12b ⊢
        obtain ⟨_, r113, t113, rfl, s113, e113, k113, ko113, kz113⟩ := pk_emit (d + l + 6) n (s105) (o := 1) (z := z12) (by omega) (by omega) (by omega) k7
        have b113 := s113.2.2.2
        refine gx_call0 rfl rfl s105.1 rfl rfl r113 rfl ?_
        have k14 : ai_hv t113 383 21 = some (.inl fh) := (e113 383 21 (by omega)).trans k8
        refine ex_go (S := (191, [(3, .inl fa), (2, .inl 1), (0, gx_r 383), (1, .inl e)], [gx_r 383], t113, n, 0)) rfl (fun _ => rfl) rfl ?_
        refine ex_go (S := (192, [(3, .inl fa), (2, .inl 1), (0, gx_r 383), (1, .inl e)], [gx_r 383, gx_r 383], t113, n, 0)) rfl (fun _ => rfl) rfl ?_
        refine gx_get rfl s113.1 rfl s113.2.1 rfl ?_
        refine ex_go (S := (196, [(3, .inl fa), (2, .inl 1), (0, gx_r 383), (1, .inl e)], [.inl 1, .inl a105, gx_r 383], t113, n, 0)) rfl (fun _ => rfl) rfl ?_
        refine ex_iadd rfl (by omega) rfl ?_
        refine gx_put rfl s113.1 rfl rfl (ai_in_h (by omega) (by omega) (by omega)) rfl (fun t115 g115 k115 e115 => ?_)
        have k16 : ai_hv t115 383 21 = some (.inl fh) := (e115 383 21 (by omega)).trans k14
        have k17 : ai_hv t115 383 13 = some (.inl (c + 1)) := (e115 383 13 (by omega)).trans k113
        have s115 : px_S t115 (a105 + 1) f105 := ⟨g115, k115, (e115 383 8 (by omega)).trans s113.2.2.1, by omega, s113.2.2.2.2⟩
        refine ex_ret (r := (none, t115, n, 0)) rfl (fun _ => rfl) ?_
        exact ⟨_, rfl, t115, a105 + 1, f105, c + 1, rfl, px_X_one rfl (by omega) (fun c i h => (e105 c i (by omega)).trans (e101 c i (by omega))) e113 (fun c i h => e115 c i (by omega)) s115 k113 ko113 kz113 (by omega), Ev_to (Ev_one he5 hw9 hs9 hb) (by show a + 1 = a105 + 1; omega) (by show 0 = f105; omega), by omega⟩
      · subst h7
        refine ex_go (S := (160, [(3, .inl fa), (2, .inl 0), (0, gx_r 383), (1, .inl e)], [gx_r 383], t105, n, 0)) rfl (fun _ => rfl) rfl ?_
        refine ex_go (S := (161, [(3, .inl fa), (2, .inl 0), (0, gx_r 383), (1, .inl e)], [.inl 0, gx_r 383], t105, n, 0)) rfl (fun _ => rfl) rfl ?_
        refine ex_go (S := (168, [(3, .inl fa), (2, .inl 0), (0, gx_r 383), (1, .inl e)], [gx_r 383], t105, n, 0)) rfl (fun _ => rfl) rfl ?_
        refine ex_go (S := (169, [(3, .inl fa), (2, .inl 0), (0, gx_r 383), (1, .inl e)], [.inl 2, gx_r 383], t105, n, 0)) rfl (fun _ => rfl) rfl ?_
        refine ex_go (S := (170, [(3, .inl fa), (2, .inl 0), (0, gx_r 383), (1, .inl e)], [.inl 0, .inl 2, gx_r 383], t105, n, 0)) rfl (fun _ => rfl) rfl ?_
        refine ex_go (S := (186, [(3, .inl fa), (2, .inl 0), (0, gx_r 383), (1, .inl e)], [.inl 2, gx_r 383], t105, n, 0)) rfl (fun _ => rfl) rfl ?_
        refine ex_go (S := (187, [(3, .inl fa), (2, .inl 0), (0, gx_r 383), (1, .inl e)], [.inl fa, .inl 2, gx_r 383], t105, n, 0)) rfl (fun _ => rfl) rfl ?_
        obtain ⟨_, r118, t118, rfl, s118, e118, k118, ko118, kz118⟩ := pk_emit (d + l + 6) n (s105) (o := 2) (z := fa) (by omega) (by omega) (by omega) k7
        have b118 := s118.2.2.2
        refine gx_call0 rfl rfl s105.1 rfl rfl r118 rfl ?_
        have k19 : ai_hv t118 383 21 = some (.inl fh) := (e118 383 21 (by omega)).trans k8
        refine ex_go (S := (191, [(3, .inl fa), (2, .inl 0), (0, gx_r 383), (1, .inl e)], [gx_r 383], t118, n, 0)) rfl (fun _ => rfl) rfl ?_
        refine ex_go (S := (192, [(3, .inl fa), (2, .inl 0), (0, gx_r 383), (1, .inl e)], [gx_r 383, gx_r 383], t118, n, 0)) rfl (fun _ => rfl) rfl ?_
        refine gx_get rfl s118.1 rfl s118.2.1 rfl ?_
        refine ex_go (S := (196, [(3, .inl fa), (2, .inl 0), (0, gx_r 383), (1, .inl e)], [.inl 1, .inl a105, gx_r 383], t118, n, 0)) rfl (fun _ => rfl) rfl ?_
        refine ex_iadd rfl (by omega) rfl ?_
        refine gx_put rfl s118.1 rfl rfl (ai_in_h (by omega) (by omega) (by omega)) rfl (fun t120 g120 k120 e120 => ?_)
        have k21 : ai_hv t120 383 21 = some (.inl fh) := (e120 383 21 (by omega)).trans k19
        have k22 : ai_hv t120 383 13 = some (.inl (c + 1)) := (e120 383 13 (by omega)).trans k118
        have s120 : px_S t120 (a105 + 1) f105 := ⟨g120, k120, (e120 383 8 (by omega)).trans s118.2.2.1, by omega, s118.2.2.2.2⟩
        refine ex_ret (r := (none, t120, n, 0)) rfl (fun _ => rfl) ?_
        exact ⟨_, rfl, t120, a105 + 1, f105, c + 1, rfl, px_X_one rfl (by omega) (fun c i h => (e105 c i (by omega)).trans (e101 c i (by omega))) e118 (fun c i h => e120 c i (by omega)) s120 k118 ko118 kz118 (by omega), Ev_to (Ev_one he5 hw9 hs9 hb) (by show a + 1 = a105 + 1; omega) (by show 0 = f105; omega), by omega⟩
    · refine gx_1f (c := .eq) rfl (by omega) hc9 rfl ?_
      refine ex_go (S := (144, [(3, .inl fa), (2, .inl nb), (0, gx_r 383), (1, .inl e)], [gx_r 383], t105, n, 0)) rfl (fun _ => rfl) rfl ?_
      refine ex_go (S := (145, [(3, .inl fa), (2, .inl nb), (0, gx_r 383), (1, .inl e)], [.inl e, gx_r 383], t105, n, 0)) rfl (fun _ => rfl) rfl ?_
      refine ex_go (S := (146, [(3, .inl fa), (2, .inl nb), (0, gx_r 383), (1, .inl e)], [.inl 1, .inl e, gx_r 383], t105, n, 0)) rfl (fun _ => rfl) rfl ?_
      refine ex_iadd rfl (by omega) rfl ?_
      have hT24 := rT_keep (t' := t105) hT (fun c i h => (e105 c i (by omega)).trans (e101 c i (by omega)))
      obtain ⟨_, r123, t123, a123, f123, c123, rfl, x123, w123, wa123⟩ := hA d n _ _ _ _ s105 hT24 (by omega) k7 (by omega) k8
      have s123 := x123.1
      have e123 := x123.2.1
      have k123 := x123.2.2.1
      have q123 := x123.2.2.2.1
      have b123 := s123.2.2.2
      refine gx_call0 rfl rfl s105.1 rfl rfl r123 rfl ?_
      have k25 : ai_hv t123 383 21 = some (.inl fh) := (e123 383 21 (by omega)).trans k8
      refine ex_go (S := (151, [(3, .inl fa), (2, .inl nb), (0, gx_r 383), (1, .inl e)], [gx_r 383], t123, n, 0)) rfl (fun _ => rfl) rfl ?_
      refine ex_go (S := (153, [(3, .inl fa), (2, .inl nb), (0, gx_r 383), (1, .inl e)], [.inl 41, gx_r 383], t123, n, 0)) rfl (fun _ => rfl) rfl ?_
      have hT27 := rT_keep (t' := t123) hT (fun c i h => (e123 c i (by omega)).trans ((e105 c i (by omega)).trans (e101 c i (by omega))))
      obtain ⟨_, r126, t126, a126, f126, rfl, s126, e126, z126, q126⟩ := pf_takeSign (d + l + 5) n (s123) hT27 (by omega) (w := 41) (by omega)
      have b126 := s126.2.2.2
      refine gx_call0 rfl rfl s123.1 rfl rfl r126 rfl ?_
      have k28 : ai_hv t126 383 21 = some (.inl fh) := (e126 383 21 (by omega)).trans k25
      have k29 : ai_hv t126 383 13 = some (.inl c123) := (e126 383 13 (by omega)).trans k123
      refine ex_go (S := (200, [(3, .inl fa), (2, .inl nb), (0, gx_r 383), (1, .inl e)], [], t126, n, 0)) rfl (fun _ => rfl) rfl ?_
      refine ex_ret (r := (none, t126, n, 0)) rfl (fun _ => rfl) ?_
      have w9 : Ev S m N fh 0 (e + 1) (a + 1, 0) (a123, f123) := Ev_at w123 (by show a105 = a + 1; omega) (by show f105 = 0; omega)
      have hw9 : ¬ sp_wd S m N a 35 := fun z => absurd (q101.2.mpr ⟨rfl, z⟩) (by omega)
      have hs9 : sp_sg S m N a 40 := by have z9 := (q105.2.mp (by omega)).2; rw [show a101 = a by omega] at z9; exact z9
      exact ⟨_, rfl, t126, a126, f126, c123, rfl, px_X_in rfl (by omega) (fun c i h => (e105 c i (by omega)).trans (e101 c i (by omega))) x123 (fun c i h => e126 c i (by omega)) s126 (by omega) (by omega), by rw [z126]; exact Ev_in he5 hw9 hs9 w9, by omega⟩
  · refine gx_1f (c := .eq) rfl (by omega) hc4 rfl ?_
    refine ex_go (S := (119, [(3, .inl fa), (2, .inl nb), (0, gx_r 383), (1, .inl e)], [gx_r 383], t101, n, 0)) rfl (fun _ => rfl) rfl ?_
    refine ex_go (S := (120, [(3, .inl fa), (2, .inl nb), (0, gx_r 383), (1, .inl e)], [.inl e, gx_r 383], t101, n, 0)) rfl (fun _ => rfl) rfl ?_
    refine ex_go (S := (121, [(3, .inl fa), (2, .inl nb), (0, gx_r 383), (1, .inl e)], [.inl 1, .inl e, gx_r 383], t101, n, 0)) rfl (fun _ => rfl) rfl ?_
    refine ex_iadd rfl (by omega) rfl ?_
    have hT31 := rT_keep (t' := t101) hT (fun c i h => e101 c i (by omega))
    obtain ⟨_, r130, t130, a130, f130, c130, rfl, x130, w130, wa130⟩ := hP7 d n _ _ _ _ s101 hT31 (by omega) k2 (by omega) k3
    have s130 := x130.1
    have e130 := x130.2.1
    have k130 := x130.2.2.1
    have q130 := x130.2.2.2.1
    have b130 := s130.2.2.2
    refine gx_call0 rfl rfl s101.1 rfl rfl r130 rfl ?_
    have k32 : ai_hv t130 383 21 = some (.inl fh) := (e130 383 21 (by omega)).trans k3
    refine ex_go (S := (126, [(3, .inl fa), (2, .inl nb), (0, gx_r 383), (1, .inl e)], [gx_r 383], t130, n, 0)) rfl (fun _ => rfl) rfl ?_
    refine ex_go (S := (127, [(3, .inl fa), (2, .inl nb), (0, gx_r 383), (1, .inl e)], [.inl 3, gx_r 383], t130, n, 0)) rfl (fun _ => rfl) rfl ?_
    refine ex_go (S := (128, [(3, .inl fa), (2, .inl nb), (0, gx_r 383), (1, .inl e)], [.inl 0, .inl 3, gx_r 383], t130, n, 0)) rfl (fun _ => rfl) rfl ?_
    obtain ⟨_, r133, t133, rfl, s133, e133, k133, ko133, kz133⟩ := pk_emit (d + l + 6) n (s130) (o := 3) (z := 0) (by omega) (by omega) (by omega) k130
    have b133 := s133.2.2.2
    refine gx_call0 rfl rfl s130.1 rfl rfl r133 rfl ?_
    have k34 : ai_hv t133 383 21 = some (.inl fh) := (e133 383 21 (by omega)).trans k32
    refine ex_go (S := (200, [(3, .inl fa), (2, .inl nb), (0, gx_r 383), (1, .inl e)], [], t133, n, 0)) rfl (fun _ => rfl) rfl ?_
    refine ex_ret (r := (none, t133, n, 0)) rfl (fun _ => rfl) ?_
    have w9 : Ev S m N fh 4 (e + 1) (a + 1, 0) (a130, f130) := Ev_at w130 (by show a101 = a + 1; omega) (by show f101 = 0; omega)
    exact ⟨_, rfl, t133, a130, f130, c130 + 1, rfl, px_X_not rfl (by omega) (fun c i h => e101 c i (by omega)) x130 s133 e133 k133 ko133 kz133, Ev_not he5 (q101.2.mp (by omega)).2 w9, by omega⟩
theorem pe_takePart5 (d : Nat) (hfh : fh < 16) : pe_C S m N fh (d + 3) 288 4 5 := by
  intro n t0 a f c s0 hT ha kc hca kf
  have b0 := s0.2.2.2
  have hN := hT.2.2.2.2.1
  refine en_u_ex (d := d + 2) rfl ?_
  show en_ex _ _ _ _ (0, [(0, gx_r 383), (1, .inl 5)], [], t0, n, 0) _
  refine ex_go (S := (1, [(0, gx_r 383), (1, .inl 5)], [gx_r 383], t0, n, 0)) rfl (fun _ => rfl) rfl ?_
  refine gx_get rfl s0.1 rfl s0.2.2.1 rfl ?_
  by_cases hc1 : f ≤ 0
  · refine gx_1t (c := .le) rfl (by omega) hc1 rfl ?_
    refine ex_go (S := (9, [(0, gx_r 383), (1, .inl 5)], [gx_r 383], t0, n, 0)) rfl (fun _ => rfl) rfl ?_
    refine gx_ref (c := 385) rfl s0.1 rfl rfl rfl rfl ?_
    refine ex_go (S := (13, [(0, gx_r 383), (1, .inl 5)], [gx_r 383, gx_r 385], t0, n, 0)) rfl (fun _ => rfl) rfl ?_
    refine gx_get rfl s0.1 rfl s0.2.1 rfl ?_
    have k2 := rT_sort hT (a := a) (by omega)
    have k2b : sp_kt S m N a ≤ 4 := by unfold sp_kt; have := sp_ty_le S m (sp_st S m a); split <;> omega
    refine gx_ag (v := .inl (sp_kt S m N a)) (cb := fun c => Nat.beq c 0) rfl (fun _ => rfl) s0.1 rfl rfl k2 (by omega) rfl ?_
    refine ex_go (S := (18, [(0, gx_r 383), (1, .inl 5)], [.inl 2, .inl (sp_kt S m N a)], t0, n, 0)) rfl (fun _ => rfl) rfl ?_
    by_cases hc3 : sp_kt S m N a ≠ 2
    · refine gx_2t (c := .ne) rfl (by omega) (by omega) hc3 rfl ?_
      refine ex_go (S := (26, [(0, gx_r 383), (1, .inl 5)], [.inl 0], t0, n, 0)) rfl (fun _ => rfl) rfl ?_
      refine ex_go (S := (27, [(2, .inl 0), (0, gx_r 383), (1, .inl 5)], [], t0, n, 0)) rfl (fun _ => rfl) rfl ?_
      refine ex_go (S := (28, [(2, .inl 0), (0, gx_r 383), (1, .inl 5)], [gx_r 383], t0, n, 0)) rfl (fun _ => rfl) rfl ?_
      refine ex_go (S := (30, [(2, .inl 0), (0, gx_r 383), (1, .inl 5)], [.inl 38, gx_r 383], t0, n, 0)) rfl (fun _ => rfl) rfl ?_
      refine ex_go (S := (31, [(2, .inl 0), (0, gx_r 383), (1, .inl 5)], [.inl 4, .inl 38, gx_r 383], t0, n, 0)) rfl (fun _ => rfl) rfl ?_
      obtain ⟨_, r6, b4, rfl, q5⟩ := pe_wordHere (d) n (s0) hT (by omega) (w := 38) (mm := 4) (by omega)
      refine gx_call1 rfl rfl s0.1 rfl rfl r6 rfl ?_
      refine ex_go (S := (35, [(3, .inl b4), (2, .inl 0), (0, gx_r 383), (1, .inl 5)], [], t0, n, 0)) rfl (fun _ => rfl) rfl ?_
      refine ex_go (S := (36, [(3, .inl b4), (2, .inl 0), (0, gx_r 383), (1, .inl 5)], [.inl b4], t0, n, 0)) rfl (fun _ => rfl) rfl ?_
      have hf0 : f = 0 := by omega
      rcases q5 with ⟨hna, hnb, hnc⟩ | ⟨hna, hnb⟩
      · have hlt9 : a < N := hnc.1
        refine gx_1f (c := .lt) rfl (by omega) (show ¬ (b4 < 0) from by omega) rfl ?_
        refine ex_go (S := (40, [(3, .inl b4), (2, .inl 0), (0, gx_r 383), (1, .inl 5)], [gx_r 383], t0, n, 0)) rfl (fun _ => rfl) rfl ?_
        refine gx_get rfl s0.1 rfl kf rfl ?_
        refine ex_go (S := (44, [(3, .inl b4), (2, .inl 0), (0, gx_r 383), (1, .inl 5)], [.inl b4, .inl fh], t0, n, 0)) rfl (fun _ => rfl) rfl ?_
        refine ex_go (S := (45, [(3, .inl b4), (2, .inl 0), (0, gx_r 383), (1, .inl 5)], [.inl ((nI fh >>> (nI b4 &&& 31)).toBitVec.toNat)], t0, n, 0)) rfl (fun _ => rfl) rfl ?_
        refine ex_go (S := (46, [(3, .inl b4), (2, .inl 0), (0, gx_r 383), (1, .inl 5)], [.inl 1, .inl ((nI fh >>> (nI b4 &&& 31)).toBitVec.toNat)], t0, n, 0)) rfl (fun _ => rfl) rfl ?_
        refine ex_go (S := (47, [(3, .inl b4), (2, .inl 0), (0, gx_r 383), (1, .inl 5)], [.inl ((nI ((nI fh >>> (nI b4 &&& 31)).toBitVec.toNat) &&& nI 1).toBitVec.toNat)], t0, n, 0)) rfl (fun _ => rfl) rfl ?_
        rw [gx_bit hfh (show b4 < 4 by omega)]
        obtain ⟨z9, hz9⟩ : ∃ z, z = (fh >>> b4) % 2 := ⟨_, rfl⟩
        have hz8 : z9 < 2 := by rw [hz9]; exact Nat.mod_lt _ (by decide)
        rw [← hz9]
        refine ex_go (S := (48, [(3, .inl b4), (2, .inl 0), (0, gx_r 383), (1, .inl 5)], [.inl 1, .inl z9], t0, n, 0)) rfl (fun _ => rfl) rfl ?_
        by_cases hc7 : z9 ≠ 1
        · refine gx_2t (c := .ne) rfl (by omega) (by omega) hc7 rfl ?_
          refine ex_go (S := (56, [(3, .inl b4), (2, .inl 0), (0, gx_r 383), (1, .inl 5)], [.inl 4294967295], t0, n, 0)) rfl (fun _ => rfl) rfl ?_
          have hnf : ¬ sp_fa S m N fh a := fun ⟨j, z1, z2, z3⟩ => by
            have h9 := sp_wd_one (by omega) (by omega) hnc z2
            rw [show j = b4 by omega] at z3
            omega
          refine ex_go (S := (57, [(3, .inl 4294967295), (2, .inl 0), (0, gx_r 383), (1, .inl 5)], [], t0, n, 0)) rfl (fun _ => rfl) rfl ?_
          refine ex_go (S := (58, [(3, .inl 4294967295), (2, .inl 0), (0, gx_r 383), (1, .inl 5)], [.inl 4294967295], t0, n, 0)) rfl (fun _ => rfl) rfl ?_
          refine ex_go (S := (61, [(3, .inl 4294967295), (2, .inl 0), (0, gx_r 383), (1, .inl 5)], [], t0, n, 0)) rfl (fun _ => rfl) rfl ?_
          refine ex_go (S := (62, [(3, .inl 4294967295), (2, .inl 0), (0, gx_r 383), (1, .inl 5)], [.inl 0], t0, n, 0)) rfl (fun _ => rfl) rfl ?_
          refine ex_go (S := (65, [(3, .inl 4294967295), (2, .inl 0), (0, gx_r 383), (1, .inl 5)], [], t0, n, 0)) rfl (fun _ => rfl) rfl ?_
          refine ex_go (S := (66, [(3, .inl 4294967295), (2, .inl 0), (0, gx_r 383), (1, .inl 5)], [gx_r 383], t0, n, 0)) rfl (fun _ => rfl) rfl ?_
          refine ex_go (S := (68, [(3, .inl 4294967295), (2, .inl 0), (0, gx_r 383), (1, .inl 5)], [.inl 40, gx_r 383], t0, n, 0)) rfl (fun _ => rfl) rfl ?_
          obtain ⟨_, r10, b8, rfl, q9⟩ := pe_isSign (d + 1) n (s0) hT (by omega) (w := 40) (by omega)
          refine gx_call1 rfl rfl s0.1 rfl rfl r10 rfl ?_
          have hlq9 : b8 = 1 → a < N := fun z => (q9.2.mp z).2.1
          by_cases hc11 : b8 ≠ 0
          · refine gx_1t (c := .ne) rfl (by omega) hc11 rfl ?_
            refine ex_go (S := (92, [(3, .inl 4294967295), (2, .inl 0), (0, gx_r 383), (1, .inl 5)], [.inl 5], t0, n, 0)) rfl (fun _ => rfl) rfl ?_
            refine ex_go (S := (93, [(3, .inl 4294967295), (2, .inl 0), (0, gx_r 383), (1, .inl 5)], [.inl 5, .inl 5], t0, n, 0)) rfl (fun _ => rfl) rfl ?_
            refine ex_go (S := (96, [(3, .inl 4294967295), (2, .inl 0), (0, gx_r 383), (1, .inl 5)], [], t0, n, 0)) rfl (fun _ => rfl) rfl ?_
            refine ex_go (S := (97, [(3, .inl 4294967295), (2, .inl 0), (0, gx_r 383), (1, .inl 5)], [gx_r 383], t0, n, 0)) rfl (fun _ => rfl) rfl ?_
            refine ex_go (S := (98, [(3, .inl 4294967295), (2, .inl 0), (0, gx_r 383), (1, .inl 5)], [.inl 5, gx_r 383], t0, n, 0)) rfl (fun _ => rfl) rfl ?_
            have hb9 : sp_bp S m N fh a := Or.inr (Or.inr (Or.inl (q9.2.mp (by omega)).2))
            obtain ⟨_, r112, t112, a112, f112, rfl, s112, e112, q112⟩ := pe_wrong (d + 1) n (s0) hT (by omega) (w := 5) (by omega)
            have b112 := s112.2.2.2
            have hT112 := rT_keep hT (fun c i h => e112 c i (by omega))
            refine gx_call0 rfl rfl s0.1 rfl rfl r112 rfl ?_
            have k13 : ai_hv t112 383 13 = some (.inl c) := (e112 383 13 (by omega)).trans kc
            have k14 : ai_hv t112 383 21 = some (.inl fh) := (e112 383 21 (by omega)).trans kf
            have k15 : ai_hv t112 385 a = some (.inl (sp_kt S m N a)) := (e112 385 a (by omega)).trans k2
            refine ex_go (S := (102, [(3, .inl 4294967295), (2, .inl 0), (0, gx_r 383), (1, .inl 5)], [gx_r 383], t112, n, 0)) rfl (fun _ => rfl) rfl ?_
            refine gx_get rfl s112.1 rfl s112.2.2.1 rfl ?_
            refine gx_1f (c := .le) rfl (by omega) (show ¬ (f112 ≤ 0) from by omega) rfl ?_
            refine ex_ret (r := (none, t112, n, 0)) rfl (fun _ => rfl) ?_
            have hf9 : f112 = 5 + 16 * sp_st S m a := by omega
            exact ⟨_, rfl, t112, a112, f112, c, rfl, px_X_fault kc (fun c i h => e112 c i (by omega)) s112 (by omega) (by omega), Ev_at (Ev_to (Ev_p5 hb9) (by show a = a112; omega) (by show _ = f112; omega)) rfl (by show 0 = f; omega), by omega⟩
          · refine gx_1f (c := .ne) rfl (by omega) hc11 rfl ?_
            refine ex_go (S := (75, [(3, .inl 4294967295), (2, .inl 0), (0, gx_r 383), (1, .inl 5)], [gx_r 383], t0, n, 0)) rfl (fun _ => rfl) rfl ?_
            refine ex_go (S := (77, [(3, .inl 4294967295), (2, .inl 0), (0, gx_r 383), (1, .inl 5)], [.inl 35, gx_r 383], t0, n, 0)) rfl (fun _ => rfl) rfl ?_
            obtain ⟨_, r18, b16, rfl, q17⟩ := pe_isWord (d + 1) n (s0) hT (by omega) (w := 35) (by omega)
            refine gx_call1 rfl rfl s0.1 rfl rfl r18 rfl ?_
            have hlq17 : b16 = 1 → a < N := fun z => (q17.2.mp z).2.1
            by_cases hc19 : b16 ≠ 0
            · refine gx_1t (c := .ne) rfl (by omega) hc19 rfl ?_
              refine ex_go (S := (92, [(3, .inl 4294967295), (2, .inl 0), (0, gx_r 383), (1, .inl 5)], [.inl 5], t0, n, 0)) rfl (fun _ => rfl) rfl ?_
              refine ex_go (S := (93, [(3, .inl 4294967295), (2, .inl 0), (0, gx_r 383), (1, .inl 5)], [.inl 5, .inl 5], t0, n, 0)) rfl (fun _ => rfl) rfl ?_
              refine ex_go (S := (96, [(3, .inl 4294967295), (2, .inl 0), (0, gx_r 383), (1, .inl 5)], [], t0, n, 0)) rfl (fun _ => rfl) rfl ?_
              refine ex_go (S := (97, [(3, .inl 4294967295), (2, .inl 0), (0, gx_r 383), (1, .inl 5)], [gx_r 383], t0, n, 0)) rfl (fun _ => rfl) rfl ?_
              refine ex_go (S := (98, [(3, .inl 4294967295), (2, .inl 0), (0, gx_r 383), (1, .inl 5)], [.inl 5, gx_r 383], t0, n, 0)) rfl (fun _ => rfl) rfl ?_
              have hb9 : sp_bp S m N fh a := Or.inr (Or.inr (Or.inr (q17.2.mp (by omega)).2))
              obtain ⟨_, r120, t120, a120, f120, rfl, s120, e120, q120⟩ := pe_wrong (d + 1) n (s0) hT (by omega) (w := 5) (by omega)
              have b120 := s120.2.2.2
              have hT120 := rT_keep hT (fun c i h => e120 c i (by omega))
              refine gx_call0 rfl rfl s0.1 rfl rfl r120 rfl ?_
              have k21 : ai_hv t120 383 13 = some (.inl c) := (e120 383 13 (by omega)).trans kc
              have k22 : ai_hv t120 383 21 = some (.inl fh) := (e120 383 21 (by omega)).trans kf
              have k23 : ai_hv t120 385 a = some (.inl (sp_kt S m N a)) := (e120 385 a (by omega)).trans k2
              refine ex_go (S := (102, [(3, .inl 4294967295), (2, .inl 0), (0, gx_r 383), (1, .inl 5)], [gx_r 383], t120, n, 0)) rfl (fun _ => rfl) rfl ?_
              refine gx_get rfl s120.1 rfl s120.2.2.1 rfl ?_
              refine gx_1f (c := .le) rfl (by omega) (show ¬ (f120 ≤ 0) from by omega) rfl ?_
              refine ex_ret (r := (none, t120, n, 0)) rfl (fun _ => rfl) ?_
              have hf9 : f120 = 5 + 16 * sp_st S m a := by omega
              exact ⟨_, rfl, t120, a120, f120, c, rfl, px_X_fault kc (fun c i h => e120 c i (by omega)) s120 (by omega) (by omega), Ev_at (Ev_to (Ev_p5 hb9) (by show a = a120; omega) (by show _ = f120; omega)) rfl (by show 0 = f; omega), by omega⟩
            · refine gx_1f (c := .ne) rfl (by omega) hc19 rfl ?_
              refine ex_go (S := (84, [(3, .inl 4294967295), (2, .inl 0), (0, gx_r 383), (1, .inl 5)], [gx_r 383], t0, n, 0)) rfl (fun _ => rfl) rfl ?_
              refine ex_go (S := (85, [(3, .inl 4294967295), (2, .inl 0), (0, gx_r 383), (1, .inl 5)], [.inl 1, gx_r 383], t0, n, 0)) rfl (fun _ => rfl) rfl ?_
              have hnb9 : ¬ sp_bp S m N fh a := by
                rintro (z | z | z | z)
                · omega
                · exact hnf z
                · exact absurd (q9.2.mpr ⟨hf0, z⟩) (by omega)
                · exact absurd (q17.2.mpr ⟨hf0, z⟩) (by omega)
              obtain ⟨_, r124, t124, a124, f124, rfl, s124, e124, q124⟩ := pe_wrong (d + 1) n (s0) hT (by omega) (w := 1) (by omega)
              have b124 := s124.2.2.2
              have hT124 := rT_keep hT (fun c i h => e124 c i (by omega))
              refine gx_call0 rfl rfl s0.1 rfl rfl r124 rfl ?_
              have k25 : ai_hv t124 383 13 = some (.inl c) := (e124 383 13 (by omega)).trans kc
              have k26 : ai_hv t124 383 21 = some (.inl fh) := (e124 383 21 (by omega)).trans kf
              have k27 : ai_hv t124 385 a = some (.inl (sp_kt S m N a)) := (e124 385 a (by omega)).trans k2
              refine ex_go (S := (101, [(3, .inl 4294967295), (2, .inl 0), (0, gx_r 383), (1, .inl 5)], [], t124, n, 0)) rfl (fun _ => rfl) rfl ?_
              refine ex_go (S := (102, [(3, .inl 4294967295), (2, .inl 0), (0, gx_r 383), (1, .inl 5)], [gx_r 383], t124, n, 0)) rfl (fun _ => rfl) rfl ?_
              refine gx_get rfl s124.1 rfl s124.2.2.1 rfl ?_
              refine gx_1f (c := .le) rfl (by omega) (show ¬ (f124 ≤ 0) from by omega) rfl ?_
              refine ex_ret (r := (none, t124, n, 0)) rfl (fun _ => rfl) ?_
              have hf9 : f124 = 1 + 16 * sp_st S m a := by omega
              exact ⟨_, rfl, t124, a124, f124, c, rfl, px_X_fault kc (fun c i h => e124 c i (by omega)) s124 (by omega) (by omega), Ev_at (Ev_to (Ev_p1 hnb9) (by show a = a124; omega) (by show _ = f124; omega)) rfl (by show 0 = f; omega), by omega⟩
        · refine gx_2f (c := .ne) rfl (by omega) (by omega) hc7 rfl ?_
          refine ex_go (S := (52, [(3, .inl b4), (2, .inl 0), (0, gx_r 383), (1, .inl 5)], [.inl b4], t0, n, 0)) rfl (fun _ => rfl) rfl ?_
          refine ex_go (S := (56, [(3, .inl b4), (2, .inl 0), (0, gx_r 383), (1, .inl 5)], [.inl b4], t0, n, 0)) rfl (fun _ => rfl) rfl ?_
          have hyf : sp_fa S m N fh a := ⟨b4, hna, hnc, by omega⟩
          refine ex_go (S := (57, [(3, .inl b4), (2, .inl 0), (0, gx_r 383), (1, .inl 5)], [], t0, n, 0)) rfl (fun _ => rfl) rfl ?_
          refine ex_go (S := (58, [(3, .inl b4), (2, .inl 0), (0, gx_r 383), (1, .inl 5)], [.inl b4], t0, n, 0)) rfl (fun _ => rfl) rfl ?_
          refine gx_1t (c := .ge) rfl (by omega) (show 0 ≤ b4 from by omega) rfl ?_
          refine ex_go (S := (92, [(3, .inl b4), (2, .inl 0), (0, gx_r 383), (1, .inl 5)], [.inl 5], t0, n, 0)) rfl (fun _ => rfl) rfl ?_
          refine ex_go (S := (93, [(3, .inl b4), (2, .inl 0), (0, gx_r 383), (1, .inl 5)], [.inl 5, .inl 5], t0, n, 0)) rfl (fun _ => rfl) rfl ?_
          refine ex_go (S := (96, [(3, .inl b4), (2, .inl 0), (0, gx_r 383), (1, .inl 5)], [], t0, n, 0)) rfl (fun _ => rfl) rfl ?_
          refine ex_go (S := (97, [(3, .inl b4), (2, .inl 0), (0, gx_r 383), (1, .inl 5)], [gx_r 383], t0, n, 0)) rfl (fun _ => rfl) rfl ?_
          refine ex_go (S := (98, [(3, .inl b4), (2, .inl 0), (0, gx_r 383), (1, .inl 5)], [.inl 5, gx_r 383], t0, n, 0)) rfl (fun _ => rfl) rfl ?_
          have hb9 : sp_bp S m N fh a := Or.inr (Or.inl hyf)
          obtain ⟨_, r128, t128, a128, f128, rfl, s128, e128, q128⟩ := pe_wrong (d + 1) n (s0) hT (by omega) (w := 5) (by omega)
          have b128 := s128.2.2.2
          have hT128 := rT_keep hT (fun c i h => e128 c i (by omega))
          refine gx_call0 rfl rfl s0.1 rfl rfl r128 rfl ?_
          have k29 : ai_hv t128 383 13 = some (.inl c) := (e128 383 13 (by omega)).trans kc
          have k30 : ai_hv t128 383 21 = some (.inl fh) := (e128 383 21 (by omega)).trans kf
          have k31 : ai_hv t128 385 a = some (.inl (sp_kt S m N a)) := (e128 385 a (by omega)).trans k2
          refine ex_go (S := (102, [(3, .inl b4), (2, .inl 0), (0, gx_r 383), (1, .inl 5)], [gx_r 383], t128, n, 0)) rfl (fun _ => rfl) rfl ?_
          refine gx_get rfl s128.1 rfl s128.2.2.1 rfl ?_
          refine gx_1f (c := .le) rfl (by omega) (show ¬ (f128 ≤ 0) from by omega) rfl ?_
          refine ex_ret (r := (none, t128, n, 0)) rfl (fun _ => rfl) ?_
          have hf9 : f128 = 5 + 16 * sp_st S m a := by omega
          exact ⟨_, rfl, t128, a128, f128, c, rfl, px_X_fault kc (fun c i h => e128 c i (by omega)) s128 (by omega) (by omega), Ev_at (Ev_to (Ev_p5 hb9) (by show a = a128; omega) (by show _ = f128; omega)) rfl (by show 0 = f; omega), by omega⟩
      · have hnf : ¬ sp_fa S m N fh a := fun ⟨j, z1, z2, z3⟩ => hnb j z1 ⟨hf0, z2⟩
        subst hna
        refine ex_go (S := (55, [(3, .inl 4294967295), (2, .inl 0), (0, gx_r 383), (1, .inl 5)], [], t0, n, 0)) rfl (fun _ => rfl) rfl ?_
        refine ex_go (S := (56, [(3, .inl 4294967295), (2, .inl 0), (0, gx_r 383), (1, .inl 5)], [.inl 4294967295], t0, n, 0)) rfl (fun _ => rfl) rfl ?_
        refine ex_go (S := (57, [(3, .inl 4294967295), (2, .inl 0), (0, gx_r 383), (1, .inl 5)], [], t0, n, 0)) rfl (fun _ => rfl) rfl ?_
        refine ex_go (S := (58, [(3, .inl 4294967295), (2, .inl 0), (0, gx_r 383), (1, .inl 5)], [.inl 4294967295], t0, n, 0)) rfl (fun _ => rfl) rfl ?_
        refine ex_go (S := (61, [(3, .inl 4294967295), (2, .inl 0), (0, gx_r 383), (1, .inl 5)], [], t0, n, 0)) rfl (fun _ => rfl) rfl ?_
        refine ex_go (S := (62, [(3, .inl 4294967295), (2, .inl 0), (0, gx_r 383), (1, .inl 5)], [.inl 0], t0, n, 0)) rfl (fun _ => rfl) rfl ?_
        refine ex_go (S := (65, [(3, .inl 4294967295), (2, .inl 0), (0, gx_r 383), (1, .inl 5)], [], t0, n, 0)) rfl (fun _ => rfl) rfl ?_
        refine ex_go (S := (66, [(3, .inl 4294967295), (2, .inl 0), (0, gx_r 383), (1, .inl 5)], [gx_r 383], t0, n, 0)) rfl (fun _ => rfl) rfl ?_
        refine ex_go (S := (68, [(3, .inl 4294967295), (2, .inl 0), (0, gx_r 383), (1, .inl 5)], [.inl 40, gx_r 383], t0, n, 0)) rfl (fun _ => rfl) rfl ?_
        obtain ⟨_, r34, b32, rfl, q33⟩ := pe_isSign (d + 1) n (s0) hT (by omega) (w := 40) (by omega)
        refine gx_call1 rfl rfl s0.1 rfl rfl r34 rfl ?_
        have hlq33 : b32 = 1 → a < N := fun z => (q33.2.mp z).2.1
        by_cases hc35 : b32 ≠ 0
        · refine gx_1t (c := .ne) rfl (by omega) hc35 rfl ?_
          refine ex_go (S := (92, [(3, .inl 4294967295), (2, .inl 0), (0, gx_r 383), (1, .inl 5)], [.inl 5], t0, n, 0)) rfl (fun _ => rfl) rfl ?_
          refine ex_go (S := (93, [(3, .inl 4294967295), (2, .inl 0), (0, gx_r 383), (1, .inl 5)], [.inl 5, .inl 5], t0, n, 0)) rfl (fun _ => rfl) rfl ?_
          refine ex_go (S := (96, [(3, .inl 4294967295), (2, .inl 0), (0, gx_r 383), (1, .inl 5)], [], t0, n, 0)) rfl (fun _ => rfl) rfl ?_
          refine ex_go (S := (97, [(3, .inl 4294967295), (2, .inl 0), (0, gx_r 383), (1, .inl 5)], [gx_r 383], t0, n, 0)) rfl (fun _ => rfl) rfl ?_
          refine ex_go (S := (98, [(3, .inl 4294967295), (2, .inl 0), (0, gx_r 383), (1, .inl 5)], [.inl 5, gx_r 383], t0, n, 0)) rfl (fun _ => rfl) rfl ?_
          have hb9 : sp_bp S m N fh a := Or.inr (Or.inr (Or.inl (q33.2.mp (by omega)).2))
          obtain ⟨_, r136, t136, a136, f136, rfl, s136, e136, q136⟩ := pe_wrong (d + 1) n (s0) hT (by omega) (w := 5) (by omega)
          have b136 := s136.2.2.2
          have hT136 := rT_keep hT (fun c i h => e136 c i (by omega))
          refine gx_call0 rfl rfl s0.1 rfl rfl r136 rfl ?_
          have k37 : ai_hv t136 383 13 = some (.inl c) := (e136 383 13 (by omega)).trans kc
          have k38 : ai_hv t136 383 21 = some (.inl fh) := (e136 383 21 (by omega)).trans kf
          have k39 : ai_hv t136 385 a = some (.inl (sp_kt S m N a)) := (e136 385 a (by omega)).trans k2
          refine ex_go (S := (102, [(3, .inl 4294967295), (2, .inl 0), (0, gx_r 383), (1, .inl 5)], [gx_r 383], t136, n, 0)) rfl (fun _ => rfl) rfl ?_
          refine gx_get rfl s136.1 rfl s136.2.2.1 rfl ?_
          refine gx_1f (c := .le) rfl (by omega) (show ¬ (f136 ≤ 0) from by omega) rfl ?_
          refine ex_ret (r := (none, t136, n, 0)) rfl (fun _ => rfl) ?_
          have hf9 : f136 = 5 + 16 * sp_st S m a := by omega
          exact ⟨_, rfl, t136, a136, f136, c, rfl, px_X_fault kc (fun c i h => e136 c i (by omega)) s136 (by omega) (by omega), Ev_at (Ev_to (Ev_p5 hb9) (by show a = a136; omega) (by show _ = f136; omega)) rfl (by show 0 = f; omega), by omega⟩
        · refine gx_1f (c := .ne) rfl (by omega) hc35 rfl ?_
          refine ex_go (S := (75, [(3, .inl 4294967295), (2, .inl 0), (0, gx_r 383), (1, .inl 5)], [gx_r 383], t0, n, 0)) rfl (fun _ => rfl) rfl ?_
          refine ex_go (S := (77, [(3, .inl 4294967295), (2, .inl 0), (0, gx_r 383), (1, .inl 5)], [.inl 35, gx_r 383], t0, n, 0)) rfl (fun _ => rfl) rfl ?_
          obtain ⟨_, r42, b40, rfl, q41⟩ := pe_isWord (d + 1) n (s0) hT (by omega) (w := 35) (by omega)
          refine gx_call1 rfl rfl s0.1 rfl rfl r42 rfl ?_
          have hlq41 : b40 = 1 → a < N := fun z => (q41.2.mp z).2.1
          by_cases hc43 : b40 ≠ 0
          · refine gx_1t (c := .ne) rfl (by omega) hc43 rfl ?_
            refine ex_go (S := (92, [(3, .inl 4294967295), (2, .inl 0), (0, gx_r 383), (1, .inl 5)], [.inl 5], t0, n, 0)) rfl (fun _ => rfl) rfl ?_
            refine ex_go (S := (93, [(3, .inl 4294967295), (2, .inl 0), (0, gx_r 383), (1, .inl 5)], [.inl 5, .inl 5], t0, n, 0)) rfl (fun _ => rfl) rfl ?_
            refine ex_go (S := (96, [(3, .inl 4294967295), (2, .inl 0), (0, gx_r 383), (1, .inl 5)], [], t0, n, 0)) rfl (fun _ => rfl) rfl ?_
            refine ex_go (S := (97, [(3, .inl 4294967295), (2, .inl 0), (0, gx_r 383), (1, .inl 5)], [gx_r 383], t0, n, 0)) rfl (fun _ => rfl) rfl ?_
            refine ex_go (S := (98, [(3, .inl 4294967295), (2, .inl 0), (0, gx_r 383), (1, .inl 5)], [.inl 5, gx_r 383], t0, n, 0)) rfl (fun _ => rfl) rfl ?_
            have hb9 : sp_bp S m N fh a := Or.inr (Or.inr (Or.inr (q41.2.mp (by omega)).2))
            obtain ⟨_, r144, t144, a144, f144, rfl, s144, e144, q144⟩ := pe_wrong (d + 1) n (s0) hT (by omega) (w := 5) (by omega)
            have b144 := s144.2.2.2
            have hT144 := rT_keep hT (fun c i h => e144 c i (by omega))
            refine gx_call0 rfl rfl s0.1 rfl rfl r144 rfl ?_
            have k45 : ai_hv t144 383 13 = some (.inl c) := (e144 383 13 (by omega)).trans kc
            have k46 : ai_hv t144 383 21 = some (.inl fh) := (e144 383 21 (by omega)).trans kf
            have k47 : ai_hv t144 385 a = some (.inl (sp_kt S m N a)) := (e144 385 a (by omega)).trans k2
            refine ex_go (S := (102, [(3, .inl 4294967295), (2, .inl 0), (0, gx_r 383), (1, .inl 5)], [gx_r 383], t144, n, 0)) rfl (fun _ => rfl) rfl ?_
            refine gx_get rfl s144.1 rfl s144.2.2.1 rfl ?_
            refine gx_1f (c := .le) rfl (by omega) (show ¬ (f144 ≤ 0) from by omega) rfl ?_
            refine ex_ret (r := (none, t144, n, 0)) rfl (fun _ => rfl) ?_
            have hf9 : f144 = 5 + 16 * sp_st S m a := by omega
            exact ⟨_, rfl, t144, a144, f144, c, rfl, px_X_fault kc (fun c i h => e144 c i (by omega)) s144 (by omega) (by omega), Ev_at (Ev_to (Ev_p5 hb9) (by show a = a144; omega) (by show _ = f144; omega)) rfl (by show 0 = f; omega), by omega⟩
          · refine gx_1f (c := .ne) rfl (by omega) hc43 rfl ?_
            refine ex_go (S := (84, [(3, .inl 4294967295), (2, .inl 0), (0, gx_r 383), (1, .inl 5)], [gx_r 383], t0, n, 0)) rfl (fun _ => rfl) rfl ?_
            refine ex_go (S := (85, [(3, .inl 4294967295), (2, .inl 0), (0, gx_r 383), (1, .inl 5)], [.inl 1, gx_r 383], t0, n, 0)) rfl (fun _ => rfl) rfl ?_
            have hnb9 : ¬ sp_bp S m N fh a := by
              rintro (z | z | z | z)
              · omega
              · exact hnf z
              · exact absurd (q33.2.mpr ⟨hf0, z⟩) (by omega)
              · exact absurd (q41.2.mpr ⟨hf0, z⟩) (by omega)
            obtain ⟨_, r148, t148, a148, f148, rfl, s148, e148, q148⟩ := pe_wrong (d + 1) n (s0) hT (by omega) (w := 1) (by omega)
            have b148 := s148.2.2.2
            have hT148 := rT_keep hT (fun c i h => e148 c i (by omega))
            refine gx_call0 rfl rfl s0.1 rfl rfl r148 rfl ?_
            have k49 : ai_hv t148 383 13 = some (.inl c) := (e148 383 13 (by omega)).trans kc
            have k50 : ai_hv t148 383 21 = some (.inl fh) := (e148 383 21 (by omega)).trans kf
            have k51 : ai_hv t148 385 a = some (.inl (sp_kt S m N a)) := (e148 385 a (by omega)).trans k2
            refine ex_go (S := (101, [(3, .inl 4294967295), (2, .inl 0), (0, gx_r 383), (1, .inl 5)], [], t148, n, 0)) rfl (fun _ => rfl) rfl ?_
            refine ex_go (S := (102, [(3, .inl 4294967295), (2, .inl 0), (0, gx_r 383), (1, .inl 5)], [gx_r 383], t148, n, 0)) rfl (fun _ => rfl) rfl ?_
            refine gx_get rfl s148.1 rfl s148.2.2.1 rfl ?_
            refine gx_1f (c := .le) rfl (by omega) (show ¬ (f148 ≤ 0) from by omega) rfl ?_
            refine ex_ret (r := (none, t148, n, 0)) rfl (fun _ => rfl) ?_
            have hf9 : f148 = 1 + 16 * sp_st S m a := by omega
            exact ⟨_, rfl, t148, a148, f148, c, rfl, px_X_fault kc (fun c i h => e148 c i (by omega)) s148 (by omega) (by omega), Ev_at (Ev_to (Ev_p1 hnb9) (by show a = a148; omega) (by show _ = f148; omega)) rfl (by show 0 = f; omega), by omega⟩
    · refine gx_2f (c := .ne) rfl (by omega) (by omega) hc3 rfl ?_
      refine ex_go (S := (22, [(0, gx_r 383), (1, .inl 5)], [.inl 1], t0, n, 0)) rfl (fun _ => rfl) rfl ?_
      refine ex_go (S := (26, [(0, gx_r 383), (1, .inl 5)], [.inl 1], t0, n, 0)) rfl (fun _ => rfl) rfl ?_
      refine ex_go (S := (27, [(2, .inl 1), (0, gx_r 383), (1, .inl 5)], [], t0, n, 0)) rfl (fun _ => rfl) rfl ?_
      refine ex_go (S := (28, [(2, .inl 1), (0, gx_r 383), (1, .inl 5)], [gx_r 383], t0, n, 0)) rfl (fun _ => rfl) rfl ?_
      refine ex_go (S := (30, [(2, .inl 1), (0, gx_r 383), (1, .inl 5)], [.inl 38, gx_r 383], t0, n, 0)) rfl (fun _ => rfl) rfl ?_
      refine ex_go (S := (31, [(2, .inl 1), (0, gx_r 383), (1, .inl 5)], [.inl 4, .inl 38, gx_r 383], t0, n, 0)) rfl (fun _ => rfl) rfl ?_
      obtain ⟨_, r54, b52, rfl, q53⟩ := pe_wordHere (d) n (s0) hT (by omega) (w := 38) (mm := 4) (by omega)
      refine gx_call1 rfl rfl s0.1 rfl rfl r54 rfl ?_
      refine ex_go (S := (35, [(3, .inl b52), (2, .inl 1), (0, gx_r 383), (1, .inl 5)], [], t0, n, 0)) rfl (fun _ => rfl) rfl ?_
      refine ex_go (S := (36, [(3, .inl b52), (2, .inl 1), (0, gx_r 383), (1, .inl 5)], [.inl b52], t0, n, 0)) rfl (fun _ => rfl) rfl ?_
      have hf0 : f = 0 := by omega
      rcases q53 with ⟨hna, hnb, hnc⟩ | ⟨hna, hnb⟩
      · have hlt9 : a < N := hnc.1
        refine gx_1f (c := .lt) rfl (by omega) (show ¬ (b52 < 0) from by omega) rfl ?_
        refine ex_go (S := (40, [(3, .inl b52), (2, .inl 1), (0, gx_r 383), (1, .inl 5)], [gx_r 383], t0, n, 0)) rfl (fun _ => rfl) rfl ?_
        refine gx_get rfl s0.1 rfl kf rfl ?_
        refine ex_go (S := (44, [(3, .inl b52), (2, .inl 1), (0, gx_r 383), (1, .inl 5)], [.inl b52, .inl fh], t0, n, 0)) rfl (fun _ => rfl) rfl ?_
        refine ex_go (S := (45, [(3, .inl b52), (2, .inl 1), (0, gx_r 383), (1, .inl 5)], [.inl ((nI fh >>> (nI b52 &&& 31)).toBitVec.toNat)], t0, n, 0)) rfl (fun _ => rfl) rfl ?_
        refine ex_go (S := (46, [(3, .inl b52), (2, .inl 1), (0, gx_r 383), (1, .inl 5)], [.inl 1, .inl ((nI fh >>> (nI b52 &&& 31)).toBitVec.toNat)], t0, n, 0)) rfl (fun _ => rfl) rfl ?_
        refine ex_go (S := (47, [(3, .inl b52), (2, .inl 1), (0, gx_r 383), (1, .inl 5)], [.inl ((nI ((nI fh >>> (nI b52 &&& 31)).toBitVec.toNat) &&& nI 1).toBitVec.toNat)], t0, n, 0)) rfl (fun _ => rfl) rfl ?_
        rw [gx_bit hfh (show b52 < 4 by omega)]
        obtain ⟨z9, hz9⟩ : ∃ z, z = (fh >>> b52) % 2 := ⟨_, rfl⟩
        have hz8 : z9 < 2 := by rw [hz9]; exact Nat.mod_lt _ (by decide)
        rw [← hz9]
        refine ex_go (S := (48, [(3, .inl b52), (2, .inl 1), (0, gx_r 383), (1, .inl 5)], [.inl 1, .inl z9], t0, n, 0)) rfl (fun _ => rfl) rfl ?_
        by_cases hc55 : z9 ≠ 1
        · refine gx_2t (c := .ne) rfl (by omega) (by omega) hc55 rfl ?_
          refine ex_go (S := (56, [(3, .inl b52), (2, .inl 1), (0, gx_r 383), (1, .inl 5)], [.inl 4294967295], t0, n, 0)) rfl (fun _ => rfl) rfl ?_
          have hnf : ¬ sp_fa S m N fh a := fun ⟨j, z1, z2, z3⟩ => by
            have h9 := sp_wd_one (by omega) (by omega) hnc z2
            rw [show j = b52 by omega] at z3
            omega
          refine ex_go (S := (57, [(3, .inl 4294967295), (2, .inl 1), (0, gx_r 383), (1, .inl 5)], [], t0, n, 0)) rfl (fun _ => rfl) rfl ?_
          refine ex_go (S := (58, [(3, .inl 4294967295), (2, .inl 1), (0, gx_r 383), (1, .inl 5)], [.inl 4294967295], t0, n, 0)) rfl (fun _ => rfl) rfl ?_
          refine ex_go (S := (61, [(3, .inl 4294967295), (2, .inl 1), (0, gx_r 383), (1, .inl 5)], [], t0, n, 0)) rfl (fun _ => rfl) rfl ?_
          refine ex_go (S := (62, [(3, .inl 4294967295), (2, .inl 1), (0, gx_r 383), (1, .inl 5)], [.inl 1], t0, n, 0)) rfl (fun _ => rfl) rfl ?_
          refine ex_go (S := (91, [(3, .inl 4294967295), (2, .inl 1), (0, gx_r 383), (1, .inl 5)], [], t0, n, 0)) rfl (fun _ => rfl) rfl ?_
          refine ex_go (S := (92, [(3, .inl 4294967295), (2, .inl 1), (0, gx_r 383), (1, .inl 5)], [.inl 5], t0, n, 0)) rfl (fun _ => rfl) rfl ?_
          refine ex_go (S := (93, [(3, .inl 4294967295), (2, .inl 1), (0, gx_r 383), (1, .inl 5)], [.inl 5, .inl 5], t0, n, 0)) rfl (fun _ => rfl) rfl ?_
          refine ex_go (S := (96, [(3, .inl 4294967295), (2, .inl 1), (0, gx_r 383), (1, .inl 5)], [], t0, n, 0)) rfl (fun _ => rfl) rfl ?_
          refine ex_go (S := (97, [(3, .inl 4294967295), (2, .inl 1), (0, gx_r 383), (1, .inl 5)], [gx_r 383], t0, n, 0)) rfl (fun _ => rfl) rfl ?_
          refine ex_go (S := (98, [(3, .inl 4294967295), (2, .inl 1), (0, gx_r 383), (1, .inl 5)], [.inl 5, gx_r 383], t0, n, 0)) rfl (fun _ => rfl) rfl ?_
          have hb9 : sp_bp S m N fh a := Or.inl (by omega)
          obtain ⟨_, r156, t156, a156, f156, rfl, s156, e156, q156⟩ := pe_wrong (d + 1) n (s0) hT (by omega) (w := 5) (by omega)
          have b156 := s156.2.2.2
          have hT156 := rT_keep hT (fun c i h => e156 c i (by omega))
          refine gx_call0 rfl rfl s0.1 rfl rfl r156 rfl ?_
          have k57 : ai_hv t156 383 13 = some (.inl c) := (e156 383 13 (by omega)).trans kc
          have k58 : ai_hv t156 383 21 = some (.inl fh) := (e156 383 21 (by omega)).trans kf
          have k59 : ai_hv t156 385 a = some (.inl (sp_kt S m N a)) := (e156 385 a (by omega)).trans k2
          refine ex_go (S := (102, [(3, .inl 4294967295), (2, .inl 1), (0, gx_r 383), (1, .inl 5)], [gx_r 383], t156, n, 0)) rfl (fun _ => rfl) rfl ?_
          refine gx_get rfl s156.1 rfl s156.2.2.1 rfl ?_
          refine gx_1f (c := .le) rfl (by omega) (show ¬ (f156 ≤ 0) from by omega) rfl ?_
          refine ex_ret (r := (none, t156, n, 0)) rfl (fun _ => rfl) ?_
          have hf9 : f156 = 5 + 16 * sp_st S m a := by omega
          exact ⟨_, rfl, t156, a156, f156, c, rfl, px_X_fault kc (fun c i h => e156 c i (by omega)) s156 (by omega) (by omega), Ev_at (Ev_to (Ev_p5 hb9) (by show a = a156; omega) (by show _ = f156; omega)) rfl (by show 0 = f; omega), by omega⟩
        · refine gx_2f (c := .ne) rfl (by omega) (by omega) hc55 rfl ?_
          refine ex_go (S := (52, [(3, .inl b52), (2, .inl 1), (0, gx_r 383), (1, .inl 5)], [.inl b52], t0, n, 0)) rfl (fun _ => rfl) rfl ?_
          refine ex_go (S := (56, [(3, .inl b52), (2, .inl 1), (0, gx_r 383), (1, .inl 5)], [.inl b52], t0, n, 0)) rfl (fun _ => rfl) rfl ?_
          have hyf : sp_fa S m N fh a := ⟨b52, hna, hnc, by omega⟩
          refine ex_go (S := (57, [(3, .inl b52), (2, .inl 1), (0, gx_r 383), (1, .inl 5)], [], t0, n, 0)) rfl (fun _ => rfl) rfl ?_
          refine ex_go (S := (58, [(3, .inl b52), (2, .inl 1), (0, gx_r 383), (1, .inl 5)], [.inl b52], t0, n, 0)) rfl (fun _ => rfl) rfl ?_
          refine gx_1t (c := .ge) rfl (by omega) (show 0 ≤ b52 from by omega) rfl ?_
          refine ex_go (S := (92, [(3, .inl b52), (2, .inl 1), (0, gx_r 383), (1, .inl 5)], [.inl 5], t0, n, 0)) rfl (fun _ => rfl) rfl ?_
          refine ex_go (S := (93, [(3, .inl b52), (2, .inl 1), (0, gx_r 383), (1, .inl 5)], [.inl 5, .inl 5], t0, n, 0)) rfl (fun _ => rfl) rfl ?_
          refine ex_go (S := (96, [(3, .inl b52), (2, .inl 1), (0, gx_r 383), (1, .inl 5)], [], t0, n, 0)) rfl (fun _ => rfl) rfl ?_
          refine ex_go (S := (97, [(3, .inl b52), (2, .inl 1), (0, gx_r 383), (1, .inl 5)], [gx_r 383], t0, n, 0)) rfl (fun _ => rfl) rfl ?_
          refine ex_go (S := (98, [(3, .inl b52), (2, .inl 1), (0, gx_r 383), (1, .inl 5)], [.inl 5, gx_r 383], t0, n, 0)) rfl (fun _ => rfl) rfl ?_
          have hb9 : sp_bp S m N fh a := Or.inr (Or.inl hyf)
          obtain ⟨_, r160, t160, a160, f160, rfl, s160, e160, q160⟩ := pe_wrong (d + 1) n (s0) hT (by omega) (w := 5) (by omega)
          have b160 := s160.2.2.2
          have hT160 := rT_keep hT (fun c i h => e160 c i (by omega))
          refine gx_call0 rfl rfl s0.1 rfl rfl r160 rfl ?_
          have k61 : ai_hv t160 383 13 = some (.inl c) := (e160 383 13 (by omega)).trans kc
          have k62 : ai_hv t160 383 21 = some (.inl fh) := (e160 383 21 (by omega)).trans kf
          have k63 : ai_hv t160 385 a = some (.inl (sp_kt S m N a)) := (e160 385 a (by omega)).trans k2
          refine ex_go (S := (102, [(3, .inl b52), (2, .inl 1), (0, gx_r 383), (1, .inl 5)], [gx_r 383], t160, n, 0)) rfl (fun _ => rfl) rfl ?_
          refine gx_get rfl s160.1 rfl s160.2.2.1 rfl ?_
          refine gx_1f (c := .le) rfl (by omega) (show ¬ (f160 ≤ 0) from by omega) rfl ?_
          refine ex_ret (r := (none, t160, n, 0)) rfl (fun _ => rfl) ?_
          have hf9 : f160 = 5 + 16 * sp_st S m a := by omega
          exact ⟨_, rfl, t160, a160, f160, c, rfl, px_X_fault kc (fun c i h => e160 c i (by omega)) s160 (by omega) (by omega), Ev_at (Ev_to (Ev_p5 hb9) (by show a = a160; omega) (by show _ = f160; omega)) rfl (by show 0 = f; omega), by omega⟩
      · have hnf : ¬ sp_fa S m N fh a := fun ⟨j, z1, z2, z3⟩ => hnb j z1 ⟨hf0, z2⟩
        subst hna
        refine ex_go (S := (55, [(3, .inl 4294967295), (2, .inl 1), (0, gx_r 383), (1, .inl 5)], [], t0, n, 0)) rfl (fun _ => rfl) rfl ?_
        refine ex_go (S := (56, [(3, .inl 4294967295), (2, .inl 1), (0, gx_r 383), (1, .inl 5)], [.inl 4294967295], t0, n, 0)) rfl (fun _ => rfl) rfl ?_
        refine ex_go (S := (57, [(3, .inl 4294967295), (2, .inl 1), (0, gx_r 383), (1, .inl 5)], [], t0, n, 0)) rfl (fun _ => rfl) rfl ?_
        refine ex_go (S := (58, [(3, .inl 4294967295), (2, .inl 1), (0, gx_r 383), (1, .inl 5)], [.inl 4294967295], t0, n, 0)) rfl (fun _ => rfl) rfl ?_
        refine ex_go (S := (61, [(3, .inl 4294967295), (2, .inl 1), (0, gx_r 383), (1, .inl 5)], [], t0, n, 0)) rfl (fun _ => rfl) rfl ?_
        refine ex_go (S := (62, [(3, .inl 4294967295), (2, .inl 1), (0, gx_r 383), (1, .inl 5)], [.inl 1], t0, n, 0)) rfl (fun _ => rfl) rfl ?_
        refine ex_go (S := (91, [(3, .inl 4294967295), (2, .inl 1), (0, gx_r 383), (1, .inl 5)], [], t0, n, 0)) rfl (fun _ => rfl) rfl ?_
        refine ex_go (S := (92, [(3, .inl 4294967295), (2, .inl 1), (0, gx_r 383), (1, .inl 5)], [.inl 5], t0, n, 0)) rfl (fun _ => rfl) rfl ?_
        refine ex_go (S := (93, [(3, .inl 4294967295), (2, .inl 1), (0, gx_r 383), (1, .inl 5)], [.inl 5, .inl 5], t0, n, 0)) rfl (fun _ => rfl) rfl ?_
        refine ex_go (S := (96, [(3, .inl 4294967295), (2, .inl 1), (0, gx_r 383), (1, .inl 5)], [], t0, n, 0)) rfl (fun _ => rfl) rfl ?_
        refine ex_go (S := (97, [(3, .inl 4294967295), (2, .inl 1), (0, gx_r 383), (1, .inl 5)], [gx_r 383], t0, n, 0)) rfl (fun _ => rfl) rfl ?_
        refine ex_go (S := (98, [(3, .inl 4294967295), (2, .inl 1), (0, gx_r 383), (1, .inl 5)], [.inl 5, gx_r 383], t0, n, 0)) rfl (fun _ => rfl) rfl ?_
        have hb9 : sp_bp S m N fh a := Or.inl (by omega)
        obtain ⟨_, r164, t164, a164, f164, rfl, s164, e164, q164⟩ := pe_wrong (d + 1) n (s0) hT (by omega) (w := 5) (by omega)
        have b164 := s164.2.2.2
        have hT164 := rT_keep hT (fun c i h => e164 c i (by omega))
        refine gx_call0 rfl rfl s0.1 rfl rfl r164 rfl ?_
        have k65 : ai_hv t164 383 13 = some (.inl c) := (e164 383 13 (by omega)).trans kc
        have k66 : ai_hv t164 383 21 = some (.inl fh) := (e164 383 21 (by omega)).trans kf
        have k67 : ai_hv t164 385 a = some (.inl (sp_kt S m N a)) := (e164 385 a (by omega)).trans k2
        refine ex_go (S := (102, [(3, .inl 4294967295), (2, .inl 1), (0, gx_r 383), (1, .inl 5)], [gx_r 383], t164, n, 0)) rfl (fun _ => rfl) rfl ?_
        refine gx_get rfl s164.1 rfl s164.2.2.1 rfl ?_
        refine gx_1f (c := .le) rfl (by omega) (show ¬ (f164 ≤ 0) from by omega) rfl ?_
        refine ex_ret (r := (none, t164, n, 0)) rfl (fun _ => rfl) ?_
        have hf9 : f164 = 5 + 16 * sp_st S m a := by omega
        exact ⟨_, rfl, t164, a164, f164, c, rfl, px_X_fault kc (fun c i h => e164 c i (by omega)) s164 (by omega) (by omega), Ev_at (Ev_to (Ev_p5 hb9) (by show a = a164; omega) (by show _ = f164; omega)) rfl (by show 0 = f; omega), by omega⟩
  · refine gx_1f (c := .le) rfl (by omega) hc1 rfl ?_
    refine ex_ret (r := (none, t0, n, 0)) rfl (fun _ => rfl) ?_
    exact ⟨_, rfl, t0, a, f, c, rfl, px_X_fault kc (fun _ _ _ => rfl) s0 (by omega) (by omega), Ev_no (by omega), by omega⟩
theorem pe_takePart {l e : Nat} (hP : ∀ d, pe_C S m N fh (d + l + 3) 288 4 (e + 1)) (hA : ∀ d, pe_C S m N fh (d + l + 7) 247 0 (e + 1)) (he : e ≤ 4) (d : Nat) (hfh : fh < 16) : pe_C S m N fh (d + l + 8) 288 4 e := by
  intro n t0 a f c s0 hT ha kc hca kf
  have b0 := s0.2.2.2
  have hN := hT.2.2.2.2.1
  refine en_u_ex (d := d + l + 7) rfl ?_
  show en_ex _ _ _ _ (0, [(0, gx_r 383), (1, .inl e)], [], t0, n, 0) _
  refine ex_go (S := (1, [(0, gx_r 383), (1, .inl e)], [gx_r 383], t0, n, 0)) rfl (fun _ => rfl) rfl ?_
  refine gx_get rfl s0.1 rfl s0.2.2.1 rfl ?_
  by_cases hc1 : f ≤ 0
  · refine gx_1t (c := .le) rfl (by omega) hc1 rfl ?_
    refine ex_go (S := (9, [(0, gx_r 383), (1, .inl e)], [gx_r 383], t0, n, 0)) rfl (fun _ => rfl) rfl ?_
    refine gx_ref (c := 385) rfl s0.1 rfl rfl rfl rfl ?_
    refine ex_go (S := (13, [(0, gx_r 383), (1, .inl e)], [gx_r 383, gx_r 385], t0, n, 0)) rfl (fun _ => rfl) rfl ?_
    refine gx_get rfl s0.1 rfl s0.2.1 rfl ?_
    have k2 := rT_sort hT (a := a) (by omega)
    have k2b : sp_kt S m N a ≤ 4 := by unfold sp_kt; have := sp_ty_le S m (sp_st S m a); split <;> omega
    refine gx_ag (v := .inl (sp_kt S m N a)) (cb := fun c => Nat.beq c 0) rfl (fun _ => rfl) s0.1 rfl rfl k2 (by omega) rfl ?_
    refine ex_go (S := (18, [(0, gx_r 383), (1, .inl e)], [.inl 2, .inl (sp_kt S m N a)], t0, n, 0)) rfl (fun _ => rfl) rfl ?_
    by_cases hc3 : sp_kt S m N a ≠ 2
    · refine gx_2t (c := .ne) rfl (by omega) (by omega) hc3 rfl ?_
      refine ex_go (S := (26, [(0, gx_r 383), (1, .inl e)], [.inl 0], t0, n, 0)) rfl (fun _ => rfl) rfl ?_
      refine ex_go (S := (27, [(2, .inl 0), (0, gx_r 383), (1, .inl e)], [], t0, n, 0)) rfl (fun _ => rfl) rfl ?_
      refine ex_go (S := (28, [(2, .inl 0), (0, gx_r 383), (1, .inl e)], [gx_r 383], t0, n, 0)) rfl (fun _ => rfl) rfl ?_
      refine ex_go (S := (30, [(2, .inl 0), (0, gx_r 383), (1, .inl e)], [.inl 38, gx_r 383], t0, n, 0)) rfl (fun _ => rfl) rfl ?_
      refine ex_go (S := (31, [(2, .inl 0), (0, gx_r 383), (1, .inl e)], [.inl 4, .inl 38, gx_r 383], t0, n, 0)) rfl (fun _ => rfl) rfl ?_
      obtain ⟨_, r6, b4, rfl, q5⟩ := pe_wordHere (d + l + 5) n (s0) hT (by omega) (w := 38) (mm := 4) (by omega)
      refine gx_call1 rfl rfl s0.1 rfl rfl r6 rfl ?_
      refine ex_go (S := (35, [(3, .inl b4), (2, .inl 0), (0, gx_r 383), (1, .inl e)], [], t0, n, 0)) rfl (fun _ => rfl) rfl ?_
      refine ex_go (S := (36, [(3, .inl b4), (2, .inl 0), (0, gx_r 383), (1, .inl e)], [.inl b4], t0, n, 0)) rfl (fun _ => rfl) rfl ?_
      have hf0 : f = 0 := by omega
      rcases q5 with ⟨hna, hnb, hnc⟩ | ⟨hna, hnb⟩
      · have hlt9 : a < N := hnc.1
        refine gx_1f (c := .lt) rfl (by omega) (show ¬ (b4 < 0) from by omega) rfl ?_
        refine ex_go (S := (40, [(3, .inl b4), (2, .inl 0), (0, gx_r 383), (1, .inl e)], [gx_r 383], t0, n, 0)) rfl (fun _ => rfl) rfl ?_
        refine gx_get rfl s0.1 rfl kf rfl ?_
        refine ex_go (S := (44, [(3, .inl b4), (2, .inl 0), (0, gx_r 383), (1, .inl e)], [.inl b4, .inl fh], t0, n, 0)) rfl (fun _ => rfl) rfl ?_
        refine ex_go (S := (45, [(3, .inl b4), (2, .inl 0), (0, gx_r 383), (1, .inl e)], [.inl ((nI fh >>> (nI b4 &&& 31)).toBitVec.toNat)], t0, n, 0)) rfl (fun _ => rfl) rfl ?_
        refine ex_go (S := (46, [(3, .inl b4), (2, .inl 0), (0, gx_r 383), (1, .inl e)], [.inl 1, .inl ((nI fh >>> (nI b4 &&& 31)).toBitVec.toNat)], t0, n, 0)) rfl (fun _ => rfl) rfl ?_
        refine ex_go (S := (47, [(3, .inl b4), (2, .inl 0), (0, gx_r 383), (1, .inl e)], [.inl ((nI ((nI fh >>> (nI b4 &&& 31)).toBitVec.toNat) &&& nI 1).toBitVec.toNat)], t0, n, 0)) rfl (fun _ => rfl) rfl ?_
        rw [gx_bit hfh (show b4 < 4 by omega)]
        obtain ⟨z9, hz9⟩ : ∃ z, z = (fh >>> b4) % 2 := ⟨_, rfl⟩
        have hz8 : z9 < 2 := by rw [hz9]; exact Nat.mod_lt _ (by decide)
        rw [← hz9]
        refine ex_go (S := (48, [(3, .inl b4), (2, .inl 0), (0, gx_r 383), (1, .inl e)], [.inl 1, .inl z9], t0, n, 0)) rfl (fun _ => rfl) rfl ?_
        by_cases hc7 : z9 ≠ 1
        · refine gx_2t (c := .ne) rfl (by omega) (by omega) hc7 rfl ?_
          refine ex_go (S := (56, [(3, .inl b4), (2, .inl 0), (0, gx_r 383), (1, .inl e)], [.inl 4294967295], t0, n, 0)) rfl (fun _ => rfl) rfl ?_
          have hnf : ¬ sp_fa S m N fh a := fun ⟨j, z1, z2, z3⟩ => by
            have h9 := sp_wd_one (by omega) (by omega) hnc z2
            rw [show j = b4 by omega] at z3
            omega
          refine ex_go (S := (57, [(3, .inl 4294967295), (2, .inl 0), (0, gx_r 383), (1, .inl e)], [], t0, n, 0)) rfl (fun _ => rfl) rfl ?_
          refine ex_go (S := (58, [(3, .inl 4294967295), (2, .inl 0), (0, gx_r 383), (1, .inl e)], [.inl 4294967295], t0, n, 0)) rfl (fun _ => rfl) rfl ?_
          refine ex_go (S := (61, [(3, .inl 4294967295), (2, .inl 0), (0, gx_r 383), (1, .inl e)], [], t0, n, 0)) rfl (fun _ => rfl) rfl ?_
          refine ex_go (S := (62, [(3, .inl 4294967295), (2, .inl 0), (0, gx_r 383), (1, .inl e)], [.inl 0], t0, n, 0)) rfl (fun _ => rfl) rfl ?_
          refine ex_go (S := (65, [(3, .inl 4294967295), (2, .inl 0), (0, gx_r 383), (1, .inl e)], [], t0, n, 0)) rfl (fun _ => rfl) rfl ?_
          refine ex_go (S := (66, [(3, .inl 4294967295), (2, .inl 0), (0, gx_r 383), (1, .inl e)], [gx_r 383], t0, n, 0)) rfl (fun _ => rfl) rfl ?_
          refine ex_go (S := (68, [(3, .inl 4294967295), (2, .inl 0), (0, gx_r 383), (1, .inl e)], [.inl 40, gx_r 383], t0, n, 0)) rfl (fun _ => rfl) rfl ?_
          obtain ⟨_, r10, b8, rfl, q9⟩ := pe_isSign (d + l + 6) n (s0) hT (by omega) (w := 40) (by omega)
          refine gx_call1 rfl rfl s0.1 rfl rfl r10 rfl ?_
          have hlq9 : b8 = 1 → a < N := fun z => (q9.2.mp z).2.1
          by_cases hc11 : b8 ≠ 0
          · refine gx_1t (c := .ne) rfl (by omega) hc11 rfl ?_
            refine ex_go (S := (92, [(3, .inl 4294967295), (2, .inl 0), (0, gx_r 383), (1, .inl e)], [.inl e], t0, n, 0)) rfl (fun _ => rfl) rfl ?_
            refine ex_go (S := (93, [(3, .inl 4294967295), (2, .inl 0), (0, gx_r 383), (1, .inl e)], [.inl 5, .inl e], t0, n, 0)) rfl (fun _ => rfl) rfl ?_
            refine gx_2t (c := .ne) rfl (by omega) (by omega) (show e ≠ 5 from by omega) rfl ?_
            exact pe_takePart_t hP hA he d n s0 hT ha kc hca kf hf0 (Or.inr (Or.inr (Or.inl (q9.2.mp (by omega)).2))) (Or.inr (Or.inr ⟨rfl, Or.inl (q9.2.mp (by omega)).2⟩))
          · refine gx_1f (c := .ne) rfl (by omega) hc11 rfl ?_
            refine ex_go (S := (75, [(3, .inl 4294967295), (2, .inl 0), (0, gx_r 383), (1, .inl e)], [gx_r 383], t0, n, 0)) rfl (fun _ => rfl) rfl ?_
            refine ex_go (S := (77, [(3, .inl 4294967295), (2, .inl 0), (0, gx_r 383), (1, .inl e)], [.inl 35, gx_r 383], t0, n, 0)) rfl (fun _ => rfl) rfl ?_
            obtain ⟨_, r14, b12, rfl, q13⟩ := pe_isWord (d + l + 6) n (s0) hT (by omega) (w := 35) (by omega)
            refine gx_call1 rfl rfl s0.1 rfl rfl r14 rfl ?_
            have hlq13 : b12 = 1 → a < N := fun z => (q13.2.mp z).2.1
            by_cases hc15 : b12 ≠ 0
            · refine gx_1t (c := .ne) rfl (by omega) hc15 rfl ?_
              refine ex_go (S := (92, [(3, .inl 4294967295), (2, .inl 0), (0, gx_r 383), (1, .inl e)], [.inl e], t0, n, 0)) rfl (fun _ => rfl) rfl ?_
              refine ex_go (S := (93, [(3, .inl 4294967295), (2, .inl 0), (0, gx_r 383), (1, .inl e)], [.inl 5, .inl e], t0, n, 0)) rfl (fun _ => rfl) rfl ?_
              refine gx_2t (c := .ne) rfl (by omega) (by omega) (show e ≠ 5 from by omega) rfl ?_
              exact pe_takePart_t hP hA he d n s0 hT ha kc hca kf hf0 (Or.inr (Or.inr (Or.inr (q13.2.mp (by omega)).2))) (Or.inr (Or.inr ⟨rfl, Or.inr (q13.2.mp (by omega)).2⟩))
            · refine gx_1f (c := .ne) rfl (by omega) hc15 rfl ?_
              refine ex_go (S := (84, [(3, .inl 4294967295), (2, .inl 0), (0, gx_r 383), (1, .inl e)], [gx_r 383], t0, n, 0)) rfl (fun _ => rfl) rfl ?_
              refine ex_go (S := (85, [(3, .inl 4294967295), (2, .inl 0), (0, gx_r 383), (1, .inl e)], [.inl 1, gx_r 383], t0, n, 0)) rfl (fun _ => rfl) rfl ?_
              have hnb9 : ¬ sp_bp S m N fh a := by
                rintro (z | z | z | z)
                · omega
                · exact hnf z
                · exact absurd (q9.2.mpr ⟨hf0, z⟩) (by omega)
                · exact absurd (q13.2.mpr ⟨hf0, z⟩) (by omega)
              obtain ⟨_, r116, t116, a116, f116, rfl, s116, e116, q116⟩ := pe_wrong (d + l + 6) n (s0) hT (by omega) (w := 1) (by omega)
              have b116 := s116.2.2.2
              have hT116 := rT_keep hT (fun c i h => e116 c i (by omega))
              refine gx_call0 rfl rfl s0.1 rfl rfl r116 rfl ?_
              have k17 : ai_hv t116 383 13 = some (.inl c) := (e116 383 13 (by omega)).trans kc
              have k18 : ai_hv t116 383 21 = some (.inl fh) := (e116 383 21 (by omega)).trans kf
              have k19 : ai_hv t116 385 a = some (.inl (sp_kt S m N a)) := (e116 385 a (by omega)).trans k2
              refine ex_go (S := (101, [(3, .inl 4294967295), (2, .inl 0), (0, gx_r 383), (1, .inl e)], [], t116, n, 0)) rfl (fun _ => rfl) rfl ?_
              refine ex_go (S := (102, [(3, .inl 4294967295), (2, .inl 0), (0, gx_r 383), (1, .inl e)], [gx_r 383], t116, n, 0)) rfl (fun _ => rfl) rfl ?_
              refine gx_get rfl s116.1 rfl s116.2.2.1 rfl ?_
              refine gx_1f (c := .le) rfl (by omega) (show ¬ (f116 ≤ 0) from by omega) rfl ?_
              refine ex_ret (r := (none, t116, n, 0)) rfl (fun _ => rfl) ?_
              have hf9 : f116 = 1 + 16 * sp_st S m a := by omega
              exact ⟨_, rfl, t116, a116, f116, c, rfl, px_X_fault kc (fun c i h => e116 c i (by omega)) s116 (by omega) (by omega), Ev_at (Ev_to (Ev_p1 hnb9) (by show a = a116; omega) (by show _ = f116; omega)) rfl (by show 0 = f; omega), by omega⟩
        · refine gx_2f (c := .ne) rfl (by omega) (by omega) hc7 rfl ?_
          refine ex_go (S := (52, [(3, .inl b4), (2, .inl 0), (0, gx_r 383), (1, .inl e)], [.inl b4], t0, n, 0)) rfl (fun _ => rfl) rfl ?_
          refine ex_go (S := (56, [(3, .inl b4), (2, .inl 0), (0, gx_r 383), (1, .inl e)], [.inl b4], t0, n, 0)) rfl (fun _ => rfl) rfl ?_
          have hyf : sp_fa S m N fh a := ⟨b4, hna, hnc, by omega⟩
          refine ex_go (S := (57, [(3, .inl b4), (2, .inl 0), (0, gx_r 383), (1, .inl e)], [], t0, n, 0)) rfl (fun _ => rfl) rfl ?_
          refine ex_go (S := (58, [(3, .inl b4), (2, .inl 0), (0, gx_r 383), (1, .inl e)], [.inl b4], t0, n, 0)) rfl (fun _ => rfl) rfl ?_
          refine gx_1t (c := .ge) rfl (by omega) (show 0 ≤ b4 from by omega) rfl ?_
          refine ex_go (S := (92, [(3, .inl b4), (2, .inl 0), (0, gx_r 383), (1, .inl e)], [.inl e], t0, n, 0)) rfl (fun _ => rfl) rfl ?_
          refine ex_go (S := (93, [(3, .inl b4), (2, .inl 0), (0, gx_r 383), (1, .inl e)], [.inl 5, .inl e], t0, n, 0)) rfl (fun _ => rfl) rfl ?_
          refine gx_2t (c := .ne) rfl (by omega) (by omega) (show e ≠ 5 from by omega) rfl ?_
          exact pe_takePart_t hP hA he d n s0 hT ha kc hca kf hf0 (Or.inr (Or.inl hyf)) (Or.inr (Or.inl ⟨rfl, by omega, by omega⟩))
      · have hnf : ¬ sp_fa S m N fh a := fun ⟨j, z1, z2, z3⟩ => hnb j z1 ⟨hf0, z2⟩
        subst hna
        refine ex_go (S := (55, [(3, .inl 4294967295), (2, .inl 0), (0, gx_r 383), (1, .inl e)], [], t0, n, 0)) rfl (fun _ => rfl) rfl ?_
        refine ex_go (S := (56, [(3, .inl 4294967295), (2, .inl 0), (0, gx_r 383), (1, .inl e)], [.inl 4294967295], t0, n, 0)) rfl (fun _ => rfl) rfl ?_
        refine ex_go (S := (57, [(3, .inl 4294967295), (2, .inl 0), (0, gx_r 383), (1, .inl e)], [], t0, n, 0)) rfl (fun _ => rfl) rfl ?_
        refine ex_go (S := (58, [(3, .inl 4294967295), (2, .inl 0), (0, gx_r 383), (1, .inl e)], [.inl 4294967295], t0, n, 0)) rfl (fun _ => rfl) rfl ?_
        refine ex_go (S := (61, [(3, .inl 4294967295), (2, .inl 0), (0, gx_r 383), (1, .inl e)], [], t0, n, 0)) rfl (fun _ => rfl) rfl ?_
        refine ex_go (S := (62, [(3, .inl 4294967295), (2, .inl 0), (0, gx_r 383), (1, .inl e)], [.inl 0], t0, n, 0)) rfl (fun _ => rfl) rfl ?_
        refine ex_go (S := (65, [(3, .inl 4294967295), (2, .inl 0), (0, gx_r 383), (1, .inl e)], [], t0, n, 0)) rfl (fun _ => rfl) rfl ?_
        refine ex_go (S := (66, [(3, .inl 4294967295), (2, .inl 0), (0, gx_r 383), (1, .inl e)], [gx_r 383], t0, n, 0)) rfl (fun _ => rfl) rfl ?_
        refine ex_go (S := (68, [(3, .inl 4294967295), (2, .inl 0), (0, gx_r 383), (1, .inl e)], [.inl 40, gx_r 383], t0, n, 0)) rfl (fun _ => rfl) rfl ?_
        obtain ⟨_, r22, b20, rfl, q21⟩ := pe_isSign (d + l + 6) n (s0) hT (by omega) (w := 40) (by omega)
        refine gx_call1 rfl rfl s0.1 rfl rfl r22 rfl ?_
        have hlq21 : b20 = 1 → a < N := fun z => (q21.2.mp z).2.1
        by_cases hc23 : b20 ≠ 0
        · refine gx_1t (c := .ne) rfl (by omega) hc23 rfl ?_
          refine ex_go (S := (92, [(3, .inl 4294967295), (2, .inl 0), (0, gx_r 383), (1, .inl e)], [.inl e], t0, n, 0)) rfl (fun _ => rfl) rfl ?_
          refine ex_go (S := (93, [(3, .inl 4294967295), (2, .inl 0), (0, gx_r 383), (1, .inl e)], [.inl 5, .inl e], t0, n, 0)) rfl (fun _ => rfl) rfl ?_
          refine gx_2t (c := .ne) rfl (by omega) (by omega) (show e ≠ 5 from by omega) rfl ?_
          exact pe_takePart_t hP hA he d n s0 hT ha kc hca kf hf0 (Or.inr (Or.inr (Or.inl (q21.2.mp (by omega)).2))) (Or.inr (Or.inr ⟨rfl, Or.inl (q21.2.mp (by omega)).2⟩))
        · refine gx_1f (c := .ne) rfl (by omega) hc23 rfl ?_
          refine ex_go (S := (75, [(3, .inl 4294967295), (2, .inl 0), (0, gx_r 383), (1, .inl e)], [gx_r 383], t0, n, 0)) rfl (fun _ => rfl) rfl ?_
          refine ex_go (S := (77, [(3, .inl 4294967295), (2, .inl 0), (0, gx_r 383), (1, .inl e)], [.inl 35, gx_r 383], t0, n, 0)) rfl (fun _ => rfl) rfl ?_
          obtain ⟨_, r26, b24, rfl, q25⟩ := pe_isWord (d + l + 6) n (s0) hT (by omega) (w := 35) (by omega)
          refine gx_call1 rfl rfl s0.1 rfl rfl r26 rfl ?_
          have hlq25 : b24 = 1 → a < N := fun z => (q25.2.mp z).2.1
          by_cases hc27 : b24 ≠ 0
          · refine gx_1t (c := .ne) rfl (by omega) hc27 rfl ?_
            refine ex_go (S := (92, [(3, .inl 4294967295), (2, .inl 0), (0, gx_r 383), (1, .inl e)], [.inl e], t0, n, 0)) rfl (fun _ => rfl) rfl ?_
            refine ex_go (S := (93, [(3, .inl 4294967295), (2, .inl 0), (0, gx_r 383), (1, .inl e)], [.inl 5, .inl e], t0, n, 0)) rfl (fun _ => rfl) rfl ?_
            refine gx_2t (c := .ne) rfl (by omega) (by omega) (show e ≠ 5 from by omega) rfl ?_
            exact pe_takePart_t hP hA he d n s0 hT ha kc hca kf hf0 (Or.inr (Or.inr (Or.inr (q25.2.mp (by omega)).2))) (Or.inr (Or.inr ⟨rfl, Or.inr (q25.2.mp (by omega)).2⟩))
          · refine gx_1f (c := .ne) rfl (by omega) hc27 rfl ?_
            refine ex_go (S := (84, [(3, .inl 4294967295), (2, .inl 0), (0, gx_r 383), (1, .inl e)], [gx_r 383], t0, n, 0)) rfl (fun _ => rfl) rfl ?_
            refine ex_go (S := (85, [(3, .inl 4294967295), (2, .inl 0), (0, gx_r 383), (1, .inl e)], [.inl 1, gx_r 383], t0, n, 0)) rfl (fun _ => rfl) rfl ?_
            have hnb9 : ¬ sp_bp S m N fh a := by
              rintro (z | z | z | z)
              · omega
              · exact hnf z
              · exact absurd (q21.2.mpr ⟨hf0, z⟩) (by omega)
              · exact absurd (q25.2.mpr ⟨hf0, z⟩) (by omega)
            obtain ⟨_, r128, t128, a128, f128, rfl, s128, e128, q128⟩ := pe_wrong (d + l + 6) n (s0) hT (by omega) (w := 1) (by omega)
            have b128 := s128.2.2.2
            have hT128 := rT_keep hT (fun c i h => e128 c i (by omega))
            refine gx_call0 rfl rfl s0.1 rfl rfl r128 rfl ?_
            have k29 : ai_hv t128 383 13 = some (.inl c) := (e128 383 13 (by omega)).trans kc
            have k30 : ai_hv t128 383 21 = some (.inl fh) := (e128 383 21 (by omega)).trans kf
            have k31 : ai_hv t128 385 a = some (.inl (sp_kt S m N a)) := (e128 385 a (by omega)).trans k2
            refine ex_go (S := (101, [(3, .inl 4294967295), (2, .inl 0), (0, gx_r 383), (1, .inl e)], [], t128, n, 0)) rfl (fun _ => rfl) rfl ?_
            refine ex_go (S := (102, [(3, .inl 4294967295), (2, .inl 0), (0, gx_r 383), (1, .inl e)], [gx_r 383], t128, n, 0)) rfl (fun _ => rfl) rfl ?_
            refine gx_get rfl s128.1 rfl s128.2.2.1 rfl ?_
            refine gx_1f (c := .le) rfl (by omega) (show ¬ (f128 ≤ 0) from by omega) rfl ?_
            refine ex_ret (r := (none, t128, n, 0)) rfl (fun _ => rfl) ?_
            have hf9 : f128 = 1 + 16 * sp_st S m a := by omega
            exact ⟨_, rfl, t128, a128, f128, c, rfl, px_X_fault kc (fun c i h => e128 c i (by omega)) s128 (by omega) (by omega), Ev_at (Ev_to (Ev_p1 hnb9) (by show a = a128; omega) (by show _ = f128; omega)) rfl (by show 0 = f; omega), by omega⟩
    · refine gx_2f (c := .ne) rfl (by omega) (by omega) hc3 rfl ?_
      refine ex_go (S := (22, [(0, gx_r 383), (1, .inl e)], [.inl 1], t0, n, 0)) rfl (fun _ => rfl) rfl ?_
      refine ex_go (S := (26, [(0, gx_r 383), (1, .inl e)], [.inl 1], t0, n, 0)) rfl (fun _ => rfl) rfl ?_
      refine ex_go (S := (27, [(2, .inl 1), (0, gx_r 383), (1, .inl e)], [], t0, n, 0)) rfl (fun _ => rfl) rfl ?_
      refine ex_go (S := (28, [(2, .inl 1), (0, gx_r 383), (1, .inl e)], [gx_r 383], t0, n, 0)) rfl (fun _ => rfl) rfl ?_
      refine ex_go (S := (30, [(2, .inl 1), (0, gx_r 383), (1, .inl e)], [.inl 38, gx_r 383], t0, n, 0)) rfl (fun _ => rfl) rfl ?_
      refine ex_go (S := (31, [(2, .inl 1), (0, gx_r 383), (1, .inl e)], [.inl 4, .inl 38, gx_r 383], t0, n, 0)) rfl (fun _ => rfl) rfl ?_
      obtain ⟨_, r34, b32, rfl, q33⟩ := pe_wordHere (d + l + 5) n (s0) hT (by omega) (w := 38) (mm := 4) (by omega)
      refine gx_call1 rfl rfl s0.1 rfl rfl r34 rfl ?_
      refine ex_go (S := (35, [(3, .inl b32), (2, .inl 1), (0, gx_r 383), (1, .inl e)], [], t0, n, 0)) rfl (fun _ => rfl) rfl ?_
      refine ex_go (S := (36, [(3, .inl b32), (2, .inl 1), (0, gx_r 383), (1, .inl e)], [.inl b32], t0, n, 0)) rfl (fun _ => rfl) rfl ?_
      have hf0 : f = 0 := by omega
      rcases q33 with ⟨hna, hnb, hnc⟩ | ⟨hna, hnb⟩
      · have hlt9 : a < N := hnc.1
        refine gx_1f (c := .lt) rfl (by omega) (show ¬ (b32 < 0) from by omega) rfl ?_
        refine ex_go (S := (40, [(3, .inl b32), (2, .inl 1), (0, gx_r 383), (1, .inl e)], [gx_r 383], t0, n, 0)) rfl (fun _ => rfl) rfl ?_
        refine gx_get rfl s0.1 rfl kf rfl ?_
        refine ex_go (S := (44, [(3, .inl b32), (2, .inl 1), (0, gx_r 383), (1, .inl e)], [.inl b32, .inl fh], t0, n, 0)) rfl (fun _ => rfl) rfl ?_
        refine ex_go (S := (45, [(3, .inl b32), (2, .inl 1), (0, gx_r 383), (1, .inl e)], [.inl ((nI fh >>> (nI b32 &&& 31)).toBitVec.toNat)], t0, n, 0)) rfl (fun _ => rfl) rfl ?_
        refine ex_go (S := (46, [(3, .inl b32), (2, .inl 1), (0, gx_r 383), (1, .inl e)], [.inl 1, .inl ((nI fh >>> (nI b32 &&& 31)).toBitVec.toNat)], t0, n, 0)) rfl (fun _ => rfl) rfl ?_
        refine ex_go (S := (47, [(3, .inl b32), (2, .inl 1), (0, gx_r 383), (1, .inl e)], [.inl ((nI ((nI fh >>> (nI b32 &&& 31)).toBitVec.toNat) &&& nI 1).toBitVec.toNat)], t0, n, 0)) rfl (fun _ => rfl) rfl ?_
        rw [gx_bit hfh (show b32 < 4 by omega)]
        obtain ⟨z9, hz9⟩ : ∃ z, z = (fh >>> b32) % 2 := ⟨_, rfl⟩
        have hz8 : z9 < 2 := by rw [hz9]; exact Nat.mod_lt _ (by decide)
        rw [← hz9]
        refine ex_go (S := (48, [(3, .inl b32), (2, .inl 1), (0, gx_r 383), (1, .inl e)], [.inl 1, .inl z9], t0, n, 0)) rfl (fun _ => rfl) rfl ?_
        by_cases hc35 : z9 ≠ 1
        · refine gx_2t (c := .ne) rfl (by omega) (by omega) hc35 rfl ?_
          refine ex_go (S := (56, [(3, .inl b32), (2, .inl 1), (0, gx_r 383), (1, .inl e)], [.inl 4294967295], t0, n, 0)) rfl (fun _ => rfl) rfl ?_
          have hnf : ¬ sp_fa S m N fh a := fun ⟨j, z1, z2, z3⟩ => by
            have h9 := sp_wd_one (by omega) (by omega) hnc z2
            rw [show j = b32 by omega] at z3
            omega
          refine ex_go (S := (57, [(3, .inl 4294967295), (2, .inl 1), (0, gx_r 383), (1, .inl e)], [], t0, n, 0)) rfl (fun _ => rfl) rfl ?_
          refine ex_go (S := (58, [(3, .inl 4294967295), (2, .inl 1), (0, gx_r 383), (1, .inl e)], [.inl 4294967295], t0, n, 0)) rfl (fun _ => rfl) rfl ?_
          refine ex_go (S := (61, [(3, .inl 4294967295), (2, .inl 1), (0, gx_r 383), (1, .inl e)], [], t0, n, 0)) rfl (fun _ => rfl) rfl ?_
          refine ex_go (S := (62, [(3, .inl 4294967295), (2, .inl 1), (0, gx_r 383), (1, .inl e)], [.inl 1], t0, n, 0)) rfl (fun _ => rfl) rfl ?_
          refine ex_go (S := (91, [(3, .inl 4294967295), (2, .inl 1), (0, gx_r 383), (1, .inl e)], [], t0, n, 0)) rfl (fun _ => rfl) rfl ?_
          refine ex_go (S := (92, [(3, .inl 4294967295), (2, .inl 1), (0, gx_r 383), (1, .inl e)], [.inl e], t0, n, 0)) rfl (fun _ => rfl) rfl ?_
          refine ex_go (S := (93, [(3, .inl 4294967295), (2, .inl 1), (0, gx_r 383), (1, .inl e)], [.inl 5, .inl e], t0, n, 0)) rfl (fun _ => rfl) rfl ?_
          refine gx_2t (c := .ne) rfl (by omega) (by omega) (show e ≠ 5 from by omega) rfl ?_
          exact pe_takePart_t hP hA he d n s0 hT ha kc hca kf hf0 (Or.inl (by omega)) (Or.inl ⟨rfl, sp_kt_lt (S := S) (m := m) (N := N) (by omega)⟩)
        · refine gx_2f (c := .ne) rfl (by omega) (by omega) hc35 rfl ?_
          refine ex_go (S := (52, [(3, .inl b32), (2, .inl 1), (0, gx_r 383), (1, .inl e)], [.inl b32], t0, n, 0)) rfl (fun _ => rfl) rfl ?_
          refine ex_go (S := (56, [(3, .inl b32), (2, .inl 1), (0, gx_r 383), (1, .inl e)], [.inl b32], t0, n, 0)) rfl (fun _ => rfl) rfl ?_
          have hyf : sp_fa S m N fh a := ⟨b32, hna, hnc, by omega⟩
          refine ex_go (S := (57, [(3, .inl b32), (2, .inl 1), (0, gx_r 383), (1, .inl e)], [], t0, n, 0)) rfl (fun _ => rfl) rfl ?_
          refine ex_go (S := (58, [(3, .inl b32), (2, .inl 1), (0, gx_r 383), (1, .inl e)], [.inl b32], t0, n, 0)) rfl (fun _ => rfl) rfl ?_
          refine gx_1t (c := .ge) rfl (by omega) (show 0 ≤ b32 from by omega) rfl ?_
          refine ex_go (S := (92, [(3, .inl b32), (2, .inl 1), (0, gx_r 383), (1, .inl e)], [.inl e], t0, n, 0)) rfl (fun _ => rfl) rfl ?_
          refine ex_go (S := (93, [(3, .inl b32), (2, .inl 1), (0, gx_r 383), (1, .inl e)], [.inl 5, .inl e], t0, n, 0)) rfl (fun _ => rfl) rfl ?_
          refine gx_2t (c := .ne) rfl (by omega) (by omega) (show e ≠ 5 from by omega) rfl ?_
          exact pe_takePart_t hP hA he d n s0 hT ha kc hca kf hf0 (Or.inr (Or.inl hyf)) (Or.inl ⟨rfl, sp_kt_lt (S := S) (m := m) (N := N) (by omega)⟩)
      · have hnf : ¬ sp_fa S m N fh a := fun ⟨j, z1, z2, z3⟩ => hnb j z1 ⟨hf0, z2⟩
        subst hna
        refine ex_go (S := (55, [(3, .inl 4294967295), (2, .inl 1), (0, gx_r 383), (1, .inl e)], [], t0, n, 0)) rfl (fun _ => rfl) rfl ?_
        refine ex_go (S := (56, [(3, .inl 4294967295), (2, .inl 1), (0, gx_r 383), (1, .inl e)], [.inl 4294967295], t0, n, 0)) rfl (fun _ => rfl) rfl ?_
        refine ex_go (S := (57, [(3, .inl 4294967295), (2, .inl 1), (0, gx_r 383), (1, .inl e)], [], t0, n, 0)) rfl (fun _ => rfl) rfl ?_
        refine ex_go (S := (58, [(3, .inl 4294967295), (2, .inl 1), (0, gx_r 383), (1, .inl e)], [.inl 4294967295], t0, n, 0)) rfl (fun _ => rfl) rfl ?_
        refine ex_go (S := (61, [(3, .inl 4294967295), (2, .inl 1), (0, gx_r 383), (1, .inl e)], [], t0, n, 0)) rfl (fun _ => rfl) rfl ?_
        refine ex_go (S := (62, [(3, .inl 4294967295), (2, .inl 1), (0, gx_r 383), (1, .inl e)], [.inl 1], t0, n, 0)) rfl (fun _ => rfl) rfl ?_
        refine ex_go (S := (91, [(3, .inl 4294967295), (2, .inl 1), (0, gx_r 383), (1, .inl e)], [], t0, n, 0)) rfl (fun _ => rfl) rfl ?_
        refine ex_go (S := (92, [(3, .inl 4294967295), (2, .inl 1), (0, gx_r 383), (1, .inl e)], [.inl e], t0, n, 0)) rfl (fun _ => rfl) rfl ?_
        refine ex_go (S := (93, [(3, .inl 4294967295), (2, .inl 1), (0, gx_r 383), (1, .inl e)], [.inl 5, .inl e], t0, n, 0)) rfl (fun _ => rfl) rfl ?_
        refine gx_2t (c := .ne) rfl (by omega) (by omega) (show e ≠ 5 from by omega) rfl ?_
        exact pe_takePart_t hP hA he d n s0 hT ha kc hca kf hf0 (Or.inl (by omega)) (Or.inl ⟨rfl, sp_kt_lt (S := S) (m := m) (N := N) (by omega)⟩)
  · refine gx_1f (c := .le) rfl (by omega) hc1 rfl ?_
    refine ex_ret (r := (none, t0, n, 0)) rfl (fun _ => rfl) ?_
    exact ⟨_, rfl, t0, a, f, c, rfl, px_X_fault kc (fun _ _ _ => rfl) s0 (by omega) (by omega), Ev_no (by omega), by omega⟩
theorem pe_laws (hfh : fh < 16) : ∀ j e, e + j = 5 → (∀ d, pe_C S m N fh (d + 5 * j + 3) 288 4 e) ∧ (∀ d, pe_C S m N fh (d + 5 * j + 7) 247 0 e) := by
  intro j
  induction j with
  | zero =>
    intro e he
    have e5 : e = 5 := by omega
    subst e5
    have h1 : ∀ d, pe_C S m N fh (d + 0 + 3) 288 4 5 := fun d => pe_takePart5 d hfh
    exact ⟨h1, pe_all (l := 0) (pe_test (l := 0) (pe_sums (l := 0) (pe_products (l := 0) h1 (by omega)) (by omega)) (by omega)) (by omega)⟩
  | succ j ih =>
    intro e he
    obtain ⟨hT, hA⟩ := ih (e + 1) (by omega)
    have h1 : ∀ d, pe_C S m N fh (d + 5 * (j + 1) + 3) 288 4 e := fun d => pe_takePart (l := 5 * j) hT hA (by omega) d hfh
    exact ⟨h1, pe_all (l := 5 * (j + 1)) (pe_test (l := 5 * (j + 1)) (pe_sums (l := 5 * (j + 1)) (pe_products (l := 5 * (j + 1)) h1 (by omega)) (by omega)) (by omega)) (by omega)⟩
theorem pe_all0 (hfh : fh < 16) (d : Nat) : pe_C S m N fh (d + 32) 247 0 0 := (pe_laws hfh 5 0 rfl).2 d
end SPO
