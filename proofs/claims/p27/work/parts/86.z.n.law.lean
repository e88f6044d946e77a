section SPO
variable {S : Nat → Nat} {m N fh : Nat}
/-! the codes as the reference writes them -/
noncomputable def opm (z : Nat) : Nat := if z < 2147483648 then 1 else if z = 4294967295 then 3 else if z = 4294967294 then 9 else if z = 4294967293 then 10 else if z = 4294967292 then 7 else if z = 4294967291 then 8 else if z = 4294967290 then 4 else if z = 4294967289 then 5 else if z = 4294967288 then 6 else 2
noncomputable def argm (fh z : Nat) : Nat := if z < 2147483648 then z else if z = 4294967287 then 0 else if z = 4294967286 then (if fh = 8 then 3 else 1) else if z = 4294967285 then 2 else 0
noncomputable def rLs (t : en_H) (fh c : Nat) (L : List Nat) : Prop := ∀ j, j < L.length → ai_hv t 390 (1100 + (c + j)) = some (.inl (opm ((L[j]?).getD 0))) ∧ ai_hv t 391 (1100 + (c + j)) = some (.inl (argm fh ((L[j]?).getD 0)))
theorem ni_l2i {x : Nat} (h : x < 2147483648) : (lN x).toInt32.toBitVec.toNat = x := by
  have h0 := sp_lN (show x < 9223372036854775808 by omega)
  have h1 := gx_l2i (m := x) (lo := x) (hi := x) h (by first | decide | omega) (by first | decide | omega)
  omega
theorem rLs_nil {t : en_H} {c : Nat} : rLs t fh c [] := fun j hj => absurd hj (Nat.not_lt_zero j)
theorem rLs_keep {t t' : en_H} {c : Nat} {L : List Nat} (h : rLs t fh c L) (e : ∀ c' i, (c' = 390 ∨ c' = 391) → i < 1100 + (c + L.length) → ai_hv t' c' i = ai_hv t c' i) : rLs t' fh c L := fun j hj => ⟨(e _ _ (Or.inl rfl) (by first | decide | omega)).trans (h j hj).1, (e _ _ (Or.inr rfl) (by first | decide | omega)).trans (h j hj).2⟩
theorem rLs_one {t : en_H} {c o z k : Nat} (h1 : ai_hv t 390 (1100 + c) = some (.inl o)) (h2 : ai_hv t 391 (1100 + c) = some (.inl z)) (e1 : opm k = o) (e2 : argm fh k = z) : rLs t fh c [k] := fun j hj => by
  have h9 : j < 1 := hj
  have h8 : j = 0 := by omega
  subst h8
  exact ⟨h1.trans (by rw [← e1]; rfl), h2.trans (by rw [← e2]; rfl)⟩
theorem rLs_app {t : en_H} {c : Nat} {L1 L2 : List Nat} (h1 : rLs t fh c L1) (h2 : rLs t fh (c + L1.length) L2) : rLs t fh c (L1 ++ L2) := fun j hj => by
  rw [List.length_append] at hj
  by_cases k : j < L1.length
  · rw [List.getElem?_append_left k]
    exact h1 j k
  · rw [List.getElem?_append_right (by first | decide | omega)]
    have h9 := h2 (j - L1.length) (by first | decide | omega)
    rw [show c + L1.length + (j - L1.length) = c + j by omega] at h9
    exact h9
noncomputable def rE (S : Nat → Nat) (m N fh y e a f c : Nat) (t' : en_H) (f' c' : Nat) : Prop := f' = 0 → ∃ L, Ec S m N fh y e (a, f) L ∧ c' = c + L.length ∧ rLs t' fh c L
theorem Ec_at {y e : Nat} {p p' : Nat × Nat} {L : List Nat} (h : Ec S m N fh y e p L) (e1 : p.1 = p'.1) (e2 : p.2 = p'.2) : Ec S m N fh y e p' L := by
  have e3 : p = p' := Prod.ext e1 e2
  rw [← e3]; exact h
theorem Ec_seq {y e a f : Nat} {q : Nat × Nat} {L1 L2 : List Nat} (hy : y < 4) (hf : f = 0) (h1 : Ev S m N fh (y + 1) e (a, f) q) (c1 : Ec S m N fh (y + 1) e (a, f) L1) (c2 : Ec S m N fh (y + 5) e q L2) : Ec S m N fh y e (a, f) (L1 ++ L2) := by
  subst hf
  exact Ec_lv hy h1 c1 c2
theorem Ec_exit {y e a f : Nat} (hy : 5 ≤ y) (h : f = 0 → ¬ sp_op S m N (y - 5) a) (hf : f = 0) : Ec S m N fh y e (a, f) [] := by
  subst hf
  exact Ec_stop hy (h rfl)
theorem sg_nwd {a g w : Nat} (h : sp_sg S m N a g) : ¬ sp_wd S m N a w := fun z => by
  have h1 := h.2.1
  rw [z.2.1] at h1
  cases h1
theorem sg_one {a g g' : Nat} (h : sp_sg S m N a g) (hg : g ≠ g') : ¬ sp_sg S m N a g' := fun z => hg (h.2.2.symm.trans z.2.2)
theorem oc_36 {a : Nat} (h : sp_wd S m N a 36) : sp_oc S m N a = 4294967294 := cif_t h
theorem oc_37 {a : Nat} (h : sp_wd S m N a 37) : sp_oc S m N a = 4294967293 := (cif_f (fun z => by have := sp_wd_one (by decide) (by decide) z h; omega)).trans (cif_t h)
theorem oc_60 {a : Nat} (h : sp_sg S m N a 60) : sp_oc S m N a = 4294967292 := (cif_f (sg_nwd h)).trans ((cif_f (sg_nwd h)).trans (cif_t h))
theorem oc_61 {a : Nat} (h : sp_sg S m N a 61) : sp_oc S m N a = 4294967291 := (cif_f (sg_nwd h)).trans ((cif_f (sg_nwd h)).trans ((cif_f (sg_one h (by decide))).trans (cif_t h)))
theorem oc_43 {a : Nat} (h : sp_sg S m N a 43) : sp_oc S m N a = 4294967290 := (cif_f (sg_nwd h)).trans ((cif_f (sg_nwd h)).trans ((cif_f (sg_one h (by decide))).trans ((cif_f (sg_one h (by decide))).trans (cif_t h))))
theorem oc_45 {a : Nat} (h : sp_sg S m N a 45) : sp_oc S m N a = 4294967289 := (cif_f (sg_nwd h)).trans ((cif_f (sg_nwd h)).trans ((cif_f (sg_one h (by decide))).trans ((cif_f (sg_one h (by decide))).trans ((cif_f (sg_one h (by decide))).trans (cif_t h)))))
theorem oc_42 {a : Nat} (h : sp_sg S m N a 42) : sp_oc S m N a = 4294967288 := (cif_f (sg_nwd h)).trans ((cif_f (sg_nwd h)).trans ((cif_f (sg_one h (by decide))).trans ((cif_f (sg_one h (by decide))).trans ((cif_f (sg_one h (by decide))).trans (cif_f (sg_one h (by decide)))))))
theorem tk_num {a : Nat} (h : sp_kt S m N a = 2) : sp_tk S m N a = sp_nv S m a := cif_t h
theorem tk_38 {a : Nat} (h : sp_wd S m N a 38) : sp_tk S m N a = 4294967287 := (cif_f (by have := sp_wdk h; omega)).trans (cif_t h)
theorem tk_40 {a : Nat} (h : sp_wd S m N a 40) : sp_tk S m N a = 4294967285 := (cif_f (by have := sp_wdk h; omega)).trans ((cif_f (fun z => by have := sp_wd_one (by decide) (by decide) z h; omega)).trans (cif_t h))
theorem tk_39 {a w : Nat} (hw : w = 39 ∨ w = 41) (h : sp_wd S m N a w) : sp_tk S m N a = 4294967286 := (cif_f (by have := sp_wdk h; omega)).trans ((cif_f (fun z => by have := sp_wd_one (by decide) (by first | decide | omega) z h; omega)).trans (cif_f (fun z => by have := sp_wd_one (by decide) (by first | decide | omega) z h; omega)))
theorem tk_fact {a fa : Nat} (hfh : fh = 7 ∨ fh = 8 ∨ fh = 2) (h1 : fa < 4) (h2 : sp_wd S m N a (38 + fa)) (h3 : (fh >>> fa) % 2 = 1) : opm (sp_tk S m N a) = 2 ∧ argm fh (sp_tk S m N a) = fa := by
  rcases (show fa = 0 ∨ fa = 1 ∨ fa = 2 ∨ fa = 3 by omega) with rfl | rfl | rfl | rfl
  · rw [tk_38 h2]; exact ⟨rfl, rfl⟩
  · rw [tk_39 (Or.inl rfl) h2]
    refine ⟨rfl, ?_⟩
    show (if fh = 8 then 3 else 1) = 1
    rcases hfh with rfl | rfl | rfl
    · rfl
    · exact absurd h3 (by decide)
    · rfl
  · rw [tk_40 h2]; exact ⟨rfl, rfl⟩
  · rw [tk_39 (Or.inr rfl) h2]
    refine ⟨rfl, ?_⟩
    show (if fh = 8 then 3 else 1) = 3
    rcases hfh with rfl | rfl | rfl
    · exact absurd h3 (by decide)
    · rfl
    · exact absurd h3 (by decide)
noncomputable def pe_C (S : Nat → Nat) (m N fh d mi y e : Nat) : Prop := ∀ (n : Nat) (t : en_H) (a f c : Nat), px_S t a f → rT t S m N → a ≤ N → ai_hv t 383 13 = some (.inl c) → c ≤ a → ai_hv t 383 21 = some (.inl fh) → ∃ r, en_u d mi [gx_r 383, .inl e] t n = some r ∧ ∃ t' a' f' c', r = (none, t', n, 0) ∧ px_X t a f c t' a' f' c' ∧ Ev S m N fh y e (a, f) (a', f') ∧ a' ≤ N ∧ rE S m N fh y e a f c t' f' c'
theorem Ev_at {y e : Nat} {p p' q : Nat × Nat} (h : Ev S m N fh y e p q) (e1 : p.1 = p'.1) (e2 : p.2 = p'.2) : Ev S m N fh y e p' q := by
  have e3 : p = p' := Prod.ext e1 e2
  rw [← e3]; exact h
theorem Ev_to {y e : Nat} {p q q' : Nat × Nat} (h : Ev S m N fh y e p q) (e1 : q.1 = q'.1) (e2 : q.2 = q'.2) : Ev S m N fh y e p q' := by
  have e3 : q = q' := Prod.ext e1 e2
  rw [← e3]; exact h
theorem Ev_seq {y e a f : Nat} {q r : Nat × Nat} (hy : y < 4) (h1 : Ev S m N fh (y + 1) e (a, f) q) (h2 : Ev S m N fh (y + 5) e q r) : Ev S m N fh y e (a, f) r := by
  by_cases c : f = 0
  · subst c; exact Ev_lv hy h1 h2
  · have e1 := Ev_det h1 (Ev_no c)
    subst e1
    have e2 := Ev_det h2 (Ev_no c)
    subst e2
    exact Ev_no c
theorem Ev_exit {y e a f : Nat} (hy : 5 ≤ y) (h : f = 0 → ¬ sp_op S m N (y - 5) a) : Ev S m N fh y e (a, f) (a, f) := by
  by_cases c : f = 0
  · subst c; exact Ev_stop hy (h rfl)
  · exact Ev_no c
theorem sp_op_0 {a : Nat} : sp_op S m N 0 a ↔ (sp_wd S m N a 36 ∨ sp_wd S m N a 37) := by
  unfold sp_op
  constructor
  · rintro (⟨_, h⟩ | ⟨h, _⟩ | ⟨h, _⟩ | ⟨h, _⟩)
    · exact h
    · cases h
    · cases h
    · cases h
  · intro h; exact Or.inl ⟨rfl, h⟩
theorem sp_op_1 {a : Nat} : sp_op S m N 1 a ↔ (sp_sg S m N a 60 ∨ sp_sg S m N a 61) := by
  unfold sp_op
  constructor
  · rintro (⟨h, _⟩ | ⟨_, h⟩ | ⟨h, _⟩ | ⟨h, _⟩)
    · cases h
    · exact h
    · cases h
    · cases h
  · intro h; exact Or.inr (Or.inl ⟨rfl, h⟩)
theorem sp_op_2 {a : Nat} : sp_op S m N 2 a ↔ (sp_sg S m N a 43 ∨ sp_sg S m N a 45) := by
  unfold sp_op
  constructor
  · rintro (⟨h, _⟩ | ⟨h, _⟩ | ⟨_, h⟩ | ⟨h, _⟩)
    · cases h
    · cases h
    · exact h
    · cases h
  · intro h; exact Or.inr (Or.inr (Or.inl ⟨rfl, h⟩))
theorem sp_op_3 {a : Nat} : sp_op S m N 3 a ↔ sp_sg S m N a 42 := by
  unfold sp_op
  constructor
  · rintro (⟨h, _⟩ | ⟨h, _⟩ | ⟨h, _⟩ | ⟨_, h⟩)
    · cases h
    · cases h
    · cases h
    · exact h
  · intro h; exact Or.inr (Or.inr (Or.inr ⟨rfl, h⟩))
theorem gx_bit {b : Nat} (h1 : fh < 16) (h2 : b < 4) : (nI (nI fh >>> (nI b &&& 31)).toBitVec.toNat &&& nI 1).toBitVec.toNat = (fh >>> b) % 2 := by
  have h : (List.range 16).all (fun fh => (List.range 4).all (fun b => (nI (nI fh >>> (nI b &&& 31)).toBitVec.toNat &&& nI 1).toBitVec.toNat == (fh >>> b) % 2)) = true := by decide +kernel
  exact eq_of_beq (List.all_eq_true.mp (List.all_eq_true.mp h fh (List.mem_range.mpr h1)) b (List.mem_range.mpr h2))
theorem pe_products_l {l e : Nat} (h : ∀ d, pe_C S m N fh (d + l + 3) 288 4 e) (he : e ≤ 5) (d n : Nat) {tb : en_H} {ab fb cb : Nat} (hcb : cb ≤ ab) : ∀ j t0 a f c lx, (lx = [] ∨ ∃ b, b ≤ 1 ∧ lx = [(2, .inl b)]) → 1000 ≤ a + j → px_X tb ab fb cb t0 a f c → rT t0 S m N → a ≤ N → ai_hv t0 383 21 = some (.inl fh) → en_ex none (en_u (d + l + 3)) (en_code 286) (fun _ => false) (5, lx ++ [(0, gx_r 383), (1, .inl e)], [], t0, n, 0) (fun o => ∃ r, o = .inl r ∧ ∃ t' a' f' c', r = (none, t', n, 0) ∧ px_X tb ab fb cb t' a' f' c' ∧ Ev S m N fh 8 e (a, f) (a', f') ∧ a' ≤ N ∧ px_FE c t0 t' ∧ (f' = 0 → f = 0) ∧ rE S m N fh 8 e a f c t' f' c') := by
  intro j
  induction j with
  | zero =>
    intro t0 a f c lx hlx hj hx hT ha kf
    have s0 := hx.1
    have kc := hx.2.2.1
    have q0 := hx.2.2.2.1
    have b0 := s0.2.2.2
    have hN := hT.2.2.2.2.1
    rcases hlx with rfl | ⟨bx, hbx, rfl⟩
    · show en_ex _ _ _ _ (5, [(0, gx_r 383), (1, .inl e)], [], t0, n, 0) _
      refine ex_go (S := (6, [(0, gx_r 383), (1, .inl e)], [gx_r 383], t0, n, 0)) rfl (fun _ => rfl) rfl ?_
      refine ex_go (S := (8, [(0, gx_r 383), (1, .inl e)], [.inl 42, gx_r 383], t0, n, 0)) rfl (fun _ => rfl) rfl ?_
      obtain ⟨_, r101, v101, t101, a101, f101, rfl, s101, e101, q101⟩ := pe_hasSign (d + l + 1) n (s0) hT (by first | decide | omega) (w := 42) (by first | decide | omega)
      have b101 := s101.2.2.2
      have hlq101 : v101 = 1 → a < N := fun z => (q101.2.mp z).2.1
      refine gx_call1 rfl rfl s0.1 rfl rfl r101 rfl ?_
      have k2 : ai_hv t101 383 13 = some (.inl c) := (e101 383 13 (by first | decide | omega)).trans kc
      have k3 : ai_hv t101 383 21 = some (.inl fh) := (e101 383 21 (by first | decide | omega)).trans kf
      by_cases hc4 : v101 = 0
      · refine gx_1t (c := .eq) rfl (by first | decide | omega) hc4 rfl ?_
        refine ex_ret (r := (none, t101, n, 0)) rfl (fun _ => rfl) ?_
        have hno : f = 0 → ¬ sp_op S m N 3 a := fun hf z => absurd (q101.2.mpr ⟨hf, sp_op_3.mp z⟩) (by first | decide | omega)
        exact ⟨_, rfl, t101, a101, f101, c, rfl, px_X_same hx (fun c i h => e101 c i (by first | decide | omega)) s101 (by first | decide | omega) (by first | decide | omega), Ev_to (Ev_exit (by first | decide | omega) hno) (by show a = a101; omega) (by show f = f101; omega), by omega, (fun c i h => e101 c i (by first | decide | omega)), (fun z => by omega), fun z => ⟨[], Ec_exit (by first | decide | omega) hno (by first | decide | omega), rfl, rLs_nil⟩⟩
      · refine gx_1f (c := .eq) rfl (by first | decide | omega) hc4 rfl ?_
        refine ex_go (S := (15, [(0, gx_r 383), (1, .inl e)], [gx_r 383], t101, n, 0)) rfl (fun _ => rfl) rfl ?_
        refine ex_go (S := (16, [(0, gx_r 383), (1, .inl e)], [.inl e, gx_r 383], t101, n, 0)) rfl (fun _ => rfl) rfl ?_
        have hT6 := rT_keep (t' := t101) hT (fun c i h => e101 c i (by first | decide | omega))
        obtain ⟨_, r105, t105, a105, f105, c105, rfl, x105, w105, wa105, y105⟩ := h d n _ _ _ _ s101 hT6 (by first | decide | omega) k2 (by first | decide | omega) k3
        have s105 := x105.1
        have e105 := x105.2.1
        have k105 := x105.2.2.1
        have q105 := x105.2.2.2.1
        have b105 := s105.2.2.2
        refine gx_call0 rfl rfl s101.1 rfl rfl r105 rfl ?_
        have k7 : ai_hv t105 383 21 = some (.inl fh) := (e105 383 21 (by first | decide | omega)).trans k3
        refine ex_go (S := (20, [(0, gx_r 383), (1, .inl e)], [gx_r 383], t105, n, 0)) rfl (fun _ => rfl) rfl ?_
        refine ex_go (S := (22, [(0, gx_r 383), (1, .inl e)], [.inl 6, gx_r 383], t105, n, 0)) rfl (fun _ => rfl) rfl ?_
        refine ex_go (S := (23, [(0, gx_r 383), (1, .inl e)], [.inl 0, .inl 6, gx_r 383], t105, n, 0)) rfl (fun _ => rfl) rfl ?_
        obtain ⟨_, r108, t108, rfl, s108, e108, k108, ko108, kz108⟩ := pk_emit (d + l + 2) n (s105) (o := 6) (z := 0) (by first | decide | omega) (by first | decide | omega) (by first | decide | omega) k105
        have b108 := s108.2.2.2
        refine gx_call0 rfl rfl s105.1 rfl rfl r108 rfl ?_
        have k9 : ai_hv t108 383 21 = some (.inl fh) := (e108 383 21 (by first | decide | omega)).trans k7
        refine ex_go (S := (5, [(0, gx_r 383), (1, .inl e)], [], t108, n, 0)) rfl (fun _ => rfl) rfl ?_
        exfalso; omega
    · show en_ex _ _ _ _ (5, [(2, .inl bx), (0, gx_r 383), (1, .inl e)], [], t0, n, 0) _
      refine ex_go (S := (6, [(2, .inl bx), (0, gx_r 383), (1, .inl e)], [gx_r 383], t0, n, 0)) rfl (fun _ => rfl) rfl ?_
      refine ex_go (S := (8, [(2, .inl bx), (0, gx_r 383), (1, .inl e)], [.inl 42, gx_r 383], t0, n, 0)) rfl (fun _ => rfl) rfl ?_
      obtain ⟨_, r101, v101, t101, a101, f101, rfl, s101, e101, q101⟩ := pe_hasSign (d + l + 1) n (s0) hT (by first | decide | omega) (w := 42) (by first | decide | omega)
      have b101 := s101.2.2.2
      have hlq101 : v101 = 1 → a < N := fun z => (q101.2.mp z).2.1
      refine gx_call1 rfl rfl s0.1 rfl rfl r101 rfl ?_
      have k2 : ai_hv t101 383 13 = some (.inl c) := (e101 383 13 (by first | decide | omega)).trans kc
      have k3 : ai_hv t101 383 21 = some (.inl fh) := (e101 383 21 (by first | decide | omega)).trans kf
      by_cases hc4 : v101 = 0
      · refine gx_1t (c := .eq) rfl (by first | decide | omega) hc4 rfl ?_
        refine ex_ret (r := (none, t101, n, 0)) rfl (fun _ => rfl) ?_
        have hno : f = 0 → ¬ sp_op S m N 3 a := fun hf z => absurd (q101.2.mpr ⟨hf, sp_op_3.mp z⟩) (by first | decide | omega)
        exact ⟨_, rfl, t101, a101, f101, c, rfl, px_X_same hx (fun c i h => e101 c i (by first | decide | omega)) s101 (by first | decide | omega) (by first | decide | omega), Ev_to (Ev_exit (by first | decide | omega) hno) (by show a = a101; omega) (by show f = f101; omega), by omega, (fun c i h => e101 c i (by first | decide | omega)), (fun z => by omega), fun z => ⟨[], Ec_exit (by first | decide | omega) hno (by first | decide | omega), rfl, rLs_nil⟩⟩
      · refine gx_1f (c := .eq) rfl (by first | decide | omega) hc4 rfl ?_
        refine ex_go (S := (15, [(2, .inl bx), (0, gx_r 383), (1, .inl e)], [gx_r 383], t101, n, 0)) rfl (fun _ => rfl) rfl ?_
        refine ex_go (S := (16, [(2, .inl bx), (0, gx_r 383), (1, .inl e)], [.inl e, gx_r 383], t101, n, 0)) rfl (fun _ => rfl) rfl ?_
        have hT6 := rT_keep (t' := t101) hT (fun c i h => e101 c i (by first | decide | omega))
        obtain ⟨_, r105, t105, a105, f105, c105, rfl, x105, w105, wa105, y105⟩ := h d n _ _ _ _ s101 hT6 (by first | decide | omega) k2 (by first | decide | omega) k3
        have s105 := x105.1
        have e105 := x105.2.1
        have k105 := x105.2.2.1
        have q105 := x105.2.2.2.1
        have b105 := s105.2.2.2
        refine gx_call0 rfl rfl s101.1 rfl rfl r105 rfl ?_
        have k7 : ai_hv t105 383 21 = some (.inl fh) := (e105 383 21 (by first | decide | omega)).trans k3
        refine ex_go (S := (20, [(2, .inl bx), (0, gx_r 383), (1, .inl e)], [gx_r 383], t105, n, 0)) rfl (fun _ => rfl) rfl ?_
        refine ex_go (S := (22, [(2, .inl bx), (0, gx_r 383), (1, .inl e)], [.inl 6, gx_r 383], t105, n, 0)) rfl (fun _ => rfl) rfl ?_
        refine ex_go (S := (23, [(2, .inl bx), (0, gx_r 383), (1, .inl e)], [.inl 0, .inl 6, gx_r 383], t105, n, 0)) rfl (fun _ => rfl) rfl ?_
        obtain ⟨_, r108, t108, rfl, s108, e108, k108, ko108, kz108⟩ := pk_emit (d + l + 2) n (s105) (o := 6) (z := 0) (by first | decide | omega) (by first | decide | omega) (by first | decide | omega) k105
        have b108 := s108.2.2.2
        refine gx_call0 rfl rfl s105.1 rfl rfl r108 rfl ?_
        have k9 : ai_hv t108 383 21 = some (.inl fh) := (e108 383 21 (by first | decide | omega)).trans k7
        refine ex_go (S := (5, [(2, .inl bx), (0, gx_r 383), (1, .inl e)], [], t108, n, 0)) rfl (fun _ => rfl) rfl ?_
        exfalso; omega
  | succ j ih =>
    intro t0 a f c lx hlx hj hx hT ha kf
    have s0 := hx.1
    have kc := hx.2.2.1
    have q0 := hx.2.2.2.1
    have b0 := s0.2.2.2
    have hN := hT.2.2.2.2.1
    rcases hlx with rfl | ⟨bx, hbx, rfl⟩
    · show en_ex _ _ _ _ (5, [(0, gx_r 383), (1, .inl e)], [], t0, n, 0) _
      refine ex_go (S := (6, [(0, gx_r 383), (1, .inl e)], [gx_r 383], t0, n, 0)) rfl (fun _ => rfl) rfl ?_
      refine ex_go (S := (8, [(0, gx_r 383), (1, .inl e)], [.inl 42, gx_r 383], t0, n, 0)) rfl (fun _ => rfl) rfl ?_
      obtain ⟨_, r101, v101, t101, a101, f101, rfl, s101, e101, q101⟩ := pe_hasSign (d + l + 1) n (s0) hT (by first | decide | omega) (w := 42) (by first | decide | omega)
      have b101 := s101.2.2.2
      have hlq101 : v101 = 1 → a < N := fun z => (q101.2.mp z).2.1
      refine gx_call1 rfl rfl s0.1 rfl rfl r101 rfl ?_
      have k2 : ai_hv t101 383 13 = some (.inl c) := (e101 383 13 (by first | decide | omega)).trans kc
      have k3 : ai_hv t101 383 21 = some (.inl fh) := (e101 383 21 (by first | decide | omega)).trans kf
      by_cases hc4 : v101 = 0
      · refine gx_1t (c := .eq) rfl (by first | decide | omega) hc4 rfl ?_
        refine ex_ret (r := (none, t101, n, 0)) rfl (fun _ => rfl) ?_
        have hno : f = 0 → ¬ sp_op S m N 3 a := fun hf z => absurd (q101.2.mpr ⟨hf, sp_op_3.mp z⟩) (by first | decide | omega)
        exact ⟨_, rfl, t101, a101, f101, c, rfl, px_X_same hx (fun c i h => e101 c i (by first | decide | omega)) s101 (by first | decide | omega) (by first | decide | omega), Ev_to (Ev_exit (by first | decide | omega) hno) (by show a = a101; omega) (by show f = f101; omega), by omega, (fun c i h => e101 c i (by first | decide | omega)), (fun z => by omega), fun z => ⟨[], Ec_exit (by first | decide | omega) hno (by first | decide | omega), rfl, rLs_nil⟩⟩
      · refine gx_1f (c := .eq) rfl (by first | decide | omega) hc4 rfl ?_
        refine ex_go (S := (15, [(0, gx_r 383), (1, .inl e)], [gx_r 383], t101, n, 0)) rfl (fun _ => rfl) rfl ?_
        refine ex_go (S := (16, [(0, gx_r 383), (1, .inl e)], [.inl e, gx_r 383], t101, n, 0)) rfl (fun _ => rfl) rfl ?_
        have hT6 := rT_keep (t' := t101) hT (fun c i h => e101 c i (by first | decide | omega))
        obtain ⟨_, r105, t105, a105, f105, c105, rfl, x105, w105, wa105, y105⟩ := h d n _ _ _ _ s101 hT6 (by first | decide | omega) k2 (by first | decide | omega) k3
        have s105 := x105.1
        have e105 := x105.2.1
        have k105 := x105.2.2.1
        have q105 := x105.2.2.2.1
        have b105 := s105.2.2.2
        refine gx_call0 rfl rfl s101.1 rfl rfl r105 rfl ?_
        have k7 : ai_hv t105 383 21 = some (.inl fh) := (e105 383 21 (by first | decide | omega)).trans k3
        refine ex_go (S := (20, [(0, gx_r 383), (1, .inl e)], [gx_r 383], t105, n, 0)) rfl (fun _ => rfl) rfl ?_
        refine ex_go (S := (22, [(0, gx_r 383), (1, .inl e)], [.inl 6, gx_r 383], t105, n, 0)) rfl (fun _ => rfl) rfl ?_
        refine ex_go (S := (23, [(0, gx_r 383), (1, .inl e)], [.inl 0, .inl 6, gx_r 383], t105, n, 0)) rfl (fun _ => rfl) rfl ?_
        obtain ⟨_, r108, t108, rfl, s108, e108, k108, ko108, kz108⟩ := pk_emit (d + l + 2) n (s105) (o := 6) (z := 0) (by first | decide | omega) (by first | decide | omega) (by first | decide | omega) k105
        have b108 := s108.2.2.2
        refine gx_call0 rfl rfl s105.1 rfl rfl r108 rfl ?_
        have k9 : ai_hv t108 383 21 = some (.inl fh) := (e108 383 21 (by first | decide | omega)).trans k7
        refine ex_go (S := (5, [(0, gx_r 383), (1, .inl e)], [], t108, n, 0)) rfl (fun _ => rfl) rfl ?_
        have hpf : f = 0 := by have := (q101.2.mp (by first | decide | omega)).1; omega
        have hoc := oc_42 (a := a) (q101.2.mp (by first | decide | omega)).2
        have hop : sp_op S m N 3 a := sp_op_3.mpr (q101.2.mp (by first | decide | omega)).2
        have w9 : Ev S m N fh 4 e (a + 1, 0) (a105, f105) := Ev_at w105 (by show a101 = a + 1; omega) (by show f101 = 0; omega)
        subst hpf
        have hT10 := rT_keep (t' := t108) hT (fun c i h => (e108 c i (by first | decide | omega)).trans ((e105 c i (by first | decide | omega)).trans (e101 c i (by first | decide | omega))))
        refine ex_imp (fun o9 h9 => ?_) (ih t108 a105 f105 (c105 + 1) [] (Or.inl rfl) (by first | decide | omega) (px_X_bin hx rfl (by first | decide | omega) (fun c i h => e101 c i (by first | decide | omega)) x105 (by first | decide | omega) s108 e108 k108 ko108 kz108) hT10 (by first | decide | omega) k9)
        obtain ⟨r9, g0, t9, a9, f9, c9, g1, g2, g3, g4, g5, g6, g7⟩ := h9
        refine ⟨r9, g0, t9, a9, f9, c9, g1, g2, Ev_more (by first | decide | omega) (by first | decide | omega) hop w9 g3, g4, (fun c8 i8 h8 => (g5 c8 i8 (by first | decide | omega)).trans ((e108 c8 i8 (by first | decide | omega)).trans ((e105 c8 i8 (by first | decide | omega)).trans (e101 c8 i8 (by first | decide | omega))))), (fun _ => rfl), fun z9 => ?_⟩
        obtain ⟨L1, d1, l1, m1⟩ := y105 (g6 z9)
        obtain ⟨L2, d2, l2, m2⟩ := g7 z9
        have d1 := Ec_at (p' := (a + 1, 0)) d1 (by show a101 = a + 1; omega) (by first | rfl | (show f101 = 0; omega))
        refine ⟨L1 ++ ([sp_oc S m N a] ++ L2), Ec_more (by first | decide | omega) (by first | decide | omega) hop w9 d1 d2, ?_, ?_⟩
        · rw [List.length_append, List.length_append]
          show _ = c + (L1.length + (1 + L2.length))
          omega
        · refine rLs_app (rLs_keep m1 (fun c8 i8 h7 h8 => (g5 c8 i8 (by first | decide | omega)).trans (e108 c8 i8 (by first | decide | omega)))) (rLs_app (rLs_one (o := 6) (z := 0) ?_ ?_ (by rw [hoc]; rfl) (by rw [hoc]; rfl)) ?_)
          · rw [← l1]; exact (g5 _ _ (by first | decide | omega)).trans ko108
          · rw [← l1]; exact (g5 _ _ (by first | decide | omega)).trans kz108
          · rw [show c + L1.length + [sp_oc S m N a].length = c105 + 1 from by rw [← l1]; rfl]; exact m2
    · show en_ex _ _ _ _ (5, [(2, .inl bx), (0, gx_r 383), (1, .inl e)], [], t0, n, 0) _
      refine ex_go (S := (6, [(2, .inl bx), (0, gx_r 383), (1, .inl e)], [gx_r 383], t0, n, 0)) rfl (fun _ => rfl) rfl ?_
      refine ex_go (S := (8, [(2, .inl bx), (0, gx_r 383), (1, .inl e)], [.inl 42, gx_r 383], t0, n, 0)) rfl (fun _ => rfl) rfl ?_
      obtain ⟨_, r101, v101, t101, a101, f101, rfl, s101, e101, q101⟩ := pe_hasSign (d + l + 1) n (s0) hT (by first | decide | omega) (w := 42) (by first | decide | omega)
      have b101 := s101.2.2.2
      have hlq101 : v101 = 1 → a < N := fun z => (q101.2.mp z).2.1
      refine gx_call1 rfl rfl s0.1 rfl rfl r101 rfl ?_
      have k2 : ai_hv t101 383 13 = some (.inl c) := (e101 383 13 (by first | decide | omega)).trans kc
      have k3 : ai_hv t101 383 21 = some (.inl fh) := (e101 383 21 (by first | decide | omega)).trans kf
      by_cases hc4 : v101 = 0
      · refine gx_1t (c := .eq) rfl (by first | decide | omega) hc4 rfl ?_
        refine ex_ret (r := (none, t101, n, 0)) rfl (fun _ => rfl) ?_
        have hno : f = 0 → ¬ sp_op S m N 3 a := fun hf z => absurd (q101.2.mpr ⟨hf, sp_op_3.mp z⟩) (by first | decide | omega)
        exact ⟨_, rfl, t101, a101, f101, c, rfl, px_X_same hx (fun c i h => e101 c i (by first | decide | omega)) s101 (by first | decide | omega) (by first | decide | omega), Ev_to (Ev_exit (by first | decide | omega) hno) (by show a = a101; omega) (by show f = f101; omega), by omega, (fun c i h => e101 c i (by first | decide | omega)), (fun z => by omega), fun z => ⟨[], Ec_exit (by first | decide | omega) hno (by first | decide | omega), rfl, rLs_nil⟩⟩
      · refine gx_1f (c := .eq) rfl (by first | decide | omega) hc4 rfl ?_
        refine ex_go (S := (15, [(2, .inl bx), (0, gx_r 383), (1, .inl e)], [gx_r 383], t101, n, 0)) rfl (fun _ => rfl) rfl ?_
        refine ex_go (S := (16, [(2, .inl bx), (0, gx_r 383), (1, .inl e)], [.inl e, gx_r 383], t101, n, 0)) rfl (fun _ => rfl) rfl ?_
        have hT6 := rT_keep (t' := t101) hT (fun c i h => e101 c i (by first | decide | omega))
        obtain ⟨_, r105, t105, a105, f105, c105, rfl, x105, w105, wa105, y105⟩ := h d n _ _ _ _ s101 hT6 (by first | decide | omega) k2 (by first | decide | omega) k3
        have s105 := x105.1
        have e105 := x105.2.1
        have k105 := x105.2.2.1
        have q105 := x105.2.2.2.1
        have b105 := s105.2.2.2
        refine gx_call0 rfl rfl s101.1 rfl rfl r105 rfl ?_
        have k7 : ai_hv t105 383 21 = some (.inl fh) := (e105 383 21 (by first | decide | omega)).trans k3
        refine ex_go (S := (20, [(2, .inl bx), (0, gx_r 383), (1, .inl e)], [gx_r 383], t105, n, 0)) rfl (fun _ => rfl) rfl ?_
        refine ex_go (S := (22, [(2, .inl bx), (0, gx_r 383), (1, .inl e)], [.inl 6, gx_r 383], t105, n, 0)) rfl (fun _ => rfl) rfl ?_
        refine ex_go (S := (23, [(2, .inl bx), (0, gx_r 383), (1, .inl e)], [.inl 0, .inl 6, gx_r 383], t105, n, 0)) rfl (fun _ => rfl) rfl ?_
        obtain ⟨_, r108, t108, rfl, s108, e108, k108, ko108, kz108⟩ := pk_emit (d + l + 2) n (s105) (o := 6) (z := 0) (by first | decide | omega) (by first | decide | omega) (by first | decide | omega) k105
        have b108 := s108.2.2.2
        refine gx_call0 rfl rfl s105.1 rfl rfl r108 rfl ?_
        have k9 : ai_hv t108 383 21 = some (.inl fh) := (e108 383 21 (by first | decide | omega)).trans k7
        refine ex_go (S := (5, [(2, .inl bx), (0, gx_r 383), (1, .inl e)], [], t108, n, 0)) rfl (fun _ => rfl) rfl ?_
        have hpf : f = 0 := by have := (q101.2.mp (by first | decide | omega)).1; omega
        have hoc := oc_42 (a := a) (q101.2.mp (by first | decide | omega)).2
        have hop : sp_op S m N 3 a := sp_op_3.mpr (q101.2.mp (by first | decide | omega)).2
        have w9 : Ev S m N fh 4 e (a + 1, 0) (a105, f105) := Ev_at w105 (by show a101 = a + 1; omega) (by show f101 = 0; omega)
        subst hpf
        have hT10 := rT_keep (t' := t108) hT (fun c i h => (e108 c i (by first | decide | omega)).trans ((e105 c i (by first | decide | omega)).trans (e101 c i (by first | decide | omega))))
        refine ex_imp (fun o9 h9 => ?_) (ih t108 a105 f105 (c105 + 1) [(2, .inl bx)] (Or.inr ⟨bx, by omega, rfl⟩) (by first | decide | omega) (px_X_bin hx rfl (by first | decide | omega) (fun c i h => e101 c i (by first | decide | omega)) x105 (by first | decide | omega) s108 e108 k108 ko108 kz108) hT10 (by first | decide | omega) k9)
        obtain ⟨r9, g0, t9, a9, f9, c9, g1, g2, g3, g4, g5, g6, g7⟩ := h9
        refine ⟨r9, g0, t9, a9, f9, c9, g1, g2, Ev_more (by first | decide | omega) (by first | decide | omega) hop w9 g3, g4, (fun c8 i8 h8 => (g5 c8 i8 (by first | decide | omega)).trans ((e108 c8 i8 (by first | decide | omega)).trans ((e105 c8 i8 (by first | decide | omega)).trans (e101 c8 i8 (by first | decide | omega))))), (fun _ => rfl), fun z9 => ?_⟩
        obtain ⟨L1, d1, l1, m1⟩ := y105 (g6 z9)
        obtain ⟨L2, d2, l2, m2⟩ := g7 z9
        have d1 := Ec_at (p' := (a + 1, 0)) d1 (by show a101 = a + 1; omega) (by first | rfl | (show f101 = 0; omega))
        refine ⟨L1 ++ ([sp_oc S m N a] ++ L2), Ec_more (by first | decide | omega) (by first | decide | omega) hop w9 d1 d2, ?_, ?_⟩
        · rw [List.length_append, List.length_append]
          show _ = c + (L1.length + (1 + L2.length))
          omega
        · refine rLs_app (rLs_keep m1 (fun c8 i8 h7 h8 => (g5 c8 i8 (by first | decide | omega)).trans (e108 c8 i8 (by first | decide | omega)))) (rLs_app (rLs_one (o := 6) (z := 0) ?_ ?_ (by rw [hoc]; rfl) (by rw [hoc]; rfl)) ?_)
          · rw [← l1]; exact (g5 _ _ (by first | decide | omega)).trans ko108
          · rw [← l1]; exact (g5 _ _ (by first | decide | omega)).trans kz108
          · rw [show c + L1.length + [sp_oc S m N a].length = c105 + 1 from by rw [← l1]; rfl]; exact m2
theorem pe_products {l e : Nat} (h : ∀ d, pe_C S m N fh (d + l + 3) 288 4 e) (he : e ≤ 5) (d : Nat) : pe_C S m N fh (d + l + 4) 286 3 e := by
  intro n t0 a f c s0 hT ha kc hca kf
  have b0 := s0.2.2.2
  have hN := hT.2.2.2.2.1
  refine en_u_ex (d := d + l + 3) rfl ?_
  show en_ex _ _ _ _ (0, [(0, gx_r 383), (1, .inl e)], [], t0, n, 0) _
  refine ex_go (S := (1, [(0, gx_r 383), (1, .inl e)], [gx_r 383], t0, n, 0)) rfl (fun _ => rfl) rfl ?_
  refine ex_go (S := (2, [(0, gx_r 383), (1, .inl e)], [.inl e, gx_r 383], t0, n, 0)) rfl (fun _ => rfl) rfl ?_
  obtain ⟨_, r101, t101, a101, f101, c101, rfl, x101, w101, wa101, y101⟩ := h d n _ _ _ _ s0 hT (by first | decide | omega) kc (by first | decide | omega) kf
  have s101 := x101.1
  have e101 := x101.2.1
  have k101 := x101.2.2.1
  have q101 := x101.2.2.2.1
  have b101 := s101.2.2.2
  refine gx_call0 rfl rfl s0.1 rfl rfl r101 rfl ?_
  have k2 : ai_hv t101 383 21 = some (.inl fh) := (e101 383 21 (by first | decide | omega)).trans kf
  have hT3 := rT_keep (t' := t101) hT (fun c i h => e101 c i (by first | decide | omega))
  refine ex_imp (fun o9 h9 => ?_) (pe_products_l h he d n hca 1000 t101 a101 f101 c101 [] (Or.inl rfl) (by first | decide | omega) x101 hT3 (by first | decide | omega) k2)
  obtain ⟨r9, g0, t9, a9, f9, c9, g1, g2, g3, g4, g5, g6, g7⟩ := h9
  refine ⟨r9, g0, t9, a9, f9, c9, g1, g2, Ev_seq (by first | decide | omega) w101 g3, g4, fun z9 => ?_⟩
  obtain ⟨L1, d1, l1, m1⟩ := y101 (g6 z9)
  obtain ⟨L2, d2, l2, m2⟩ := g7 z9
  have hz9 := g6 z9
  exact ⟨L1 ++ L2, Ec_seq (by first | decide | omega) (by first | decide | omega) w101 d1 d2, by rw [List.length_append]; omega, rLs_app (rLs_keep m1 (fun c8 i8 h7 h8 => g5 c8 i8 (by first | decide | omega))) (by rw [← l1]; exact m2)⟩
theorem pe_sums_l {l e : Nat} (h : ∀ d, pe_C S m N fh (d + l + 4) 286 3 e) (he : e ≤ 5) (d n : Nat) {tb : en_H} {ab fb cb : Nat} (hcb : cb ≤ ab) : ∀ j t0 a f c lx, (lx = [] ∨ ∃ b, b ≤ 1 ∧ lx = [(2, .inl b)]) → 1000 ≤ a + j → px_X tb ab fb cb t0 a f c → rT t0 S m N → a ≤ N → ai_hv t0 383 21 = some (.inl fh) → en_ex none (en_u (d + l + 4)) (en_code 282) (fun _ => false) (5, lx ++ [(0, gx_r 383), (1, .inl e)], [], t0, n, 0) (fun o => ∃ r, o = .inl r ∧ ∃ t' a' f' c', r = (none, t', n, 0) ∧ px_X tb ab fb cb t' a' f' c' ∧ Ev S m N fh 7 e (a, f) (a', f') ∧ a' ≤ N ∧ px_FE c t0 t' ∧ (f' = 0 → f = 0) ∧ rE S m N fh 7 e a f c t' f' c') := by
  intro j
  induction j with
  | zero =>
    intro t0 a f c lx hlx hj hx hT ha kf
    have s0 := hx.1
    have kc := hx.2.2.1
    have q0 := hx.2.2.2.1
    have b0 := s0.2.2.2
    have hN := hT.2.2.2.2.1
    rcases hlx with rfl | ⟨bx, hbx, rfl⟩
    · show en_ex _ _ _ _ (5, [(0, gx_r 383), (1, .inl e)], [], t0, n, 0) _
      refine ex_go (S := (6, [(0, gx_r 383), (1, .inl e)], [gx_r 383], t0, n, 0)) rfl (fun _ => rfl) rfl ?_
      refine ex_go (S := (8, [(0, gx_r 383), (1, .inl e)], [.inl 43, gx_r 383], t0, n, 0)) rfl (fun _ => rfl) rfl ?_
      obtain ⟨_, r3, b1, rfl, q2⟩ := pe_isSign (d + l + 3) n (s0) hT (by first | decide | omega) (w := 43) (by first | decide | omega)
      refine gx_call1 rfl rfl s0.1 rfl rfl r3 rfl ?_
      have hlq2 : b1 = 1 → a < N := fun z => (q2.2.mp z).2.1
      by_cases hc4 : b1 ≠ 0
      · refine gx_1t (c := .ne) rfl (by first | decide | omega) hc4 rfl ?_
        refine ex_go (S := (24, [(0, gx_r 383), (1, .inl e)], [gx_r 383], t0, n, 0)) rfl (fun _ => rfl) rfl ?_
        refine ex_go (S := (26, [(0, gx_r 383), (1, .inl e)], [.inl 43, gx_r 383], t0, n, 0)) rfl (fun _ => rfl) rfl ?_
        obtain ⟨_, r7, b5, rfl, q6⟩ := pe_isSign (d + l + 3) n (s0) hT (by first | decide | omega) (w := 43) (by first | decide | omega)
        refine gx_call1 rfl rfl s0.1 rfl rfl r7 rfl ?_
        have hlq6 : b5 = 1 → a < N := fun z => (q6.2.mp z).2.1
        refine ex_go (S := (30, [(2, .inl b5), (0, gx_r 383), (1, .inl e)], [], t0, n, 0)) rfl (fun _ => rfl) rfl ?_
        refine ex_go (S := (31, [(2, .inl b5), (0, gx_r 383), (1, .inl e)], [gx_r 383], t0, n, 0)) rfl (fun _ => rfl) rfl ?_
        refine ex_go (S := (32, [(2, .inl b5), (0, gx_r 383), (1, .inl e)], [gx_r 383, gx_r 383], t0, n, 0)) rfl (fun _ => rfl) rfl ?_
        refine gx_get rfl s0.1 rfl s0.2.1 rfl ?_
        refine ex_go (S := (36, [(2, .inl b5), (0, gx_r 383), (1, .inl e)], [.inl 1, .inl a, gx_r 383], t0, n, 0)) rfl (fun _ => rfl) rfl ?_
        refine ex_iadd rfl (by first | decide | omega) rfl ?_
        refine gx_put rfl s0.1 rfl rfl (ai_in_h (by first | decide | omega) (by first | decide | omega) (by first | decide | omega)) rfl (fun t108 g108 k108 e108 => ?_)
        have k9 : ai_hv t108 383 13 = some (.inl c) := (e108 383 13 (by first | decide | omega)).trans kc
        have k10 : ai_hv t108 383 21 = some (.inl fh) := (e108 383 21 (by first | decide | omega)).trans kf
        have s108 : px_S t108 (a + 1) f := ⟨g108, k108, (e108 383 8 (by first | decide | omega)).trans s0.2.2.1, by omega, s0.2.2.2.2⟩
        refine ex_go (S := (41, [(2, .inl b5), (0, gx_r 383), (1, .inl e)], [gx_r 383], t108, n, 0)) rfl (fun _ => rfl) rfl ?_
        refine ex_go (S := (42, [(2, .inl b5), (0, gx_r 383), (1, .inl e)], [.inl e, gx_r 383], t108, n, 0)) rfl (fun _ => rfl) rfl ?_
        have hT12 := rT_keep (t' := t108) hT (fun c i h => e108 c i (by first | decide | omega))
        obtain ⟨_, r111, t111, a111, f111, c111, rfl, x111, w111, wa111, y111⟩ := h d n _ _ _ _ s108 hT12 (by first | decide | omega) k9 (by first | decide | omega) k10
        have s111 := x111.1
        have e111 := x111.2.1
        have k111 := x111.2.2.1
        have q111 := x111.2.2.2.1
        have b111 := s111.2.2.2
        refine gx_call0 rfl rfl s108.1 rfl rfl r111 rfl ?_
        have k13 : ai_hv t111 383 21 = some (.inl fh) := (e111 383 21 (by first | decide | omega)).trans k10
        refine ex_go (S := (46, [(2, .inl b5), (0, gx_r 383), (1, .inl e)], [gx_r 383], t111, n, 0)) rfl (fun _ => rfl) rfl ?_
        refine ex_go (S := (47, [(2, .inl b5), (0, gx_r 383), (1, .inl e)], [.inl b5, gx_r 383], t111, n, 0)) rfl (fun _ => rfl) rfl ?_
        by_cases hc14 : b5 = 0
        · refine gx_1t (c := .eq) rfl (by first | decide | omega) hc14 rfl ?_
          refine ex_go (S := (55, [(2, .inl b5), (0, gx_r 383), (1, .inl e)], [.inl 5, gx_r 383], t111, n, 0)) rfl (fun _ => rfl) rfl ?_
          refine ex_go (S := (56, [(2, .inl b5), (0, gx_r 383), (1, .inl e)], [.inl 0, .inl 5, gx_r 383], t111, n, 0)) rfl (fun _ => rfl) rfl ?_
          obtain ⟨_, r115, t115, rfl, s115, e115, k115, ko115, kz115⟩ := pk_emit (d + l + 3) n (s111) (o := 5) (z := 0) (by first | decide | omega) (by first | decide | omega) (by first | decide | omega) k111
          have b115 := s115.2.2.2
          refine gx_call0 rfl rfl s111.1 rfl rfl r115 rfl ?_
          have k16 : ai_hv t115 383 21 = some (.inl fh) := (e115 383 21 (by first | decide | omega)).trans k13
          refine ex_go (S := (5, [(2, .inl b5), (0, gx_r 383), (1, .inl e)], [], t115, n, 0)) rfl (fun _ => rfl) rfl ?_
          exfalso; omega
        · refine gx_1f (c := .eq) rfl (by first | decide | omega) hc14 rfl ?_
          refine ex_go (S := (51, [(2, .inl b5), (0, gx_r 383), (1, .inl e)], [.inl 4, gx_r 383], t111, n, 0)) rfl (fun _ => rfl) rfl ?_
          refine ex_go (S := (55, [(2, .inl b5), (0, gx_r 383), (1, .inl e)], [.inl 4, gx_r 383], t111, n, 0)) rfl (fun _ => rfl) rfl ?_
          refine ex_go (S := (56, [(2, .inl b5), (0, gx_r 383), (1, .inl e)], [.inl 0, .inl 4, gx_r 383], t111, n, 0)) rfl (fun _ => rfl) rfl ?_
          obtain ⟨_, r117, t117, rfl, s117, e117, k117, ko117, kz117⟩ := pk_emit (d + l + 3) n (s111) (o := 4) (z := 0) (by first | decide | omega) (by first | decide | omega) (by first | decide | omega) k111
          have b117 := s117.2.2.2
          refine gx_call0 rfl rfl s111.1 rfl rfl r117 rfl ?_
          have k18 : ai_hv t117 383 21 = some (.inl fh) := (e117 383 21 (by first | decide | omega)).trans k13
          refine ex_go (S := (5, [(2, .inl b5), (0, gx_r 383), (1, .inl e)], [], t117, n, 0)) rfl (fun _ => rfl) rfl ?_
          exfalso; omega
      · refine gx_1f (c := .ne) rfl (by first | decide | omega) hc4 rfl ?_
        refine ex_go (S := (15, [(0, gx_r 383), (1, .inl e)], [gx_r 383], t0, n, 0)) rfl (fun _ => rfl) rfl ?_
        refine ex_go (S := (17, [(0, gx_r 383), (1, .inl e)], [.inl 45, gx_r 383], t0, n, 0)) rfl (fun _ => rfl) rfl ?_
        obtain ⟨_, r21, b19, rfl, q20⟩ := pe_isSign (d + l + 3) n (s0) hT (by first | decide | omega) (w := 45) (by first | decide | omega)
        refine gx_call1 rfl rfl s0.1 rfl rfl r21 rfl ?_
        have hlq20 : b19 = 1 → a < N := fun z => (q20.2.mp z).2.1
        by_cases hc22 : b19 = 0
        · refine gx_1t (c := .eq) rfl (by first | decide | omega) hc22 rfl ?_
          refine ex_ret (r := (none, t0, n, 0)) rfl (fun _ => rfl) ?_
          have hno : f = 0 → ¬ sp_op S m N 2 a := fun hf z => by
              rcases sp_op_2.mp z with z | z
              · exact absurd (q2.2.mpr ⟨hf, z⟩) (by first | decide | omega)
              · exact absurd (q20.2.mpr ⟨hf, z⟩) (by first | decide | omega)
          exact ⟨_, rfl, t0, a, f, c, rfl, px_X_same hx (fun _ _ _ => rfl) s0 (by first | decide | omega) (by first | decide | omega), Ev_to (Ev_exit (by first | decide | omega) hno) (by show a = a; omega) (by show f = f; omega), by omega, (fun _ _ _ => rfl), (fun z => by omega), fun z => ⟨[], Ec_exit (by first | decide | omega) hno (by first | decide | omega), rfl, rLs_nil⟩⟩
        · refine gx_1f (c := .eq) rfl (by first | decide | omega) hc22 rfl ?_
          refine ex_go (S := (24, [(0, gx_r 383), (1, .inl e)], [gx_r 383], t0, n, 0)) rfl (fun _ => rfl) rfl ?_
          refine ex_go (S := (26, [(0, gx_r 383), (1, .inl e)], [.inl 43, gx_r 383], t0, n, 0)) rfl (fun _ => rfl) rfl ?_
          obtain ⟨_, r25, b23, rfl, q24⟩ := pe_isSign (d + l + 3) n (s0) hT (by first | decide | omega) (w := 43) (by first | decide | omega)
          refine gx_call1 rfl rfl s0.1 rfl rfl r25 rfl ?_
          have hlq24 : b23 = 1 → a < N := fun z => (q24.2.mp z).2.1
          refine ex_go (S := (30, [(2, .inl b23), (0, gx_r 383), (1, .inl e)], [], t0, n, 0)) rfl (fun _ => rfl) rfl ?_
          refine ex_go (S := (31, [(2, .inl b23), (0, gx_r 383), (1, .inl e)], [gx_r 383], t0, n, 0)) rfl (fun _ => rfl) rfl ?_
          refine ex_go (S := (32, [(2, .inl b23), (0, gx_r 383), (1, .inl e)], [gx_r 383, gx_r 383], t0, n, 0)) rfl (fun _ => rfl) rfl ?_
          refine gx_get rfl s0.1 rfl s0.2.1 rfl ?_
          refine ex_go (S := (36, [(2, .inl b23), (0, gx_r 383), (1, .inl e)], [.inl 1, .inl a, gx_r 383], t0, n, 0)) rfl (fun _ => rfl) rfl ?_
          refine ex_iadd rfl (by first | decide | omega) rfl ?_
          refine gx_put rfl s0.1 rfl rfl (ai_in_h (by first | decide | omega) (by first | decide | omega) (by first | decide | omega)) rfl (fun t126 g126 k126 e126 => ?_)
          have k27 : ai_hv t126 383 13 = some (.inl c) := (e126 383 13 (by first | decide | omega)).trans kc
          have k28 : ai_hv t126 383 21 = some (.inl fh) := (e126 383 21 (by first | decide | omega)).trans kf
          have s126 : px_S t126 (a + 1) f := ⟨g126, k126, (e126 383 8 (by first | decide | omega)).trans s0.2.2.1, by omega, s0.2.2.2.2⟩
          refine ex_go (S := (41, [(2, .inl b23), (0, gx_r 383), (1, .inl e)], [gx_r 383], t126, n, 0)) rfl (fun _ => rfl) rfl ?_
          refine ex_go (S := (42, [(2, .inl b23), (0, gx_r 383), (1, .inl e)], [.inl e, gx_r 383], t126, n, 0)) rfl (fun _ => rfl) rfl ?_
          have hT30 := rT_keep (t' := t126) hT (fun c i h => e126 c i (by first | decide | omega))
          obtain ⟨_, r129, t129, a129, f129, c129, rfl, x129, w129, wa129, y129⟩ := h d n _ _ _ _ s126 hT30 (by first | decide | omega) k27 (by first | decide | omega) k28
          have s129 := x129.1
          have e129 := x129.2.1
          have k129 := x129.2.2.1
          have q129 := x129.2.2.2.1
          have b129 := s129.2.2.2
          refine gx_call0 rfl rfl s126.1 rfl rfl r129 rfl ?_
          have k31 : ai_hv t129 383 21 = some (.inl fh) := (e129 383 21 (by first | decide | omega)).trans k28
          refine ex_go (S := (46, [(2, .inl b23), (0, gx_r 383), (1, .inl e)], [gx_r 383], t129, n, 0)) rfl (fun _ => rfl) rfl ?_
          refine ex_go (S := (47, [(2, .inl b23), (0, gx_r 383), (1, .inl e)], [.inl b23, gx_r 383], t129, n, 0)) rfl (fun _ => rfl) rfl ?_
          by_cases hc32 : b23 = 0
          · refine gx_1t (c := .eq) rfl (by first | decide | omega) hc32 rfl ?_
            refine ex_go (S := (55, [(2, .inl b23), (0, gx_r 383), (1, .inl e)], [.inl 5, gx_r 383], t129, n, 0)) rfl (fun _ => rfl) rfl ?_
            refine ex_go (S := (56, [(2, .inl b23), (0, gx_r 383), (1, .inl e)], [.inl 0, .inl 5, gx_r 383], t129, n, 0)) rfl (fun _ => rfl) rfl ?_
            obtain ⟨_, r133, t133, rfl, s133, e133, k133, ko133, kz133⟩ := pk_emit (d + l + 3) n (s129) (o := 5) (z := 0) (by first | decide | omega) (by first | decide | omega) (by first | decide | omega) k129
            have b133 := s133.2.2.2
            refine gx_call0 rfl rfl s129.1 rfl rfl r133 rfl ?_
            have k34 : ai_hv t133 383 21 = some (.inl fh) := (e133 383 21 (by first | decide | omega)).trans k31
            refine ex_go (S := (5, [(2, .inl b23), (0, gx_r 383), (1, .inl e)], [], t133, n, 0)) rfl (fun _ => rfl) rfl ?_
            exfalso; omega
          · refine gx_1f (c := .eq) rfl (by first | decide | omega) hc32 rfl ?_
            refine ex_go (S := (51, [(2, .inl b23), (0, gx_r 383), (1, .inl e)], [.inl 4, gx_r 383], t129, n, 0)) rfl (fun _ => rfl) rfl ?_
            refine ex_go (S := (55, [(2, .inl b23), (0, gx_r 383), (1, .inl e)], [.inl 4, gx_r 383], t129, n, 0)) rfl (fun _ => rfl) rfl ?_
            refine ex_go (S := (56, [(2, .inl b23), (0, gx_r 383), (1, .inl e)], [.inl 0, .inl 4, gx_r 383], t129, n, 0)) rfl (fun _ => rfl) rfl ?_
            obtain ⟨_, r135, t135, rfl, s135, e135, k135, ko135, kz135⟩ := pk_emit (d + l + 3) n (s129) (o := 4) (z := 0) (by first | decide | omega) (by first | decide | omega) (by first | decide | omega) k129
            have b135 := s135.2.2.2
            refine gx_call0 rfl rfl s129.1 rfl rfl r135 rfl ?_
            have k36 : ai_hv t135 383 21 = some (.inl fh) := (e135 383 21 (by first | decide | omega)).trans k31
            refine ex_go (S := (5, [(2, .inl b23), (0, gx_r 383), (1, .inl e)], [], t135, n, 0)) rfl (fun _ => rfl) rfl ?_
            exfalso; omega
    · show en_ex _ _ _ _ (5, [(2, .inl bx), (0, gx_r 383), (1, .inl e)], [], t0, n, 0) _
      refine ex_go (S := (6, [(2, .inl bx), (0, gx_r 383), (1, .inl e)], [gx_r 383], t0, n, 0)) rfl (fun _ => rfl) rfl ?_
      refine ex_go (S := (8, [(2, .inl bx), (0, gx_r 383), (1, .inl e)], [.inl 43, gx_r 383], t0, n, 0)) rfl (fun _ => rfl) rfl ?_
      obtain ⟨_, r3, b1, rfl, q2⟩ := pe_isSign (d + l + 3) n (s0) hT (by first | decide | omega) (w := 43) (by first | decide | omega)
      refine gx_call1 rfl rfl s0.1 rfl rfl r3 rfl ?_
      have hlq2 : b1 = 1 → a < N := fun z => (q2.2.mp z).2.1
      by_cases hc4 : b1 ≠ 0
      · refine gx_1t (c := .ne) rfl (by first | decide | omega) hc4 rfl ?_
        refine ex_go (S := (24, [(2, .inl bx), (0, gx_r 383), (1, .inl e)], [gx_r 383], t0, n, 0)) rfl (fun _ => rfl) rfl ?_
        refine ex_go (S := (26, [(2, .inl bx), (0, gx_r 383), (1, .inl e)], [.inl 43, gx_r 383], t0, n, 0)) rfl (fun _ => rfl) rfl ?_
        obtain ⟨_, r7, b5, rfl, q6⟩ := pe_isSign (d + l + 3) n (s0) hT (by first | decide | omega) (w := 43) (by first | decide | omega)
        refine gx_call1 rfl rfl s0.1 rfl rfl r7 rfl ?_
        have hlq6 : b5 = 1 → a < N := fun z => (q6.2.mp z).2.1
        refine ex_go (S := (30, [(2, .inl b5), (0, gx_r 383), (1, .inl e)], [], t0, n, 0)) rfl (fun _ => rfl) rfl ?_
        refine ex_go (S := (31, [(2, .inl b5), (0, gx_r 383), (1, .inl e)], [gx_r 383], t0, n, 0)) rfl (fun _ => rfl) rfl ?_
        refine ex_go (S := (32, [(2, .inl b5), (0, gx_r 383), (1, .inl e)], [gx_r 383, gx_r 383], t0, n, 0)) rfl (fun _ => rfl) rfl ?_
        refine gx_get rfl s0.1 rfl s0.2.1 rfl ?_
        refine ex_go (S := (36, [(2, .inl b5), (0, gx_r 383), (1, .inl e)], [.inl 1, .inl a, gx_r 383], t0, n, 0)) rfl (fun _ => rfl) rfl ?_
        refine ex_iadd rfl (by first | decide | omega) rfl ?_
        refine gx_put rfl s0.1 rfl rfl (ai_in_h (by first | decide | omega) (by first | decide | omega) (by first | decide | omega)) rfl (fun t108 g108 k108 e108 => ?_)
        have k9 : ai_hv t108 383 13 = some (.inl c) := (e108 383 13 (by first | decide | omega)).trans kc
        have k10 : ai_hv t108 383 21 = some (.inl fh) := (e108 383 21 (by first | decide | omega)).trans kf
        have s108 : px_S t108 (a + 1) f := ⟨g108, k108, (e108 383 8 (by first | decide | omega)).trans s0.2.2.1, by omega, s0.2.2.2.2⟩
        refine ex_go (S := (41, [(2, .inl b5), (0, gx_r 383), (1, .inl e)], [gx_r 383], t108, n, 0)) rfl (fun _ => rfl) rfl ?_
        refine ex_go (S := (42, [(2, .inl b5), (0, gx_r 383), (1, .inl e)], [.inl e, gx_r 383], t108, n, 0)) rfl (fun _ => rfl) rfl ?_
        have hT12 := rT_keep (t' := t108) hT (fun c i h => e108 c i (by first | decide | omega))
        obtain ⟨_, r111, t111, a111, f111, c111, rfl, x111, w111, wa111, y111⟩ := h d n _ _ _ _ s108 hT12 (by first | decide | omega) k9 (by first | decide | omega) k10
        have s111 := x111.1
        have e111 := x111.2.1
        have k111 := x111.2.2.1
        have q111 := x111.2.2.2.1
        have b111 := s111.2.2.2
        refine gx_call0 rfl rfl s108.1 rfl rfl r111 rfl ?_
        have k13 : ai_hv t111 383 21 = some (.inl fh) := (e111 383 21 (by first | decide | omega)).trans k10
        refine ex_go (S := (46, [(2, .inl b5), (0, gx_r 383), (1, .inl e)], [gx_r 383], t111, n, 0)) rfl (fun _ => rfl) rfl ?_
        refine ex_go (S := (47, [(2, .inl b5), (0, gx_r 383), (1, .inl e)], [.inl b5, gx_r 383], t111, n, 0)) rfl (fun _ => rfl) rfl ?_
        by_cases hc14 : b5 = 0
        · refine gx_1t (c := .eq) rfl (by first | decide | omega) hc14 rfl ?_
          refine ex_go (S := (55, [(2, .inl b5), (0, gx_r 383), (1, .inl e)], [.inl 5, gx_r 383], t111, n, 0)) rfl (fun _ => rfl) rfl ?_
          refine ex_go (S := (56, [(2, .inl b5), (0, gx_r 383), (1, .inl e)], [.inl 0, .inl 5, gx_r 383], t111, n, 0)) rfl (fun _ => rfl) rfl ?_
          obtain ⟨_, r115, t115, rfl, s115, e115, k115, ko115, kz115⟩ := pk_emit (d + l + 3) n (s111) (o := 5) (z := 0) (by first | decide | omega) (by first | decide | omega) (by first | decide | omega) k111
          have b115 := s115.2.2.2
          refine gx_call0 rfl rfl s111.1 rfl rfl r115 rfl ?_
          have k16 : ai_hv t115 383 21 = some (.inl fh) := (e115 383 21 (by first | decide | omega)).trans k13
          refine ex_go (S := (5, [(2, .inl b5), (0, gx_r 383), (1, .inl e)], [], t115, n, 0)) rfl (fun _ => rfl) rfl ?_
          exfalso; omega
        · refine gx_1f (c := .eq) rfl (by first | decide | omega) hc14 rfl ?_
          refine ex_go (S := (51, [(2, .inl b5), (0, gx_r 383), (1, .inl e)], [.inl 4, gx_r 383], t111, n, 0)) rfl (fun _ => rfl) rfl ?_
          refine ex_go (S := (55, [(2, .inl b5), (0, gx_r 383), (1, .inl e)], [.inl 4, gx_r 383], t111, n, 0)) rfl (fun _ => rfl) rfl ?_
          refine ex_go (S := (56, [(2, .inl b5), (0, gx_r 383), (1, .inl e)], [.inl 0, .inl 4, gx_r 383], t111, n, 0)) rfl (fun _ => rfl) rfl ?_
          obtain ⟨_, r117, t117, rfl, s117, e117, k117, ko117, kz117⟩ := pk_emit (d + l + 3) n (s111) (o := 4) (z := 0) (by first | decide | omega) (by first | decide | omega) (by first | decide | omega) k111
          have b117 := s117.2.2.2
          refine gx_call0 rfl rfl s111.1 rfl rfl r117 rfl ?_
          have k18 : ai_hv t117 383 21 = some (.inl fh) := (e117 383 21 (by first | decide | omega)).trans k13
          refine ex_go (S := (5, [(2, .inl b5), (0, gx_r 383), (1, .inl e)], [], t117, n, 0)) rfl (fun _ => rfl) rfl ?_
          exfalso; omega
      · refine gx_1f (c := .ne) rfl (by first | decide | omega) hc4 rfl ?_
        refine ex_go (S := (15, [(2, .inl bx), (0, gx_r 383), (1, .inl e)], [gx_r 383], t0, n, 0)) rfl (fun _ => rfl) rfl ?_
        refine ex_go (S := (17, [(2, .inl bx), (0, gx_r 383), (1, .inl e)], [.inl 45, gx_r 383], t0, n, 0)) rfl (fun _ => rfl) rfl ?_
        obtain ⟨_, r21, b19, rfl, q20⟩ := pe_isSign (d + l + 3) n (s0) hT (by first | decide | omega) (w := 45) (by first | decide | omega)
        refine gx_call1 rfl rfl s0.1 rfl rfl r21 rfl ?_
        have hlq20 : b19 = 1 → a < N := fun z => (q20.2.mp z).2.1
        by_cases hc22 : b19 = 0
        · refine gx_1t (c := .eq) rfl (by first | decide | omega) hc22 rfl ?_
          refine ex_ret (r := (none, t0, n, 0)) rfl (fun _ => rfl) ?_
          have hno : f = 0 → ¬ sp_op S m N 2 a := fun hf z => by
              rcases sp_op_2.mp z with z | z
              · exact absurd (q2.2.mpr ⟨hf, z⟩) (by first | decide | omega)
              · exact absurd (q20.2.mpr ⟨hf, z⟩) (by first | decide | omega)
          exact ⟨_, rfl, t0, a, f, c, rfl, px_X_same hx (fun _ _ _ => rfl) s0 (by first | decide | omega) (by first | decide | omega), Ev_to (Ev_exit (by first | decide | omega) hno) (by show a = a; omega) (by show f = f; omega), by omega, (fun _ _ _ => rfl), (fun z => by omega), fun z => ⟨[], Ec_exit (by first | decide | omega) hno (by first | decide | omega), rfl, rLs_nil⟩⟩
        · refine gx_1f (c := .eq) rfl (by first | decide | omega) hc22 rfl ?_
          refine ex_go (S := (24, [(2, .inl bx), (0, gx_r 383), (1, .inl e)], [gx_r 383], t0, n, 0)) rfl (fun _ => rfl) rfl ?_
          refine ex_go (S := (26, [(2, .inl bx), (0, gx_r 383), (1, .inl e)], [.inl 43, gx_r 383], t0, n, 0)) rfl (fun _ => rfl) rfl ?_
          obtain ⟨_, r25, b23, rfl, q24⟩ := pe_isSign (d + l + 3) n (s0) hT (by first | decide | omega) (w := 43) (by first | decide | omega)
          refine gx_call1 rfl rfl s0.1 rfl rfl r25 rfl ?_
          have hlq24 : b23 = 1 → a < N := fun z => (q24.2.mp z).2.1
          refine ex_go (S := (30, [(2, .inl b23), (0, gx_r 383), (1, .inl e)], [], t0, n, 0)) rfl (fun _ => rfl) rfl ?_
          refine ex_go (S := (31, [(2, .inl b23), (0, gx_r 383), (1, .inl e)], [gx_r 383], t0, n, 0)) rfl (fun _ => rfl) rfl ?_
          refine ex_go (S := (32, [(2, .inl b23), (0, gx_r 383), (1, .inl e)], [gx_r 383, gx_r 383], t0, n, 0)) rfl (fun _ => rfl) rfl ?_
          refine gx_get rfl s0.1 rfl s0.2.1 rfl ?_
          refine ex_go (S := (36, [(2, .inl b23), (0, gx_r 383), (1, .inl e)], [.inl 1, .inl a, gx_r 383], t0, n, 0)) rfl (fun _ => rfl) rfl ?_
          refine ex_iadd rfl (by first | decide | omega) rfl ?_
          refine gx_put rfl s0.1 rfl rfl (ai_in_h (by first | decide | omega) (by first | decide | omega) (by first | decide | omega)) rfl (fun t126 g126 k126 e126 => ?_)
          have k27 : ai_hv t126 383 13 = some (.inl c) := (e126 383 13 (by first | decide | omega)).trans kc
          have k28 : ai_hv t126 383 21 = some (.inl fh) := (e126 383 21 (by first | decide | omega)).trans kf
          have s126 : px_S t126 (a + 1) f := ⟨g126, k126, (e126 383 8 (by first | decide | omega)).trans s0.2.2.1, by omega, s0.2.2.2.2⟩
          refine ex_go (S := (41, [(2, .inl b23), (0, gx_r 383), (1, .inl e)], [gx_r 383], t126, n, 0)) rfl (fun _ => rfl) rfl ?_
          refine ex_go (S := (42, [(2, .inl b23), (0, gx_r 383), (1, .inl e)], [.inl e, gx_r 383], t126, n, 0)) rfl (fun _ => rfl) rfl ?_
          have hT30 := rT_keep (t' := t126) hT (fun c i h => e126 c i (by first | decide | omega))
          obtain ⟨_, r129, t129, a129, f129, c129, rfl, x129, w129, wa129, y129⟩ := h d n _ _ _ _ s126 hT30 (by first | decide | omega) k27 (by first | decide | omega) k28
          have s129 := x129.1
          have e129 := x129.2.1
          have k129 := x129.2.2.1
          have q129 := x129.2.2.2.1
          have b129 := s129.2.2.2
          refine gx_call0 rfl rfl s126.1 rfl rfl r129 rfl ?_
          have k31 : ai_hv t129 383 21 = some (.inl fh) := (e129 383 21 (by first | decide | omega)).trans k28
          refine ex_go (S := (46, [(2, .inl b23), (0, gx_r 383), (1, .inl e)], [gx_r 383], t129, n, 0)) rfl (fun _ => rfl) rfl ?_
          refine ex_go (S := (47, [(2, .inl b23), (0, gx_r 383), (1, .inl e)], [.inl b23, gx_r 383], t129, n, 0)) rfl (fun _ => rfl) rfl ?_
          by_cases hc32 : b23 = 0
          · refine gx_1t (c := .eq) rfl (by first | decide | omega) hc32 rfl ?_
            refine ex_go (S := (55, [(2, .inl b23), (0, gx_r 383), (1, .inl e)], [.inl 5, gx_r 383], t129, n, 0)) rfl (fun _ => rfl) rfl ?_
            refine ex_go (S := (56, [(2, .inl b23), (0, gx_r 383), (1, .inl e)], [.inl 0, .inl 5, gx_r 383], t129, n, 0)) rfl (fun _ => rfl) rfl ?_
            obtain ⟨_, r133, t133, rfl, s133, e133, k133, ko133, kz133⟩ := pk_emit (d + l + 3) n (s129) (o := 5) (z := 0) (by first | decide | omega) (by first | decide | omega) (by first | decide | omega) k129
            have b133 := s133.2.2.2
            refine gx_call0 rfl rfl s129.1 rfl rfl r133 rfl ?_
            have k34 : ai_hv t133 383 21 = some (.inl fh) := (e133 383 21 (by first | decide | omega)).trans k31
            refine ex_go (S := (5, [(2, .inl b23), (0, gx_r 383), (1, .inl e)], [], t133, n, 0)) rfl (fun _ => rfl) rfl ?_
            exfalso; omega
          · refine gx_1f (c := .eq) rfl (by first | decide | omega) hc32 rfl ?_
            refine ex_go (S := (51, [(2, .inl b23), (0, gx_r 383), (1, .inl e)], [.inl 4, gx_r 383], t129, n, 0)) rfl (fun _ => rfl) rfl ?_
            refine ex_go (S := (55, [(2, .inl b23), (0, gx_r 383), (1, .inl e)], [.inl 4, gx_r 383], t129, n, 0)) rfl (fun _ => rfl) rfl ?_
            refine ex_go (S := (56, [(2, .inl b23), (0, gx_r 383), (1, .inl e)], [.inl 0, .inl 4, gx_r 383], t129, n, 0)) rfl (fun _ => rfl) rfl ?_
            obtain ⟨_, r135, t135, rfl, s135, e135, k135, ko135, kz135⟩ := pk_emit (d + l + 3) n (s129) (o := 4) (z := 0) (by first | decide | omega) (by first | decide | omega) (by first | decide | omega) k129
            have b135 := s135.2.2.2
            refine gx_call0 rfl rfl s129.1 rfl rfl r135 rfl ?_
            have k36 : ai_hv t135 383 21 = some (.inl fh) := (e135 383 21 (by first | decide | omega)).trans k31
            refine ex_go (S := (5, [(2, .inl b23), (0, gx_r 383), (1, .inl e)], [], t135, n, 0)) rfl (fun _ => rfl) rfl ?_
            exfalso; omega
  | succ j ih =>
    intro t0 a f c lx hlx hj hx hT ha kf
    have s0 := hx.1
    have kc := hx.2.2.1
    have q0 := hx.2.2.2.1
    have b0 := s0.2.2.2
    have hN := hT.2.2.2.2.1
    rcases hlx with rfl | ⟨bx, hbx, rfl⟩
    · show en_ex _ _ _ _ (5, [(0, gx_r 383), (1, .inl e)], [], t0, n, 0) _
      refine ex_go (S := (6, [(0, gx_r 383), (1, .inl e)], [gx_r 383], t0, n, 0)) rfl (fun _ => rfl) rfl ?_
      refine ex_go (S := (8, [(0, gx_r 383), (1, .inl e)], [.inl 43, gx_r 383], t0, n, 0)) rfl (fun _ => rfl) rfl ?_
      obtain ⟨_, r3, b1, rfl, q2⟩ := pe_isSign (d + l + 3) n (s0) hT (by first | decide | omega) (w := 43) (by first | decide | omega)
      refine gx_call1 rfl rfl s0.1 rfl rfl r3 rfl ?_
      have hlq2 : b1 = 1 → a < N := fun z => (q2.2.mp z).2.1
      by_cases hc4 : b1 ≠ 0
      · refine gx_1t (c := .ne) rfl (by first | decide | omega) hc4 rfl ?_
        refine ex_go (S := (24, [(0, gx_r 383), (1, .inl e)], [gx_r 383], t0, n, 0)) rfl (fun _ => rfl) rfl ?_
        refine ex_go (S := (26, [(0, gx_r 383), (1, .inl e)], [.inl 43, gx_r 383], t0, n, 0)) rfl (fun _ => rfl) rfl ?_
        obtain ⟨_, r7, b5, rfl, q6⟩ := pe_isSign (d + l + 3) n (s0) hT (by first | decide | omega) (w := 43) (by first | decide | omega)
        refine gx_call1 rfl rfl s0.1 rfl rfl r7 rfl ?_
        have hlq6 : b5 = 1 → a < N := fun z => (q6.2.mp z).2.1
        refine ex_go (S := (30, [(2, .inl b5), (0, gx_r 383), (1, .inl e)], [], t0, n, 0)) rfl (fun _ => rfl) rfl ?_
        refine ex_go (S := (31, [(2, .inl b5), (0, gx_r 383), (1, .inl e)], [gx_r 383], t0, n, 0)) rfl (fun _ => rfl) rfl ?_
        refine ex_go (S := (32, [(2, .inl b5), (0, gx_r 383), (1, .inl e)], [gx_r 383, gx_r 383], t0, n, 0)) rfl (fun _ => rfl) rfl ?_
        refine gx_get rfl s0.1 rfl s0.2.1 rfl ?_
        refine ex_go (S := (36, [(2, .inl b5), (0, gx_r 383), (1, .inl e)], [.inl 1, .inl a, gx_r 383], t0, n, 0)) rfl (fun _ => rfl) rfl ?_
        refine ex_iadd rfl (by first | decide | omega) rfl ?_
        refine gx_put rfl s0.1 rfl rfl (ai_in_h (by first | decide | omega) (by first | decide | omega) (by first | decide | omega)) rfl (fun t108 g108 k108 e108 => ?_)
        have k9 : ai_hv t108 383 13 = some (.inl c) := (e108 383 13 (by first | decide | omega)).trans kc
        have k10 : ai_hv t108 383 21 = some (.inl fh) := (e108 383 21 (by first | decide | omega)).trans kf
        have s108 : px_S t108 (a + 1) f := ⟨g108, k108, (e108 383 8 (by first | decide | omega)).trans s0.2.2.1, by omega, s0.2.2.2.2⟩
        refine ex_go (S := (41, [(2, .inl b5), (0, gx_r 383), (1, .inl e)], [gx_r 383], t108, n, 0)) rfl (fun _ => rfl) rfl ?_
        refine ex_go (S := (42, [(2, .inl b5), (0, gx_r 383), (1, .inl e)], [.inl e, gx_r 383], t108, n, 0)) rfl (fun _ => rfl) rfl ?_
        have hT12 := rT_keep (t' := t108) hT (fun c i h => e108 c i (by first | decide | omega))
        obtain ⟨_, r111, t111, a111, f111, c111, rfl, x111, w111, wa111, y111⟩ := h d n _ _ _ _ s108 hT12 (by first | decide | omega) k9 (by first | decide | omega) k10
        have s111 := x111.1
        have e111 := x111.2.1
        have k111 := x111.2.2.1
        have q111 := x111.2.2.2.1
        have b111 := s111.2.2.2
        refine gx_call0 rfl rfl s108.1 rfl rfl r111 rfl ?_
        have k13 : ai_hv t111 383 21 = some (.inl fh) := (e111 383 21 (by first | decide | omega)).trans k10
        refine ex_go (S := (46, [(2, .inl b5), (0, gx_r 383), (1, .inl e)], [gx_r 383], t111, n, 0)) rfl (fun _ => rfl) rfl ?_
        refine ex_go (S := (47, [(2, .inl b5), (0, gx_r 383), (1, .inl e)], [.inl b5, gx_r 383], t111, n, 0)) rfl (fun _ => rfl) rfl ?_
        by_cases hc14 : b5 = 0
        · refine gx_1t (c := .eq) rfl (by first | decide | omega) hc14 rfl ?_
          refine ex_go (S := (55, [(2, .inl b5), (0, gx_r 383), (1, .inl e)], [.inl 5, gx_r 383], t111, n, 0)) rfl (fun _ => rfl) rfl ?_
          refine ex_go (S := (56, [(2, .inl b5), (0, gx_r 383), (1, .inl e)], [.inl 0, .inl 5, gx_r 383], t111, n, 0)) rfl (fun _ => rfl) rfl ?_
          obtain ⟨_, r115, t115, rfl, s115, e115, k115, ko115, kz115⟩ := pk_emit (d + l + 3) n (s111) (o := 5) (z := 0) (by first | decide | omega) (by first | decide | omega) (by first | decide | omega) k111
          have b115 := s115.2.2.2
          refine gx_call0 rfl rfl s111.1 rfl rfl r115 rfl ?_
          have k16 : ai_hv t115 383 21 = some (.inl fh) := (e115 383 21 (by first | decide | omega)).trans k13
          refine ex_go (S := (5, [(2, .inl b5), (0, gx_r 383), (1, .inl e)], [], t115, n, 0)) rfl (fun _ => rfl) rfl ?_
          have hpf : f = 0 := by have := (q2.2.mp (by first | decide | omega)).1; omega
          have hoc := oc_43 (a := a) (q2.2.mp (by first | decide | omega)).2
          have hop : sp_op S m N 2 a := sp_op_2.mpr (Or.inl (q2.2.mp (by first | decide | omega)).2)
          exact absurd (q6.2.mpr (q2.2.mp (by first | decide | omega))) (by first | decide | omega)
        · refine gx_1f (c := .eq) rfl (by first | decide | omega) hc14 rfl ?_
          refine ex_go (S := (51, [(2, .inl b5), (0, gx_r 383), (1, .inl e)], [.inl 4, gx_r 383], t111, n, 0)) rfl (fun _ => rfl) rfl ?_
          refine ex_go (S := (55, [(2, .inl b5), (0, gx_r 383), (1, .inl e)], [.inl 4, gx_r 383], t111, n, 0)) rfl (fun _ => rfl) rfl ?_
          refine ex_go (S := (56, [(2, .inl b5), (0, gx_r 383), (1, .inl e)], [.inl 0, .inl 4, gx_r 383], t111, n, 0)) rfl (fun _ => rfl) rfl ?_
          obtain ⟨_, r117, t117, rfl, s117, e117, k117, ko117, kz117⟩ := pk_emit (d + l + 3) n (s111) (o := 4) (z := 0) (by first | decide | omega) (by first | decide | omega) (by first | decide | omega) k111
          have b117 := s117.2.2.2
          refine gx_call0 rfl rfl s111.1 rfl rfl r117 rfl ?_
          have k18 : ai_hv t117 383 21 = some (.inl fh) := (e117 383 21 (by first | decide | omega)).trans k13
          refine ex_go (S := (5, [(2, .inl b5), (0, gx_r 383), (1, .inl e)], [], t117, n, 0)) rfl (fun _ => rfl) rfl ?_
          have hpf : f = 0 := by have := (q2.2.mp (by first | decide | omega)).1; omega
          have hoc := oc_43 (a := a) (q2.2.mp (by first | decide | omega)).2
          have hop : sp_op S m N 2 a := sp_op_2.mpr (Or.inl (q2.2.mp (by first | decide | omega)).2)
          have w9 : Ev S m N fh 3 e (a + 1, 0) (a111, f111) := Ev_at w111 (by show a + 1 = a + 1; omega) (by show f = 0; omega)
          subst hpf
          have hT19 := rT_keep (t' := t117) hT (fun c i h => (e117 c i (by first | decide | omega)).trans ((e111 c i (by first | decide | omega)).trans (e108 c i (by first | decide | omega))))
          refine ex_imp (fun o9 h9 => ?_) (ih t117 a111 f111 (c111 + 1) [(2, .inl b5)] (Or.inr ⟨b5, by omega, rfl⟩) (by first | decide | omega) (px_X_bin hx rfl (by first | decide | omega) (fun c i h => e108 c i (by first | decide | omega)) x111 (by first | decide | omega) s117 e117 k117 ko117 kz117) hT19 (by first | decide | omega) k18)
          obtain ⟨r9, g0, t9, a9, f9, c9, g1, g2, g3, g4, g5, g6, g7⟩ := h9
          refine ⟨r9, g0, t9, a9, f9, c9, g1, g2, Ev_more (by first | decide | omega) (by first | decide | omega) hop w9 g3, g4, (fun c8 i8 h8 => (g5 c8 i8 (by first | decide | omega)).trans ((e117 c8 i8 (by first | decide | omega)).trans ((e111 c8 i8 (by first | decide | omega)).trans (e108 c8 i8 (by first | decide | omega))))), (fun _ => rfl), fun z9 => ?_⟩
          obtain ⟨L1, d1, l1, m1⟩ := y111 (g6 z9)
          obtain ⟨L2, d2, l2, m2⟩ := g7 z9
          have d1 := Ec_at (p' := (a + 1, 0)) d1 (by show a + 1 = a + 1; omega) (by first | rfl | (show f = 0; omega))
          refine ⟨L1 ++ ([sp_oc S m N a] ++ L2), Ec_more (by first | decide | omega) (by first | decide | omega) hop w9 d1 d2, ?_, ?_⟩
          · rw [List.length_append, List.length_append]
            show _ = c + (L1.length + (1 + L2.length))
            omega
          · refine rLs_app (rLs_keep m1 (fun c8 i8 h7 h8 => (g5 c8 i8 (by first | decide | omega)).trans (e117 c8 i8 (by first | decide | omega)))) (rLs_app (rLs_one (o := 4) (z := 0) ?_ ?_ (by rw [hoc]; rfl) (by rw [hoc]; rfl)) ?_)
            · rw [← l1]; exact (g5 _ _ (by first | decide | omega)).trans ko117
            · rw [← l1]; exact (g5 _ _ (by first | decide | omega)).trans kz117
            · rw [show c + L1.length + [sp_oc S m N a].length = c111 + 1 from by rw [← l1]; rfl]; exact m2
      · refine gx_1f (c := .ne) rfl (by first | decide | omega) hc4 rfl ?_
        refine ex_go (S := (15, [(0, gx_r 383), (1, .inl e)], [gx_r 383], t0, n, 0)) rfl (fun _ => rfl) rfl ?_
        refine ex_go (S := (17, [(0, gx_r 383), (1, .inl e)], [.inl 45, gx_r 383], t0, n, 0)) rfl (fun _ => rfl) rfl ?_
        obtain ⟨_, r22, b20, rfl, q21⟩ := pe_isSign (d + l + 3) n (s0) hT (by first | decide | omega) (w := 45) (by first | decide | omega)
        refine gx_call1 rfl rfl s0.1 rfl rfl r22 rfl ?_
        have hlq21 : b20 = 1 → a < N := fun z => (q21.2.mp z).2.1
        by_cases hc23 : b20 = 0
        · refine gx_1t (c := .eq) rfl (by first | decide | omega) hc23 rfl ?_
          refine ex_ret (r := (none, t0, n, 0)) rfl (fun _ => rfl) ?_
          have hno : f = 0 → ¬ sp_op S m N 2 a := fun hf z => by
              rcases sp_op_2.mp z with z | z
              · exact absurd (q2.2.mpr ⟨hf, z⟩) (by first | decide | omega)
              · exact absurd (q21.2.mpr ⟨hf, z⟩) (by first | decide | omega)
          exact ⟨_, rfl, t0, a, f, c, rfl, px_X_same hx (fun _ _ _ => rfl) s0 (by first | decide | omega) (by first | decide | omega), Ev_to (Ev_exit (by first | decide | omega) hno) (by show a = a; omega) (by show f = f; omega), by omega, (fun _ _ _ => rfl), (fun z => by omega), fun z => ⟨[], Ec_exit (by first | decide | omega) hno (by first | decide | omega), rfl, rLs_nil⟩⟩
        · refine gx_1f (c := .eq) rfl (by first | decide | omega) hc23 rfl ?_
          refine ex_go (S := (24, [(0, gx_r 383), (1, .inl e)], [gx_r 383], t0, n, 0)) rfl (fun _ => rfl) rfl ?_
          refine ex_go (S := (26, [(0, gx_r 383), (1, .inl e)], [.inl 43, gx_r 383], t0, n, 0)) rfl (fun _ => rfl) rfl ?_
          obtain ⟨_, r26, b24, rfl, q25⟩ := pe_isSign (d + l + 3) n (s0) hT (by first | decide | omega) (w := 43) (by first | decide | omega)
          refine gx_call1 rfl rfl s0.1 rfl rfl r26 rfl ?_
          have hlq25 : b24 = 1 → a < N := fun z => (q25.2.mp z).2.1
          refine ex_go (S := (30, [(2, .inl b24), (0, gx_r 383), (1, .inl e)], [], t0, n, 0)) rfl (fun _ => rfl) rfl ?_
          refine ex_go (S := (31, [(2, .inl b24), (0, gx_r 383), (1, .inl e)], [gx_r 383], t0, n, 0)) rfl (fun _ => rfl) rfl ?_
          refine ex_go (S := (32, [(2, .inl b24), (0, gx_r 383), (1, .inl e)], [gx_r 383, gx_r 383], t0, n, 0)) rfl (fun _ => rfl) rfl ?_
          refine gx_get rfl s0.1 rfl s0.2.1 rfl ?_
          refine ex_go (S := (36, [(2, .inl b24), (0, gx_r 383), (1, .inl e)], [.inl 1, .inl a, gx_r 383], t0, n, 0)) rfl (fun _ => rfl) rfl ?_
          refine ex_iadd rfl (by first | decide | omega) rfl ?_
          refine gx_put rfl s0.1 rfl rfl (ai_in_h (by first | decide | omega) (by first | decide | omega) (by first | decide | omega)) rfl (fun t127 g127 k127 e127 => ?_)
          have k28 : ai_hv t127 383 13 = some (.inl c) := (e127 383 13 (by first | decide | omega)).trans kc
          have k29 : ai_hv t127 383 21 = some (.inl fh) := (e127 383 21 (by first | decide | omega)).trans kf
          have s127 : px_S t127 (a + 1) f := ⟨g127, k127, (e127 383 8 (by first | decide | omega)).trans s0.2.2.1, by omega, s0.2.2.2.2⟩
          refine ex_go (S := (41, [(2, .inl b24), (0, gx_r 383), (1, .inl e)], [gx_r 383], t127, n, 0)) rfl (fun _ => rfl) rfl ?_
          refine ex_go (S := (42, [(2, .inl b24), (0, gx_r 383), (1, .inl e)], [.inl e, gx_r 383], t127, n, 0)) rfl (fun _ => rfl) rfl ?_
          have hT31 := rT_keep (t' := t127) hT (fun c i h => e127 c i (by first | decide | omega))
          obtain ⟨_, r130, t130, a130, f130, c130, rfl, x130, w130, wa130, y130⟩ := h d n _ _ _ _ s127 hT31 (by first | decide | omega) k28 (by first | decide | omega) k29
          have s130 := x130.1
          have e130 := x130.2.1
          have k130 := x130.2.2.1
          have q130 := x130.2.2.2.1
          have b130 := s130.2.2.2
          refine gx_call0 rfl rfl s127.1 rfl rfl r130 rfl ?_
          have k32 : ai_hv t130 383 21 = some (.inl fh) := (e130 383 21 (by first | decide | omega)).trans k29
          refine ex_go (S := (46, [(2, .inl b24), (0, gx_r 383), (1, .inl e)], [gx_r 383], t130, n, 0)) rfl (fun _ => rfl) rfl ?_
          refine ex_go (S := (47, [(2, .inl b24), (0, gx_r 383), (1, .inl e)], [.inl b24, gx_r 383], t130, n, 0)) rfl (fun _ => rfl) rfl ?_
          by_cases hc33 : b24 = 0
          · refine gx_1t (c := .eq) rfl (by first | decide | omega) hc33 rfl ?_
            refine ex_go (S := (55, [(2, .inl b24), (0, gx_r 383), (1, .inl e)], [.inl 5, gx_r 383], t130, n, 0)) rfl (fun _ => rfl) rfl ?_
            refine ex_go (S := (56, [(2, .inl b24), (0, gx_r 383), (1, .inl e)], [.inl 0, .inl 5, gx_r 383], t130, n, 0)) rfl (fun _ => rfl) rfl ?_
            obtain ⟨_, r134, t134, rfl, s134, e134, k134, ko134, kz134⟩ := pk_emit (d + l + 3) n (s130) (o := 5) (z := 0) (by first | decide | omega) (by first | decide | omega) (by first | decide | omega) k130
            have b134 := s134.2.2.2
            refine gx_call0 rfl rfl s130.1 rfl rfl r134 rfl ?_
            have k35 : ai_hv t134 383 21 = some (.inl fh) := (e134 383 21 (by first | decide | omega)).trans k32
            refine ex_go (S := (5, [(2, .inl b24), (0, gx_r 383), (1, .inl e)], [], t134, n, 0)) rfl (fun _ => rfl) rfl ?_
            have hpf : f = 0 := by have := (q21.2.mp (by first | decide | omega)).1; omega
            have hoc := oc_45 (a := a) (q21.2.mp (by first | decide | omega)).2
            have hop : sp_op S m N 2 a := sp_op_2.mpr (Or.inr (q21.2.mp (by first | decide | omega)).2)
            have w9 : Ev S m N fh 3 e (a + 1, 0) (a130, f130) := Ev_at w130 (by show a + 1 = a + 1; omega) (by show f = 0; omega)
            subst hpf
            have hT36 := rT_keep (t' := t134) hT (fun c i h => (e134 c i (by first | decide | omega)).trans ((e130 c i (by first | decide | omega)).trans (e127 c i (by first | decide | omega))))
            refine ex_imp (fun o9 h9 => ?_) (ih t134 a130 f130 (c130 + 1) [(2, .inl b24)] (Or.inr ⟨b24, by omega, rfl⟩) (by first | decide | omega) (px_X_bin hx rfl (by first | decide | omega) (fun c i h => e127 c i (by first | decide | omega)) x130 (by first | decide | omega) s134 e134 k134 ko134 kz134) hT36 (by first | decide | omega) k35)
            obtain ⟨r9, g0, t9, a9, f9, c9, g1, g2, g3, g4, g5, g6, g7⟩ := h9
            refine ⟨r9, g0, t9, a9, f9, c9, g1, g2, Ev_more (by first | decide | omega) (by first | decide | omega) hop w9 g3, g4, (fun c8 i8 h8 => (g5 c8 i8 (by first | decide | omega)).trans ((e134 c8 i8 (by first | decide | omega)).trans ((e130 c8 i8 (by first | decide | omega)).trans (e127 c8 i8 (by first | decide | omega))))), (fun _ => rfl), fun z9 => ?_⟩
            obtain ⟨L1, d1, l1, m1⟩ := y130 (g6 z9)
            obtain ⟨L2, d2, l2, m2⟩ := g7 z9
            have d1 := Ec_at (p' := (a + 1, 0)) d1 (by show a + 1 = a + 1; omega) (by first | rfl | (show f = 0; omega))
            refine ⟨L1 ++ ([sp_oc S m N a] ++ L2), Ec_more (by first | decide | omega) (by first | decide | omega) hop w9 d1 d2, ?_, ?_⟩
            · rw [List.length_append, List.length_append]
              show _ = c + (L1.length + (1 + L2.length))
              omega
            · refine rLs_app (rLs_keep m1 (fun c8 i8 h7 h8 => (g5 c8 i8 (by first | decide | omega)).trans (e134 c8 i8 (by first | decide | omega)))) (rLs_app (rLs_one (o := 5) (z := 0) ?_ ?_ (by rw [hoc]; rfl) (by rw [hoc]; rfl)) ?_)
              · rw [← l1]; exact (g5 _ _ (by first | decide | omega)).trans ko134
              · rw [← l1]; exact (g5 _ _ (by first | decide | omega)).trans kz134
              · rw [show c + L1.length + [sp_oc S m N a].length = c130 + 1 from by rw [← l1]; rfl]; exact m2
          · refine gx_1f (c := .eq) rfl (by first | decide | omega) hc33 rfl ?_
            refine ex_go (S := (51, [(2, .inl b24), (0, gx_r 383), (1, .inl e)], [.inl 4, gx_r 383], t130, n, 0)) rfl (fun _ => rfl) rfl ?_
            refine ex_go (S := (55, [(2, .inl b24), (0, gx_r 383), (1, .inl e)], [.inl 4, gx_r 383], t130, n, 0)) rfl (fun _ => rfl) rfl ?_
            refine ex_go (S := (56, [(2, .inl b24), (0, gx_r 383), (1, .inl e)], [.inl 0, .inl 4, gx_r 383], t130, n, 0)) rfl (fun _ => rfl) rfl ?_
            obtain ⟨_, r137, t137, rfl, s137, e137, k137, ko137, kz137⟩ := pk_emit (d + l + 3) n (s130) (o := 4) (z := 0) (by first | decide | omega) (by first | decide | omega) (by first | decide | omega) k130
            have b137 := s137.2.2.2
            refine gx_call0 rfl rfl s130.1 rfl rfl r137 rfl ?_
            have k38 : ai_hv t137 383 21 = some (.inl fh) := (e137 383 21 (by first | decide | omega)).trans k32
            refine ex_go (S := (5, [(2, .inl b24), (0, gx_r 383), (1, .inl e)], [], t137, n, 0)) rfl (fun _ => rfl) rfl ?_
            have hpf : f = 0 := by have := (q21.2.mp (by first | decide | omega)).1; omega
            have hoc := oc_45 (a := a) (q21.2.mp (by first | decide | omega)).2
            have hop : sp_op S m N 2 a := sp_op_2.mpr (Or.inr (q21.2.mp (by first | decide | omega)).2)
            exact absurd (q2.2.mpr (q25.2.mp (by first | decide | omega))) (by first | decide | omega)
    · show en_ex _ _ _ _ (5, [(2, .inl bx), (0, gx_r 383), (1, .inl e)], [], t0, n, 0) _
      refine ex_go (S := (6, [(2, .inl bx), (0, gx_r 383), (1, .inl e)], [gx_r 383], t0, n, 0)) rfl (fun _ => rfl) rfl ?_
      refine ex_go (S := (8, [(2, .inl bx), (0, gx_r 383), (1, .inl e)], [.inl 43, gx_r 383], t0, n, 0)) rfl (fun _ => rfl) rfl ?_
      obtain ⟨_, r3, b1, rfl, q2⟩ := pe_isSign (d + l + 3) n (s0) hT (by first | decide | omega) (w := 43) (by first | decide | omega)
      refine gx_call1 rfl rfl s0.1 rfl rfl r3 rfl ?_
      have hlq2 : b1 = 1 → a < N := fun z => (q2.2.mp z).2.1
      by_cases hc4 : b1 ≠ 0
      · refine gx_1t (c := .ne) rfl (by first | decide | omega) hc4 rfl ?_
        refine ex_go (S := (24, [(2, .inl bx), (0, gx_r 383), (1, .inl e)], [gx_r 383], t0, n, 0)) rfl (fun _ => rfl) rfl ?_
        refine ex_go (S := (26, [(2, .inl bx), (0, gx_r 383), (1, .inl e)], [.inl 43, gx_r 383], t0, n, 0)) rfl (fun _ => rfl) rfl ?_
        obtain ⟨_, r7, b5, rfl, q6⟩ := pe_isSign (d + l + 3) n (s0) hT (by first | decide | omega) (w := 43) (by first | decide | omega)
        refine gx_call1 rfl rfl s0.1 rfl rfl r7 rfl ?_
        have hlq6 : b5 = 1 → a < N := fun z => (q6.2.mp z).2.1
        refine ex_go (S := (30, [(2, .inl b5), (0, gx_r 383), (1, .inl e)], [], t0, n, 0)) rfl (fun _ => rfl) rfl ?_
        refine ex_go (S := (31, [(2, .inl b5), (0, gx_r 383), (1, .inl e)], [gx_r 383], t0, n, 0)) rfl (fun _ => rfl) rfl ?_
        refine ex_go (S := (32, [(2, .inl b5), (0, gx_r 383), (1, .inl e)], [gx_r 383, gx_r 383], t0, n, 0)) rfl (fun _ => rfl) rfl ?_
        refine gx_get rfl s0.1 rfl s0.2.1 rfl ?_
        refine ex_go (S := (36, [(2, .inl b5), (0, gx_r 383), (1, .inl e)], [.inl 1, .inl a, gx_r 383], t0, n, 0)) rfl (fun _ => rfl) rfl ?_
        refine ex_iadd rfl (by first | decide | omega) rfl ?_
        refine gx_put rfl s0.1 rfl rfl (ai_in_h (by first | decide | omega) (by first | decide | omega) (by first | decide | omega)) rfl (fun t108 g108 k108 e108 => ?_)
        have k9 : ai_hv t108 383 13 = some (.inl c) := (e108 383 13 (by first | decide | omega)).trans kc
        have k10 : ai_hv t108 383 21 = some (.inl fh) := (e108 383 21 (by first | decide | omega)).trans kf
        have s108 : px_S t108 (a + 1) f := ⟨g108, k108, (e108 383 8 (by first | decide | omega)).trans s0.2.2.1, by omega, s0.2.2.2.2⟩
        refine ex_go (S := (41, [(2, .inl b5), (0, gx_r 383), (1, .inl e)], [gx_r 383], t108, n, 0)) rfl (fun _ => rfl) rfl ?_
        refine ex_go (S := (42, [(2, .inl b5), (0, gx_r 383), (1, .inl e)], [.inl e, gx_r 383], t108, n, 0)) rfl (fun _ => rfl) rfl ?_
        have hT12 := rT_keep (t' := t108) hT (fun c i h => e108 c i (by first | decide | omega))
        obtain ⟨_, r111, t111, a111, f111, c111, rfl, x111, w111, wa111, y111⟩ := h d n _ _ _ _ s108 hT12 (by first | decide | omega) k9 (by first | decide | omega) k10
        have s111 := x111.1
        have e111 := x111.2.1
        have k111 := x111.2.2.1
        have q111 := x111.2.2.2.1
        have b111 := s111.2.2.2
        refine gx_call0 rfl rfl s108.1 rfl rfl r111 rfl ?_
        have k13 : ai_hv t111 383 21 = some (.inl fh) := (e111 383 21 (by first | decide | omega)).trans k10
        refine ex_go (S := (46, [(2, .inl b5), (0, gx_r 383), (1, .inl e)], [gx_r 383], t111, n, 0)) rfl (fun _ => rfl) rfl ?_
        refine ex_go (S := (47, [(2, .inl b5), (0, gx_r 383), (1, .inl e)], [.inl b5, gx_r 383], t111, n, 0)) rfl (fun _ => rfl) rfl ?_
        by_cases hc14 : b5 = 0
        · refine gx_1t (c := .eq) rfl (by first | decide | omega) hc14 rfl ?_
          refine ex_go (S := (55, [(2, .inl b5), (0, gx_r 383), (1, .inl e)], [.inl 5, gx_r 383], t111, n, 0)) rfl (fun _ => rfl) rfl ?_
          refine ex_go (S := (56, [(2, .inl b5), (0, gx_r 383), (1, .inl e)], [.inl 0, .inl 5, gx_r 383], t111, n, 0)) rfl (fun _ => rfl) rfl ?_
          obtain ⟨_, r115, t115, rfl, s115, e115, k115, ko115, kz115⟩ := pk_emit (d + l + 3) n (s111) (o := 5) (z := 0) (by first | decide | omega) (by first | decide | omega) (by first | decide | omega) k111
          have b115 := s115.2.2.2
          refine gx_call0 rfl rfl s111.1 rfl rfl r115 rfl ?_
          have k16 : ai_hv t115 383 21 = some (.inl fh) := (e115 383 21 (by first | decide | omega)).trans k13
          refine ex_go (S := (5, [(2, .inl b5), (0, gx_r 383), (1, .inl e)], [], t115, n, 0)) rfl (fun _ => rfl) rfl ?_
          have hpf : f = 0 := by have := (q2.2.mp (by first | decide | omega)).1; omega
          have hoc := oc_43 (a := a) (q2.2.mp (by first | decide | omega)).2
          have hop : sp_op S m N 2 a := sp_op_2.mpr (Or.inl (q2.2.mp (by first | decide | omega)).2)
          exact absurd (q6.2.mpr (q2.2.mp (by first | decide | omega))) (by first | decide | omega)
        · refine gx_1f (c := .eq) rfl (by first | decide | omega) hc14 rfl ?_
          refine ex_go (S := (51, [(2, .inl b5), (0, gx_r 383), (1, .inl e)], [.inl 4, gx_r 383], t111, n, 0)) rfl (fun _ => rfl) rfl ?_
          refine ex_go (S := (55, [(2, .inl b5), (0, gx_r 383), (1, .inl e)], [.inl 4, gx_r 383], t111, n, 0)) rfl (fun _ => rfl) rfl ?_
          refine ex_go (S := (56, [(2, .inl b5), (0, gx_r 383), (1, .inl e)], [.inl 0, .inl 4, gx_r 383], t111, n, 0)) rfl (fun _ => rfl) rfl ?_
          obtain ⟨_, r117, t117, rfl, s117, e117, k117, ko117, kz117⟩ := pk_emit (d + l + 3) n (s111) (o := 4) (z := 0) (by first | decide | omega) (by first | decide | omega) (by first | decide | omega) k111
          have b117 := s117.2.2.2
          refine gx_call0 rfl rfl s111.1 rfl rfl r117 rfl ?_
          have k18 : ai_hv t117 383 21 = some (.inl fh) := (e117 383 21 (by first | decide | omega)).trans k13
          refine ex_go (S := (5, [(2, .inl b5), (0, gx_r 383), (1, .inl e)], [], t117, n, 0)) rfl (fun _ => rfl) rfl ?_
          have hpf : f = 0 := by have := (q2.2.mp (by first | decide | omega)).1; omega
          have hoc := oc_43 (a := a) (q2.2.mp (by first | decide | omega)).2
          have hop : sp_op S m N 2 a := sp_op_2.mpr (Or.inl (q2.2.mp (by first | decide | omega)).2)
          have w9 : Ev S m N fh 3 e (a + 1, 0) (a111, f111) := Ev_at w111 (by show a + 1 = a + 1; omega) (by show f = 0; omega)
          subst hpf
          have hT19 := rT_keep (t' := t117) hT (fun c i h => (e117 c i (by first | decide | omega)).trans ((e111 c i (by first | decide | omega)).trans (e108 c i (by first | decide | omega))))
          refine ex_imp (fun o9 h9 => ?_) (ih t117 a111 f111 (c111 + 1) [(2, .inl b5)] (Or.inr ⟨b5, by omega, rfl⟩) (by first | decide | omega) (px_X_bin hx rfl (by first | decide | omega) (fun c i h => e108 c i (by first | decide | omega)) x111 (by first | decide | omega) s117 e117 k117 ko117 kz117) hT19 (by first | decide | omega) k18)
          obtain ⟨r9, g0, t9, a9, f9, c9, g1, g2, g3, g4, g5, g6, g7⟩ := h9
          refine ⟨r9, g0, t9, a9, f9, c9, g1, g2, Ev_more (by first | decide | omega) (by first | decide | omega) hop w9 g3, g4, (fun c8 i8 h8 => (g5 c8 i8 (by first | decide | omega)).trans ((e117 c8 i8 (by first | decide | omega)).trans ((e111 c8 i8 (by first | decide | omega)).trans (e108 c8 i8 (by first | decide | omega))))), (fun _ => rfl), fun z9 => ?_⟩
          obtain ⟨L1, d1, l1, m1⟩ := y111 (g6 z9)
          obtain ⟨L2, d2, l2, m2⟩ := g7 z9
          have d1 := Ec_at (p' := (a + 1, 0)) d1 (by show a + 1 = a + 1; omega) (by first | rfl | (show f = 0; omega))
          refine ⟨L1 ++ ([sp_oc S m N a] ++ L2), Ec_more (by first | decide | omega) (by first | decide | omega) hop w9 d1 d2, ?_, ?_⟩
          · rw [List.length_append, List.length_append]
            show _ = c + (L1.length + (1 + L2.length))
            omega
          · refine rLs_app (rLs_keep m1 (fun c8 i8 h7 h8 => (g5 c8 i8 (by first | decide | omega)).trans (e117 c8 i8 (by first | decide | omega)))) (rLs_app (rLs_one (o := 4) (z := 0) ?_ ?_ (by rw [hoc]; rfl) (by rw [hoc]; rfl)) ?_)
            · rw [← l1]; exact (g5 _ _ (by first | decide | omega)).trans ko117
            · rw [← l1]; exact (g5 _ _ (by first | decide | omega)).trans kz117
            · rw [show c + L1.length + [sp_oc S m N a].length = c111 + 1 from by rw [← l1]; rfl]; exact m2
      · refine gx_1f (c := .ne) rfl (by first | decide | omega) hc4 rfl ?_
        refine ex_go (S := (15, [(2, .inl bx), (0, gx_r 383), (1, .inl e)], [gx_r 383], t0, n, 0)) rfl (fun _ => rfl) rfl ?_
        refine ex_go (S := (17, [(2, .inl bx), (0, gx_r 383), (1, .inl e)], [.inl 45, gx_r 383], t0, n, 0)) rfl (fun _ => rfl) rfl ?_
        obtain ⟨_, r22, b20, rfl, q21⟩ := pe_isSign (d + l + 3) n (s0) hT (by first | decide | omega) (w := 45) (by first | decide | omega)
        refine gx_call1 rfl rfl s0.1 rfl rfl r22 rfl ?_
        have hlq21 : b20 = 1 → a < N := fun z => (q21.2.mp z).2.1
        by_cases hc23 : b20 = 0
        · refine gx_1t (c := .eq) rfl (by first | decide | omega) hc23 rfl ?_
          refine ex_ret (r := (none, t0, n, 0)) rfl (fun _ => rfl) ?_
          have hno : f = 0 → ¬ sp_op S m N 2 a := fun hf z => by
              rcases sp_op_2.mp z with z | z
              · exact absurd (q2.2.mpr ⟨hf, z⟩) (by first | decide | omega)
              · exact absurd (q21.2.mpr ⟨hf, z⟩) (by first | decide | omega)
          exact ⟨_, rfl, t0, a, f, c, rfl, px_X_same hx (fun _ _ _ => rfl) s0 (by first | decide | omega) (by first | decide | omega), Ev_to (Ev_exit (by first | decide | omega) hno) (by show a = a; omega) (by show f = f; omega), by omega, (fun _ _ _ => rfl), (fun z => by omega), fun z => ⟨[], Ec_exit (by first | decide | omega) hno (by first | decide | omega), rfl, rLs_nil⟩⟩
        · refine gx_1f (c := .eq) rfl (by first | decide | omega) hc23 rfl ?_
          refine ex_go (S := (24, [(2, .inl bx), (0, gx_r 383), (1, .inl e)], [gx_r 383], t0, n, 0)) rfl (fun _ => rfl) rfl ?_
          refine ex_go (S := (26, [(2, .inl bx), (0, gx_r 383), (1, .inl e)], [.inl 43, gx_r 383], t0, n, 0)) rfl (fun _ => rfl) rfl ?_
          obtain ⟨_, r26, b24, rfl, q25⟩ := pe_isSign (d + l + 3) n (s0) hT (by first | decide | omega) (w := 43) (by first | decide | omega)
          refine gx_call1 rfl rfl s0.1 rfl rfl r26 rfl ?_
          have hlq25 : b24 = 1 → a < N := fun z => (q25.2.mp z).2.1
          refine ex_go (S := (30, [(2, .inl b24), (0, gx_r 383), (1, .inl e)], [], t0, n, 0)) rfl (fun _ => rfl) rfl ?_
          refine ex_go (S := (31, [(2, .inl b24), (0, gx_r 383), (1, .inl e)], [gx_r 383], t0, n, 0)) rfl (fun _ => rfl) rfl ?_
          refine ex_go (S := (32, [(2, .inl b24), (0, gx_r 383), (1, .inl e)], [gx_r 383, gx_r 383], t0, n, 0)) rfl (fun _ => rfl) rfl ?_
          refine gx_get rfl s0.1 rfl s0.2.1 rfl ?_
          refine ex_go (S := (36, [(2, .inl b24), (0, gx_r 383), (1, .inl e)], [.inl 1, .inl a, gx_r 383], t0, n, 0)) rfl (fun _ => rfl) rfl ?_
          refine ex_iadd rfl (by first | decide | omega) rfl ?_
          refine gx_put rfl s0.1 rfl rfl (ai_in_h (by first | decide | omega) (by first | decide | omega) (by first | decide | omega)) rfl (fun t127 g127 k127 e127 => ?_)
          have k28 : ai_hv t127 383 13 = some (.inl c) := (e127 383 13 (by first | decide | omega)).trans kc
          have k29 : ai_hv t127 383 21 = some (.inl fh) := (e127 383 21 (by first | decide | omega)).trans kf
          have s127 : px_S t127 (a + 1) f := ⟨g127, k127, (e127 383 8 (by first | decide | omega)).trans s0.2.2.1, by omega, s0.2.2.2.2⟩
          refine ex_go (S := (41, [(2, .inl b24), (0, gx_r 383), (1, .inl e)], [gx_r 383], t127, n, 0)) rfl (fun _ => rfl) rfl ?_
          refine ex_go (S := (42, [(2, .inl b24), (0, gx_r 383), (1, .inl e)], [.inl e, gx_r 383], t127, n, 0)) rfl (fun _ => rfl) rfl ?_
          have hT31 := rT_keep (t' := t127) hT (fun c i h => e127 c i (by first | decide | omega))
          obtain ⟨_, r130, t130, a130, f130, c130, rfl, x130, w130, wa130, y130⟩ := h d n _ _ _ _ s127 hT31 (by first | decide | omega) k28 (by first | decide | omega) k29
          have s130 := x130.1
          have e130 := x130.2.1
          have k130 := x130.2.2.1
          have q130 := x130.2.2.2.1
          have b130 := s130.2.2.2
          refine gx_call0 rfl rfl s127.1 rfl rfl r130 rfl ?_
          have k32 : ai_hv t130 383 21 = some (.inl fh) := (e130 383 21 (by first | decide | omega)).trans k29
          refine ex_go (S := (46, [(2, .inl b24), (0, gx_r 383), (1, .inl e)], [gx_r 383], t130, n, 0)) rfl (fun _ => rfl) rfl ?_
          refine ex_go (S := (47, [(2, .inl b24), (0, gx_r 383), (1, .inl e)], [.inl b24, gx_r 383], t130, n, 0)) rfl (fun _ => rfl) rfl ?_
          by_cases hc33 : b24 = 0
          · refine gx_1t (c := .eq) rfl (by first | decide | omega) hc33 rfl ?_
            refine ex_go (S := (55, [(2, .inl b24), (0, gx_r 383), (1, .inl e)], [.inl 5, gx_r 383], t130, n, 0)) rfl (fun _ => rfl) rfl ?_
            refine ex_go (S := (56, [(2, .inl b24), (0, gx_r 383), (1, .inl e)], [.inl 0, .inl 5, gx_r 383], t130, n, 0)) rfl (fun _ => rfl) rfl ?_
            obtain ⟨_, r134, t134, rfl, s134, e134, k134, ko134, kz134⟩ := pk_emit (d + l + 3) n (s130) (o := 5) (z := 0) (by first | decide | omega) (by first | decide | omega) (by first | decide | omega) k130
            have b134 := s134.2.2.2
            refine gx_call0 rfl rfl s130.1 rfl rfl r134 rfl ?_
            have k35 : ai_hv t134 383 21 = some (.inl fh) := (e134 383 21 (by first | decide | omega)).trans k32
            refine ex_go (S := (5, [(2, .inl b24), (0, gx_r 383), (1, .inl e)], [], t134, n, 0)) rfl (fun _ => rfl) rfl ?_
            have hpf : f = 0 := by have := (q21.2.mp (by first | decide | omega)).1; omega
            have hoc := oc_45 (a := a) (q21.2.mp (by first | decide | omega)).2
            have hop : sp_op S m N 2 a := sp_op_2.mpr (Or.inr (q21.2.mp (by first | decide | omega)).2)
            have w9 : Ev S m N fh 3 e (a + 1, 0) (a130, f130) := Ev_at w130 (by show a + 1 = a + 1; omega) (by show f = 0; omega)
            subst hpf
            have hT36 := rT_keep (t' := t134) hT (fun c i h => (e134 c i (by first | decide | omega)).trans ((e130 c i (by first | decide | omega)).trans (e127 c i (by first | decide | omega))))
            refine ex_imp (fun o9 h9 => ?_) (ih t134 a130 f130 (c130 + 1) [(2, .inl b24)] (Or.inr ⟨b24, by omega, rfl⟩) (by first | decide | omega) (px_X_bin hx rfl (by first | decide | omega) (fun c i h => e127 c i (by first | decide | omega)) x130 (by first | decide | omega) s134 e134 k134 ko134 kz134) hT36 (by first | decide | omega) k35)
            obtain ⟨r9, g0, t9, a9, f9, c9, g1, g2, g3, g4, g5, g6, g7⟩ := h9
            refine ⟨r9, g0, t9, a9, f9, c9, g1, g2, Ev_more (by first | decide | omega) (by first | decide | omega) hop w9 g3, g4, (fun c8 i8 h8 => (g5 c8 i8 (by first | decide | omega)).trans ((e134 c8 i8 (by first | decide | omega)).trans ((e130 c8 i8 (by first | decide | omega)).trans (e127 c8 i8 (by first | decide | omega))))), (fun _ => rfl), fun z9 => ?_⟩
            obtain ⟨L1, d1, l1, m1⟩ := y130 (g6 z9)
            obtain ⟨L2, d2, l2, m2⟩ := g7 z9
            have d1 := Ec_at (p' := (a + 1, 0)) d1 (by show a + 1 = a + 1; omega) (by first | rfl | (show f = 0; omega))
            refine ⟨L1 ++ ([sp_oc S m N a] ++ L2), Ec_more (by first | decide | omega) (by first | decide | omega) hop w9 d1 d2, ?_, ?_⟩
            · rw [List.length_append, List.length_append]
              show _ = c + (L1.length + (1 + L2.length))
              omega
            · refine rLs_app (rLs_keep m1 (fun c8 i8 h7 h8 => (g5 c8 i8 (by first | decide | omega)).trans (e134 c8 i8 (by first | decide | omega)))) (rLs_app (rLs_one (o := 5) (z := 0) ?_ ?_ (by rw [hoc]; rfl) (by rw [hoc]; rfl)) ?_)
              · rw [← l1]; exact (g5 _ _ (by first | decide | omega)).trans ko134
              · rw [← l1]; exact (g5 _ _ (by first | decide | omega)).trans kz134
              · rw [show c + L1.length + [sp_oc S m N a].length = c130 + 1 from by rw [← l1]; rfl]; exact m2
          · refine gx_1f (c := .eq) rfl (by first | decide | omega) hc33 rfl ?_
            refine ex_go (S := (51, [(2, .inl b24), (0, gx_r 383), (1, .inl e)], [.inl 4, gx_r 383], t130, n, 0)) rfl (fun _ => rfl) rfl ?_
            refine ex_go (S := (55, [(2, .inl b24), (0, gx_r 383), (1, .inl e)], [.inl 4, gx_r 383], t130, n, 0)) rfl (fun _ => rfl) rfl ?_
            refine ex_go (S := (56, [(2, .inl b24), (0, gx_r 383), (1, .inl e)], [.inl 0, .inl 4, gx_r 383], t130, n, 0)) rfl (fun _ => rfl) rfl ?_
            obtain ⟨_, r137, t137, rfl, s137, e137, k137, ko137, kz137⟩ := pk_emit (d + l + 3) n (s130) (o := 4) (z := 0) (by first | decide | omega) (by first | decide | omega) (by first | decide | omega) k130
            have b137 := s137.2.2.2
            refine gx_call0 rfl rfl s130.1 rfl rfl r137 rfl ?_
            have k38 : ai_hv t137 383 21 = some (.inl fh) := (e137 383 21 (by first | decide | omega)).trans k32
            refine ex_go (S := (5, [(2, .inl b24), (0, gx_r 383), (1, .inl e)], [], t137, n, 0)) rfl (fun _ => rfl) rfl ?_
            have hpf : f = 0 := by have := (q21.2.mp (by first | decide | omega)).1; omega
            have hoc := oc_45 (a := a) (q21.2.mp (by first | decide | omega)).2
            have hop : sp_op S m N 2 a := sp_op_2.mpr (Or.inr (q21.2.mp (by first | decide | omega)).2)
            exact absurd (q2.2.mpr (q25.2.mp (by first | decide | omega))) (by first | decide | omega)
theorem pe_sums {l e : Nat} (h : ∀ d, pe_C S m N fh (d + l + 4) 286 3 e) (he : e ≤ 5) (d : Nat) : pe_C S m N fh (d + l + 5) 282 2 e := by
  intro n t0 a f c s0 hT ha kc hca kf
  have b0 := s0.2.2.2
  have hN := hT.2.2.2.2.1
  refine en_u_ex (d := d + l + 4) rfl ?_
  show en_ex _ _ _ _ (0, [(0, gx_r 383), (1, .inl e)], [], t0, n, 0) _
  refine ex_go (S := (1, [(0, gx_r 383), (1, .inl e)], [gx_r 383], t0, n, 0)) rfl (fun _ => rfl) rfl ?_
  refine ex_go (S := (2, [(0, gx_r 383), (1, .inl e)], [.inl e, gx_r 383], t0, n, 0)) rfl (fun _ => rfl) rfl ?_
  obtain ⟨_, r101, t101, a101, f101, c101, rfl, x101, w101, wa101, y101⟩ := h d n _ _ _ _ s0 hT (by first | decide | omega) kc (by first | decide | omega) kf
  have s101 := x101.1
  have e101 := x101.2.1
  have k101 := x101.2.2.1
  have q101 := x101.2.2.2.1
  have b101 := s101.2.2.2
  refine gx_call0 rfl rfl s0.1 rfl rfl r101 rfl ?_
  have k2 : ai_hv t101 383 21 = some (.inl fh) := (e101 383 21 (by first | decide | omega)).trans kf
  have hT3 := rT_keep (t' := t101) hT (fun c i h => e101 c i (by first | decide | omega))
  refine ex_imp (fun o9 h9 => ?_) (pe_sums_l h he d n hca 1000 t101 a101 f101 c101 [] (Or.inl rfl) (by first | decide | omega) x101 hT3 (by first | decide | omega) k2)
  obtain ⟨r9, g0, t9, a9, f9, c9, g1, g2, g3, g4, g5, g6, g7⟩ := h9
  refine ⟨r9, g0, t9, a9, f9, c9, g1, g2, Ev_seq (by first | decide | omega) w101 g3, g4, fun z9 => ?_⟩
  obtain ⟨L1, d1, l1, m1⟩ := y101 (g6 z9)
  obtain ⟨L2, d2, l2, m2⟩ := g7 z9
  have hz9 := g6 z9
  exact ⟨L1 ++ L2, Ec_seq (by first | decide | omega) (by first | decide | omega) w101 d1 d2, by rw [List.length_append]; omega, rLs_app (rLs_keep m1 (fun c8 i8 h7 h8 => g5 c8 i8 (by first | decide | omega))) (by rw [← l1]; exact m2)⟩
theorem pe_test {l e : Nat} (h : ∀ d, pe_C S m N fh (d + l + 5) 282 2 e) (he : e ≤ 5) (d : Nat) : pe_C S m N fh (d + l + 6) 271 1 e := by
  intro n t0 a f c s0 hT ha kc hca kf
  have b0 := s0.2.2.2
  have hN := hT.2.2.2.2.1
  refine en_u_ex (d := d + l + 5) rfl ?_
  show en_ex _ _ _ _ (0, [(0, gx_r 383), (1, .inl e)], [], t0, n, 0) _
  refine ex_go (S := (1, [(0, gx_r 383), (1, .inl e)], [gx_r 383], t0, n, 0)) rfl (fun _ => rfl) rfl ?_
  refine ex_go (S := (2, [(0, gx_r 383), (1, .inl e)], [.inl e, gx_r 383], t0, n, 0)) rfl (fun _ => rfl) rfl ?_
  obtain ⟨_, r101, t101, a101, f101, c101, rfl, x101, w101, wa101, y101⟩ := h d n _ _ _ _ s0 hT (by first | decide | omega) kc (by first | decide | omega) kf
  have s101 := x101.1
  have e101 := x101.2.1
  have k101 := x101.2.2.1
  have q101 := x101.2.2.2.1
  have b101 := s101.2.2.2
  refine gx_call0 rfl rfl s0.1 rfl rfl r101 rfl ?_
  have k2 : ai_hv t101 383 21 = some (.inl fh) := (e101 383 21 (by first | decide | omega)).trans kf
  refine ex_go (S := (6, [(0, gx_r 383), (1, .inl e)], [gx_r 383], t101, n, 0)) rfl (fun _ => rfl) rfl ?_
  refine ex_go (S := (8, [(0, gx_r 383), (1, .inl e)], [.inl 60, gx_r 383], t101, n, 0)) rfl (fun _ => rfl) rfl ?_
  have hT6 := rT_keep (t' := t101) hT (fun c i h => e101 c i (by first | decide | omega))
  obtain ⟨_, r5, b3, rfl, q4⟩ := pe_isSign (d + l + 4) n (s101) hT6 (by first | decide | omega) (w := 60) (by first | decide | omega)
  refine gx_call1 rfl rfl s101.1 rfl rfl r5 rfl ?_
  refine ex_go (S := (12, [(2, .inl b3), (0, gx_r 383), (1, .inl e)], [], t101, n, 0)) rfl (fun _ => rfl) rfl ?_
  refine ex_go (S := (13, [(2, .inl b3), (0, gx_r 383), (1, .inl e)], [gx_r 383], t101, n, 0)) rfl (fun _ => rfl) rfl ?_
  refine ex_go (S := (15, [(2, .inl b3), (0, gx_r 383), (1, .inl e)], [.inl 60, gx_r 383], t101, n, 0)) rfl (fun _ => rfl) rfl ?_
  obtain ⟨_, r107, v107, t107, a107, f107, rfl, s107, e107, q107⟩ := pe_hasSign (d + l + 3) n (s101) hT6 (by first | decide | omega) (w := 60) (by first | decide | omega)
  have b107 := s107.2.2.2
  have hlq107 : v107 = 1 → a101 < N := fun z => (q107.2.mp z).2.1
  refine gx_call1 rfl rfl s101.1 rfl rfl r107 rfl ?_
  have k8 : ai_hv t107 383 21 = some (.inl fh) := (e107 383 21 (by first | decide | omega)).trans k2
  have k9 : ai_hv t107 383 13 = some (.inl c101) := (e107 383 13 (by first | decide | omega)).trans k101
  by_cases hc10 : v107 ≠ 0
  · refine gx_1t (c := .ne) rfl (by first | decide | omega) hc10 rfl ?_
    refine ex_go (S := (31, [(2, .inl b3), (0, gx_r 383), (1, .inl e)], [gx_r 383], t107, n, 0)) rfl (fun _ => rfl) rfl ?_
    refine ex_go (S := (32, [(2, .inl b3), (0, gx_r 383), (1, .inl e)], [.inl e, gx_r 383], t107, n, 0)) rfl (fun _ => rfl) rfl ?_
    have hT12 := rT_keep (t' := t107) hT (fun c i h => (e107 c i (by first | decide | omega)).trans (e101 c i (by first | decide | omega)))
    obtain ⟨_, r111, t111, a111, f111, c111, rfl, x111, w111, wa111, y111⟩ := h d n _ _ _ _ s107 hT12 (by first | decide | omega) k9 (by first | decide | omega) k8
    have s111 := x111.1
    have e111 := x111.2.1
    have k111 := x111.2.2.1
    have q111 := x111.2.2.2.1
    have b111 := s111.2.2.2
    refine gx_call0 rfl rfl s107.1 rfl rfl r111 rfl ?_
    have k13 : ai_hv t111 383 21 = some (.inl fh) := (e111 383 21 (by first | decide | omega)).trans k8
    refine ex_go (S := (36, [(2, .inl b3), (0, gx_r 383), (1, .inl e)], [gx_r 383], t111, n, 0)) rfl (fun _ => rfl) rfl ?_
    refine ex_go (S := (37, [(2, .inl b3), (0, gx_r 383), (1, .inl e)], [.inl b3, gx_r 383], t111, n, 0)) rfl (fun _ => rfl) rfl ?_
    by_cases hc14 : b3 = 0
    · refine gx_1t (c := .eq) rfl (by first | decide | omega) hc14 rfl ?_
      refine ex_go (S := (47, [(2, .inl b3), (0, gx_r 383), (1, .inl e)], [.inl 8, gx_r 383], t111, n, 0)) rfl (fun _ => rfl) rfl ?_
      refine ex_go (S := (48, [(2, .inl b3), (0, gx_r 383), (1, .inl e)], [.inl 0, .inl 8, gx_r 383], t111, n, 0)) rfl (fun _ => rfl) rfl ?_
      obtain ⟨_, r115, t115, rfl, s115, e115, k115, ko115, kz115⟩ := pk_emit (d + l + 4) n (s111) (o := 8) (z := 0) (by first | decide | omega) (by first | decide | omega) (by first | decide | omega) k111
      have b115 := s115.2.2.2
      refine gx_call0 rfl rfl s111.1 rfl rfl r115 rfl ?_
      have k16 : ai_hv t115 383 21 = some (.inl fh) := (e115 383 21 (by first | decide | omega)).trans k13
      refine ex_ret (r := (none, t115, n, 0)) rfl (fun _ => rfl) ?_
      have hpf : f101 = 0 := by have := (q107.2.mp (by first | decide | omega)).1; omega
      have hoc := oc_60 (a := a101) (q107.2.mp (by first | decide | omega)).2
      have hop : sp_op S m N 1 a101 := sp_op_1.mpr (Or.inl (q107.2.mp (by first | decide | omega)).2)
      exact absurd (q4.2.mpr (q107.2.mp (by first | decide | omega))) (by first | decide | omega)
    · refine gx_1f (c := .eq) rfl (by first | decide | omega) hc14 rfl ?_
      refine ex_go (S := (42, [(2, .inl b3), (0, gx_r 383), (1, .inl e)], [.inl 7, gx_r 383], t111, n, 0)) rfl (fun _ => rfl) rfl ?_
      refine ex_go (S := (47, [(2, .inl b3), (0, gx_r 383), (1, .inl e)], [.inl 7, gx_r 383], t111, n, 0)) rfl (fun _ => rfl) rfl ?_
      refine ex_go (S := (48, [(2, .inl b3), (0, gx_r 383), (1, .inl e)], [.inl 0, .inl 7, gx_r 383], t111, n, 0)) rfl (fun _ => rfl) rfl ?_
      obtain ⟨_, r117, t117, rfl, s117, e117, k117, ko117, kz117⟩ := pk_emit (d + l + 4) n (s111) (o := 7) (z := 0) (by first | decide | omega) (by first | decide | omega) (by first | decide | omega) k111
      have b117 := s117.2.2.2
      refine gx_call0 rfl rfl s111.1 rfl rfl r117 rfl ?_
      have k18 : ai_hv t117 383 21 = some (.inl fh) := (e117 383 21 (by first | decide | omega)).trans k13
      refine ex_ret (r := (none, t117, n, 0)) rfl (fun _ => rfl) ?_
      have hpf : f101 = 0 := by have := (q107.2.mp (by first | decide | omega)).1; omega
      have hoc := oc_60 (a := a101) (q107.2.mp (by first | decide | omega)).2
      have hop : sp_op S m N 1 a101 := sp_op_1.mpr (Or.inl (q107.2.mp (by first | decide | omega)).2)
      have w9 : Ev S m N fh 2 e (a101 + 1, 0) (a111, f111) := Ev_at w111 (by show a107 = a101 + 1; omega) (by show f107 = 0; omega)
      refine ⟨_, rfl, t117, a111, f111, c111 + 1, rfl, px_X_bin x101 (by first | decide | omega) (by first | decide | omega) (fun c i h => e107 c i (by first | decide | omega)) x111 (by first | decide | omega) s117 e117 k117 ko117 kz117, Ev_seq (by first | decide | omega) w101 (Ev_at (Ev_once hop w9) rfl (by show 0 = f101; omega)), by omega, fun z9 => ?_⟩
      obtain ⟨L1, d1, l1, m1⟩ := y101 (by first | decide | omega)
      obtain ⟨L2, d2, l2, m2⟩ := y111 (by first | decide | omega)
      have d2 := Ec_at (p' := (a101 + 1, 0)) d2 (by show a107 = a101 + 1; omega) (by first | rfl | (show f107 = 0; omega))
      refine ⟨L1 ++ (L2 ++ [sp_oc S m N a101]), Ec_seq (by first | decide | omega) (by first | decide | omega) w101 d1 (Ec_at (Ec_once hop d2) rfl (by show 0 = f101; omega)), ?_, ?_⟩
      · rw [List.length_append, List.length_append]
        show _ = c + (L1.length + (L2.length + 1))
        omega
      · refine rLs_app (rLs_keep m1 (fun c8 i8 h7 h8 => (e117 c8 i8 (by first | decide | omega)).trans ((e111 c8 i8 (by first | decide | omega)).trans (e107 c8 i8 (by first | decide | omega))))) ?_
        rw [← l1]
        refine rLs_app (rLs_keep m2 (fun c8 i8 h7 h8 => e117 c8 i8 (by first | decide | omega))) (rLs_one (o := 7) (z := 0) ?_ ?_ (by rw [hoc]; rfl) (by rw [hoc]; rfl))
        · rw [← l2]; exact ko117
        · rw [← l2]; exact kz117
  · refine gx_1f (c := .ne) rfl (by first | decide | omega) hc10 rfl ?_
    refine ex_go (S := (22, [(2, .inl b3), (0, gx_r 383), (1, .inl e)], [gx_r 383], t107, n, 0)) rfl (fun _ => rfl) rfl ?_
    refine ex_go (S := (24, [(2, .inl b3), (0, gx_r 383), (1, .inl e)], [.inl 61, gx_r 383], t107, n, 0)) rfl (fun _ => rfl) rfl ?_
    have hT20 := rT_keep (t' := t107) hT (fun c i h => (e107 c i (by first | decide | omega)).trans (e101 c i (by first | decide | omega)))
    obtain ⟨_, r119, v119, t119, a119, f119, rfl, s119, e119, q119⟩ := pe_hasSign (d + l + 3) n (s107) hT20 (by first | decide | omega) (w := 61) (by first | decide | omega)
    have b119 := s119.2.2.2
    have hlq119 : v119 = 1 → a107 < N := fun z => (q119.2.mp z).2.1
    refine gx_call1 rfl rfl s107.1 rfl rfl r119 rfl ?_
    have k21 : ai_hv t119 383 21 = some (.inl fh) := (e119 383 21 (by first | decide | omega)).trans k8
    have k22 : ai_hv t119 383 13 = some (.inl c101) := (e119 383 13 (by first | decide | omega)).trans k9
    by_cases hc23 : v119 = 0
    · refine gx_1t (c := .eq) rfl (by first | decide | omega) hc23 rfl ?_
      refine ex_ret (r := (none, t119, n, 0)) rfl (fun _ => rfl) ?_
      have hno : f101 = 0 → ¬ sp_op S m N 1 a101 := fun hf z => by
        rcases sp_op_1.mp z with z | z
        · exact absurd (q107.2.mpr ⟨hf, z⟩) (by first | decide | omega)
        · exact absurd (q119.2.mpr ⟨by omega, by rw [show a107 = a101 by omega]; exact z⟩) (by first | decide | omega)
      refine ⟨_, rfl, t119, a119, f119, c101, rfl, px_X_same x101 (fun c i h => (e119 c i (by first | decide | omega)).trans (e107 c i (by first | decide | omega))) s119 (by first | decide | omega) (by first | decide | omega), Ev_seq (by first | decide | omega) w101 (Ev_to (Ev_exit (by first | decide | omega) hno) (by show a101 = a119; omega) (by show f101 = f119; omega)), by omega, fun z9 => ?_⟩
      obtain ⟨L1, d1, l1, m1⟩ := y101 (by first | decide | omega)
      refine ⟨L1 ++ [], Ec_seq (by first | decide | omega) (by first | decide | omega) w101 d1 (Ec_exit (by first | decide | omega) hno (by first | decide | omega)), by rw [List.append_nil]; exact l1, ?_⟩
      rw [List.append_nil]
      exact rLs_keep m1 (fun c8 i8 h7 h8 => (e119 c8 i8 (by first | decide | omega)).trans (e107 c8 i8 (by first | decide | omega)))
    · refine gx_1f (c := .eq) rfl (by first | decide | omega) hc23 rfl ?_
      refine ex_go (S := (31, [(2, .inl b3), (0, gx_r 383), (1, .inl e)], [gx_r 383], t119, n, 0)) rfl (fun _ => rfl) rfl ?_
      refine ex_go (S := (32, [(2, .inl b3), (0, gx_r 383), (1, .inl e)], [.inl e, gx_r 383], t119, n, 0)) rfl (fun _ => rfl) rfl ?_
      have hT25 := rT_keep (t' := t119) hT (fun c i h => (e119 c i (by first | decide | omega)).trans ((e107 c i (by first | decide | omega)).trans (e101 c i (by first | decide | omega))))
      obtain ⟨_, r124, t124, a124, f124, c124, rfl, x124, w124, wa124, y124⟩ := h d n _ _ _ _ s119 hT25 (by first | decide | omega) k22 (by first | decide | omega) k21
      have s124 := x124.1
      have e124 := x124.2.1
      have k124 := x124.2.2.1
      have q124 := x124.2.2.2.1
      have b124 := s124.2.2.2
      refine gx_call0 rfl rfl s119.1 rfl rfl r124 rfl ?_
      have k26 : ai_hv t124 383 21 = some (.inl fh) := (e124 383 21 (by first | decide | omega)).trans k21
      refine ex_go (S := (36, [(2, .inl b3), (0, gx_r 383), (1, .inl e)], [gx_r 383], t124, n, 0)) rfl (fun _ => rfl) rfl ?_
      refine ex_go (S := (37, [(2, .inl b3), (0, gx_r 383), (1, .inl e)], [.inl b3, gx_r 383], t124, n, 0)) rfl (fun _ => rfl) rfl ?_
      by_cases hc27 : b3 = 0
      · refine gx_1t (c := .eq) rfl (by first | decide | omega) hc27 rfl ?_
        refine ex_go (S := (47, [(2, .inl b3), (0, gx_r 383), (1, .inl e)], [.inl 8, gx_r 383], t124, n, 0)) rfl (fun _ => rfl) rfl ?_
        refine ex_go (S := (48, [(2, .inl b3), (0, gx_r 383), (1, .inl e)], [.inl 0, .inl 8, gx_r 383], t124, n, 0)) rfl (fun _ => rfl) rfl ?_
        obtain ⟨_, r128, t128, rfl, s128, e128, k128, ko128, kz128⟩ := pk_emit (d + l + 4) n (s124) (o := 8) (z := 0) (by first | decide | omega) (by first | decide | omega) (by first | decide | omega) k124
        have b128 := s128.2.2.2
        refine gx_call0 rfl rfl s124.1 rfl rfl r128 rfl ?_
        have k29 : ai_hv t128 383 21 = some (.inl fh) := (e128 383 21 (by first | decide | omega)).trans k26
        refine ex_ret (r := (none, t128, n, 0)) rfl (fun _ => rfl) ?_
        have hpf : f101 = 0 := by have := (q119.2.mp (by first | decide | omega)).1; omega
        have hoc := oc_61 (a := a101) (by have z9 := (q119.2.mp (by first | decide | omega)).2; rw [show a107 = a101 by omega] at z9; exact z9)
        have hop : sp_op S m N 1 a101 := sp_op_1.mpr (Or.inr (by have z9 := (q119.2.mp (by first | decide | omega)).2; rw [show a107 = a101 by omega] at z9; exact z9))
        have w9 : Ev S m N fh 2 e (a101 + 1, 0) (a124, f124) := Ev_at w124 (by show a119 = a101 + 1; omega) (by show f119 = 0; omega)
        refine ⟨_, rfl, t128, a124, f124, c124 + 1, rfl, px_X_bin x101 (by first | decide | omega) (by first | decide | omega) (fun c i h => (e119 c i (by first | decide | omega)).trans (e107 c i (by first | decide | omega))) x124 (by first | decide | omega) s128 e128 k128 ko128 kz128, Ev_seq (by first | decide | omega) w101 (Ev_at (Ev_once hop w9) rfl (by show 0 = f101; omega)), by omega, fun z9 => ?_⟩
        obtain ⟨L1, d1, l1, m1⟩ := y101 (by first | decide | omega)
        obtain ⟨L2, d2, l2, m2⟩ := y124 (by first | decide | omega)
        have d2 := Ec_at (p' := (a101 + 1, 0)) d2 (by show a119 = a101 + 1; omega) (by first | rfl | (show f119 = 0; omega))
        refine ⟨L1 ++ (L2 ++ [sp_oc S m N a101]), Ec_seq (by first | decide | omega) (by first | decide | omega) w101 d1 (Ec_at (Ec_once hop d2) rfl (by show 0 = f101; omega)), ?_, ?_⟩
        · rw [List.length_append, List.length_append]
          show _ = c + (L1.length + (L2.length + 1))
          omega
        · refine rLs_app (rLs_keep m1 (fun c8 i8 h7 h8 => (e128 c8 i8 (by first | decide | omega)).trans ((e124 c8 i8 (by first | decide | omega)).trans ((e119 c8 i8 (by first | decide | omega)).trans (e107 c8 i8 (by first | decide | omega)))))) ?_
          rw [← l1]
          refine rLs_app (rLs_keep m2 (fun c8 i8 h7 h8 => e128 c8 i8 (by first | decide | omega))) (rLs_one (o := 8) (z := 0) ?_ ?_ (by rw [hoc]; rfl) (by rw [hoc]; rfl))
          · rw [← l2]; exact ko128
          · rw [← l2]; exact kz128
      · refine gx_1f (c := .eq) rfl (by first | decide | omega) hc27 rfl ?_
        refine ex_go (S := (42, [(2, .inl b3), (0, gx_r 383), (1, .inl e)], [.inl 7, gx_r 383], t124, n, 0)) rfl (fun _ => rfl) rfl ?_
        refine ex_go (S := (47, [(2, .inl b3), (0, gx_r 383), (1, .inl e)], [.inl 7, gx_r 383], t124, n, 0)) rfl (fun _ => rfl) rfl ?_
        refine ex_go (S := (48, [(2, .inl b3), (0, gx_r 383), (1, .inl e)], [.inl 0, .inl 7, gx_r 383], t124, n, 0)) rfl (fun _ => rfl) rfl ?_
        obtain ⟨_, r130, t130, rfl, s130, e130, k130, ko130, kz130⟩ := pk_emit (d + l + 4) n (s124) (o := 7) (z := 0) (by first | decide | omega) (by first | decide | omega) (by first | decide | omega) k124
        have b130 := s130.2.2.2
        refine gx_call0 rfl rfl s124.1 rfl rfl r130 rfl ?_
        have k31 : ai_hv t130 383 21 = some (.inl fh) := (e130 383 21 (by first | decide | omega)).trans k26
        refine ex_ret (r := (none, t130, n, 0)) rfl (fun _ => rfl) ?_
        have hpf : f101 = 0 := by have := (q119.2.mp (by first | decide | omega)).1; omega
        have hoc := oc_61 (a := a101) (by have z9 := (q119.2.mp (by first | decide | omega)).2; rw [show a107 = a101 by omega] at z9; exact z9)
        have hop : sp_op S m N 1 a101 := sp_op_1.mpr (Or.inr (by have z9 := (q119.2.mp (by first | decide | omega)).2; rw [show a107 = a101 by omega] at z9; exact z9))
        exact absurd (q107.2.mpr (q4.2.mp (by first | decide | omega))) (by first | decide | omega)
theorem pe_all_l {l e : Nat} (h : ∀ d, pe_C S m N fh (d + l + 6) 271 1 e) (he : e ≤ 5) (d n : Nat) {tb : en_H} {ab fb cb : Nat} (hcb : cb ≤ ab) : ∀ j t0 a f c lx, (lx = [] ∨ ∃ b, b ≤ 1 ∧ lx = [(2, .inl b)]) → 1000 ≤ a + j → px_X tb ab fb cb t0 a f c → rT t0 S m N → a ≤ N → ai_hv t0 383 21 = some (.inl fh) → en_ex none (en_u (d + l + 6)) (en_code 247) (fun _ => false) (5, lx ++ [(0, gx_r 383), (1, .inl e)], [], t0, n, 0) (fun o => ∃ r, o = .inl r ∧ ∃ t' a' f' c', r = (none, t', n, 0) ∧ px_X tb ab fb cb t' a' f' c' ∧ Ev S m N fh 5 e (a, f) (a', f') ∧ a' ≤ N ∧ px_FE c t0 t' ∧ (f' = 0 → f = 0) ∧ rE S m N fh 5 e a f c t' f' c') := by
  intro j
  induction j with
  | zero =>
    intro t0 a f c lx hlx hj hx hT ha kf
    have s0 := hx.1
    have kc := hx.2.2.1
    have q0 := hx.2.2.2.1
    have b0 := s0.2.2.2
    have hN := hT.2.2.2.2.1
    rcases hlx with rfl | ⟨bx, hbx, rfl⟩
    · show en_ex _ _ _ _ (5, [(0, gx_r 383), (1, .inl e)], [], t0, n, 0) _
      refine ex_go (S := (6, [(0, gx_r 383), (1, .inl e)], [gx_r 383], t0, n, 0)) rfl (fun _ => rfl) rfl ?_
      refine ex_go (S := (8, [(0, gx_r 383), (1, .inl e)], [.inl 36, gx_r 383], t0, n, 0)) rfl (fun _ => rfl) rfl ?_
      obtain ⟨_, r3, b1, rfl, q2⟩ := pe_isWord (d + l + 5) n (s0) hT (by first | decide | omega) (w := 36) (by first | decide | omega)
      refine gx_call1 rfl rfl s0.1 rfl rfl r3 rfl ?_
      have hlq2 : b1 = 1 → a < N := fun z => (q2.2.mp z).2.1
      by_cases hc4 : b1 ≠ 0
      · refine gx_1t (c := .ne) rfl (by first | decide | omega) hc4 rfl ?_
        refine ex_go (S := (24, [(0, gx_r 383), (1, .inl e)], [gx_r 383], t0, n, 0)) rfl (fun _ => rfl) rfl ?_
        refine ex_go (S := (26, [(0, gx_r 383), (1, .inl e)], [.inl 36, gx_r 383], t0, n, 0)) rfl (fun _ => rfl) rfl ?_
        obtain ⟨_, r7, b5, rfl, q6⟩ := pe_isWord (d + l + 5) n (s0) hT (by first | decide | omega) (w := 36) (by first | decide | omega)
        refine gx_call1 rfl rfl s0.1 rfl rfl r7 rfl ?_
        have hlq6 : b5 = 1 → a < N := fun z => (q6.2.mp z).2.1
        refine ex_go (S := (30, [(2, .inl b5), (0, gx_r 383), (1, .inl e)], [], t0, n, 0)) rfl (fun _ => rfl) rfl ?_
        refine ex_go (S := (31, [(2, .inl b5), (0, gx_r 383), (1, .inl e)], [gx_r 383], t0, n, 0)) rfl (fun _ => rfl) rfl ?_
        refine ex_go (S := (32, [(2, .inl b5), (0, gx_r 383), (1, .inl e)], [gx_r 383, gx_r 383], t0, n, 0)) rfl (fun _ => rfl) rfl ?_
        refine gx_get rfl s0.1 rfl s0.2.1 rfl ?_
        refine ex_go (S := (36, [(2, .inl b5), (0, gx_r 383), (1, .inl e)], [.inl 1, .inl a, gx_r 383], t0, n, 0)) rfl (fun _ => rfl) rfl ?_
        refine ex_iadd rfl (by first | decide | omega) rfl ?_
        refine gx_put rfl s0.1 rfl rfl (ai_in_h (by first | decide | omega) (by first | decide | omega) (by first | decide | omega)) rfl (fun t108 g108 k108 e108 => ?_)
        have k9 : ai_hv t108 383 13 = some (.inl c) := (e108 383 13 (by first | decide | omega)).trans kc
        have k10 : ai_hv t108 383 21 = some (.inl fh) := (e108 383 21 (by first | decide | omega)).trans kf
        have s108 : px_S t108 (a + 1) f := ⟨g108, k108, (e108 383 8 (by first | decide | omega)).trans s0.2.2.1, by omega, s0.2.2.2.2⟩
        refine ex_go (S := (41, [(2, .inl b5), (0, gx_r 383), (1, .inl e)], [gx_r 383], t108, n, 0)) rfl (fun _ => rfl) rfl ?_
        refine ex_go (S := (42, [(2, .inl b5), (0, gx_r 383), (1, .inl e)], [.inl e, gx_r 383], t108, n, 0)) rfl (fun _ => rfl) rfl ?_
        have hT12 := rT_keep (t' := t108) hT (fun c i h => e108 c i (by first | decide | omega))
        obtain ⟨_, r111, t111, a111, f111, c111, rfl, x111, w111, wa111, y111⟩ := h d n _ _ _ _ s108 hT12 (by first | decide | omega) k9 (by first | decide | omega) k10
        have s111 := x111.1
        have e111 := x111.2.1
        have k111 := x111.2.2.1
        have q111 := x111.2.2.2.1
        have b111 := s111.2.2.2
        refine gx_call0 rfl rfl s108.1 rfl rfl r111 rfl ?_
        have k13 : ai_hv t111 383 21 = some (.inl fh) := (e111 383 21 (by first | decide | omega)).trans k10
        refine ex_go (S := (46, [(2, .inl b5), (0, gx_r 383), (1, .inl e)], [gx_r 383], t111, n, 0)) rfl (fun _ => rfl) rfl ?_
        refine ex_go (S := (47, [(2, .inl b5), (0, gx_r 383), (1, .inl e)], [.inl b5, gx_r 383], t111, n, 0)) rfl (fun _ => rfl) rfl ?_
        by_cases hc14 : b5 = 0
        · refine gx_1t (c := .eq) rfl (by first | decide | omega) hc14 rfl ?_
          refine ex_go (S := (57, [(2, .inl b5), (0, gx_r 383), (1, .inl e)], [.inl 10, gx_r 383], t111, n, 0)) rfl (fun _ => rfl) rfl ?_
          refine ex_go (S := (58, [(2, .inl b5), (0, gx_r 383), (1, .inl e)], [.inl 0, .inl 10, gx_r 383], t111, n, 0)) rfl (fun _ => rfl) rfl ?_
          obtain ⟨_, r115, t115, rfl, s115, e115, k115, ko115, kz115⟩ := pk_emit (d + l + 5) n (s111) (o := 10) (z := 0) (by first | decide | omega) (by first | decide | omega) (by first | decide | omega) k111
          have b115 := s115.2.2.2
          refine gx_call0 rfl rfl s111.1 rfl rfl r115 rfl ?_
          have k16 : ai_hv t115 383 21 = some (.inl fh) := (e115 383 21 (by first | decide | omega)).trans k13
          refine ex_go (S := (5, [(2, .inl b5), (0, gx_r 383), (1, .inl e)], [], t115, n, 0)) rfl (fun _ => rfl) rfl ?_
          exfalso; omega
        · refine gx_1f (c := .eq) rfl (by first | decide | omega) hc14 rfl ?_
          refine ex_go (S := (52, [(2, .inl b5), (0, gx_r 383), (1, .inl e)], [.inl 9, gx_r 383], t111, n, 0)) rfl (fun _ => rfl) rfl ?_
          refine ex_go (S := (57, [(2, .inl b5), (0, gx_r 383), (1, .inl e)], [.inl 9, gx_r 383], t111, n, 0)) rfl (fun _ => rfl) rfl ?_
          refine ex_go (S := (58, [(2, .inl b5), (0, gx_r 383), (1, .inl e)], [.inl 0, .inl 9, gx_r 383], t111, n, 0)) rfl (fun _ => rfl) rfl ?_
          obtain ⟨_, r117, t117, rfl, s117, e117, k117, ko117, kz117⟩ := pk_emit (d + l + 5) n (s111) (o := 9) (z := 0) (by first | decide | omega) (by first | decide | omega) (by first | decide | omega) k111
          have b117 := s117.2.2.2
          refine gx_call0 rfl rfl s111.1 rfl rfl r117 rfl ?_
          have k18 : ai_hv t117 383 21 = some (.inl fh) := (e117 383 21 (by first | decide | omega)).trans k13
          refine ex_go (S := (5, [(2, .inl b5), (0, gx_r 383), (1, .inl e)], [], t117, n, 0)) rfl (fun _ => rfl) rfl ?_
          exfalso; omega
      · refine gx_1f (c := .ne) rfl (by first | decide | omega) hc4 rfl ?_
        refine ex_go (S := (15, [(0, gx_r 383), (1, .inl e)], [gx_r 383], t0, n, 0)) rfl (fun _ => rfl) rfl ?_
        refine ex_go (S := (17, [(0, gx_r 383), (1, .inl e)], [.inl 37, gx_r 383], t0, n, 0)) rfl (fun _ => rfl) rfl ?_
        obtain ⟨_, r21, b19, rfl, q20⟩ := pe_isWord (d + l + 5) n (s0) hT (by first | decide | omega) (w := 37) (by first | decide | omega)
        refine gx_call1 rfl rfl s0.1 rfl rfl r21 rfl ?_
        have hlq20 : b19 = 1 → a < N := fun z => (q20.2.mp z).2.1
        by_cases hc22 : b19 = 0
        · refine gx_1t (c := .eq) rfl (by first | decide | omega) hc22 rfl ?_
          refine ex_ret (r := (none, t0, n, 0)) rfl (fun _ => rfl) ?_
          have hno : f = 0 → ¬ sp_op S m N 0 a := fun hf z => by
              rcases sp_op_0.mp z with z | z
              · exact absurd (q2.2.mpr ⟨hf, z⟩) (by first | decide | omega)
              · exact absurd (q20.2.mpr ⟨hf, z⟩) (by first | decide | omega)
          exact ⟨_, rfl, t0, a, f, c, rfl, px_X_same hx (fun _ _ _ => rfl) s0 (by first | decide | omega) (by first | decide | omega), Ev_to (Ev_exit (by first | decide | omega) hno) (by show a = a; omega) (by show f = f; omega), by omega, (fun _ _ _ => rfl), (fun z => by omega), fun z => ⟨[], Ec_exit (by first | decide | omega) hno (by first | decide | omega), rfl, rLs_nil⟩⟩
        · refine gx_1f (c := .eq) rfl (by first | decide | omega) hc22 rfl ?_
          refine ex_go (S := (24, [(0, gx_r 383), (1, .inl e)], [gx_r 383], t0, n, 0)) rfl (fun _ => rfl) rfl ?_
          refine ex_go (S := (26, [(0, gx_r 383), (1, .inl e)], [.inl 36, gx_r 383], t0, n, 0)) rfl (fun _ => rfl) rfl ?_
          obtain ⟨_, r25, b23, rfl, q24⟩ := pe_isWord (d + l + 5) n (s0) hT (by first | decide | omega) (w := 36) (by first | decide | omega)
          refine gx_call1 rfl rfl s0.1 rfl rfl r25 rfl ?_
          have hlq24 : b23 = 1 → a < N := fun z => (q24.2.mp z).2.1
          refine ex_go (S := (30, [(2, .inl b23), (0, gx_r 383), (1, .inl e)], [], t0, n, 0)) rfl (fun _ => rfl) rfl ?_
          refine ex_go (S := (31, [(2, .inl b23), (0, gx_r 383), (1, .inl e)], [gx_r 383], t0, n, 0)) rfl (fun _ => rfl) rfl ?_
          refine ex_go (S := (32, [(2, .inl b23), (0, gx_r 383), (1, .inl e)], [gx_r 383, gx_r 383], t0, n, 0)) rfl (fun _ => rfl) rfl ?_
          refine gx_get rfl s0.1 rfl s0.2.1 rfl ?_
          refine ex_go (S := (36, [(2, .inl b23), (0, gx_r 383), (1, .inl e)], [.inl 1, .inl a, gx_r 383], t0, n, 0)) rfl (fun _ => rfl) rfl ?_
          refine ex_iadd rfl (by first | decide | omega) rfl ?_
          refine gx_put rfl s0.1 rfl rfl (ai_in_h (by first | decide | omega) (by first | decide | omega) (by first | decide | omega)) rfl (fun t126 g126 k126 e126 => ?_)
          have k27 : ai_hv t126 383 13 = some (.inl c) := (e126 383 13 (by first | decide | omega)).trans kc
          have k28 : ai_hv t126 383 21 = some (.inl fh) := (e126 383 21 (by first | decide | omega)).trans kf
          have s126 : px_S t126 (a + 1) f := ⟨g126, k126, (e126 383 8 (by first | decide | omega)).trans s0.2.2.1, by omega, s0.2.2.2.2⟩
          refine ex_go (S := (41, [(2, .inl b23), (0, gx_r 383), (1, .inl e)], [gx_r 383], t126, n, 0)) rfl (fun _ => rfl) rfl ?_
          refine ex_go (S := (42, [(2, .inl b23), (0, gx_r 383), (1, .inl e)], [.inl e, gx_r 383], t126, n, 0)) rfl (fun _ => rfl) rfl ?_
          have hT30 := rT_keep (t' := t126) hT (fun c i h => e126 c i (by first | decide | omega))
          obtain ⟨_, r129, t129, a129, f129, c129, rfl, x129, w129, wa129, y129⟩ := h d n _ _ _ _ s126 hT30 (by first | decide | omega) k27 (by first | decide | omega) k28
          have s129 := x129.1
          have e129 := x129.2.1
          have k129 := x129.2.2.1
          have q129 := x129.2.2.2.1
          have b129 := s129.2.2.2
          refine gx_call0 rfl rfl s126.1 rfl rfl r129 rfl ?_
          have k31 : ai_hv t129 383 21 = some (.inl fh) := (e129 383 21 (by first | decide | omega)).trans k28
          refine ex_go (S := (46, [(2, .inl b23), (0, gx_r 383), (1, .inl e)], [gx_r 383], t129, n, 0)) rfl (fun _ => rfl) rfl ?_
          refine ex_go (S := (47, [(2, .inl b23), (0, gx_r 383), (1, .inl e)], [.inl b23, gx_r 383], t129, n, 0)) rfl (fun _ => rfl) rfl ?_
          by_cases hc32 : b23 = 0
          · refine gx_1t (c := .eq) rfl (by first | decide | omega) hc32 rfl ?_
            refine ex_go (S := (57, [(2, .inl b23), (0, gx_r 383), (1, .inl e)], [.inl 10, gx_r 383], t129, n, 0)) rfl (fun _ => rfl) rfl ?_
            refine ex_go (S := (58, [(2, .inl b23), (0, gx_r 383), (1, .inl e)], [.inl 0, .inl 10, gx_r 383], t129, n, 0)) rfl (fun _ => rfl) rfl ?_
            obtain ⟨_, r133, t133, rfl, s133, e133, k133, ko133, kz133⟩ := pk_emit (d + l + 5) n (s129) (o := 10) (z := 0) (by first | decide | omega) (by first | decide | omega) (by first | decide | omega) k129
            have b133 := s133.2.2.2
            refine gx_call0 rfl rfl s129.1 rfl rfl r133 rfl ?_
            have k34 : ai_hv t133 383 21 = some (.inl fh) := (e133 383 21 (by first | decide | omega)).trans k31
            refine ex_go (S := (5, [(2, .inl b23), (0, gx_r 383), (1, .inl e)], [], t133, n, 0)) rfl (fun _ => rfl) rfl ?_
            exfalso; omega
          · refine gx_1f (c := .eq) rfl (by first | decide | omega) hc32 rfl ?_
            refine ex_go (S := (52, [(2, .inl b23), (0, gx_r 383), (1, .inl e)], [.inl 9, gx_r 383], t129, n, 0)) rfl (fun _ => rfl) rfl ?_
            refine ex_go (S := (57, [(2, .inl b23), (0, gx_r 383), (1, .inl e)], [.inl 9, gx_r 383], t129, n, 0)) rfl (fun _ => rfl) rfl ?_
            refine ex_go (S := (58, [(2, .inl b23), (0, gx_r 383), (1, .inl e)], [.inl 0, .inl 9, gx_r 383], t129, n, 0)) rfl (fun _ => rfl) rfl ?_
            obtain ⟨_, r135, t135, rfl, s135, e135, k135, ko135, kz135⟩ := pk_emit (d + l + 5) n (s129) (o := 9) (z := 0) (by first | decide | omega) (by first | decide | omega) (by first | decide | omega) k129
            have b135 := s135.2.2.2
            refine gx_call0 rfl rfl s129.1 rfl rfl r135 rfl ?_
            have k36 : ai_hv t135 383 21 = some (.inl fh) := (e135 383 21 (by first | decide | omega)).trans k31
            refine ex_go (S := (5, [(2, .inl b23), (0, gx_r 383), (1, .inl e)], [], t135, n, 0)) rfl (fun _ => rfl) rfl ?_
            exfalso; omega
    · show en_ex _ _ _ _ (5, [(2, .inl bx), (0, gx_r 383), (1, .inl e)], [], t0, n, 0) _
      refine ex_go (S := (6, [(2, .inl bx), (0, gx_r 383), (1, .inl e)], [gx_r 383], t0, n, 0)) rfl (fun _ => rfl) rfl ?_
      refine ex_go (S := (8, [(2, .inl bx), (0, gx_r 383), (1, .inl e)], [.inl 36, gx_r 383], t0, n, 0)) rfl (fun _ => rfl) rfl ?_
      obtain ⟨_, r3, b1, rfl, q2⟩ := pe_isWord (d + l + 5) n (s0) hT (by first | decide | omega) (w := 36) (by first | decide | omega)
      refine gx_call1 rfl rfl s0.1 rfl rfl r3 rfl ?_
      have hlq2 : b1 = 1 → a < N := fun z => (q2.2.mp z).2.1
      by_cases hc4 : b1 ≠ 0
      · refine gx_1t (c := .ne) rfl (by first | decide | omega) hc4 rfl ?_
        refine ex_go (S := (24, [(2, .inl bx), (0, gx_r 383), (1, .inl e)], [gx_r 383], t0, n, 0)) rfl (fun _ => rfl) rfl ?_
        refine ex_go (S := (26, [(2, .inl bx), (0, gx_r 383), (1, .inl e)], [.inl 36, gx_r 383], t0, n, 0)) rfl (fun _ => rfl) rfl ?_
        obtain ⟨_, r7, b5, rfl, q6⟩ := pe_isWord (d + l + 5) n (s0) hT (by first | decide | omega) (w := 36) (by first | decide | omega)
        refine gx_call1 rfl rfl s0.1 rfl rfl r7 rfl ?_
        have hlq6 : b5 = 1 → a < N := fun z => (q6.2.mp z).2.1
        refine ex_go (S := (30, [(2, .inl b5), (0, gx_r 383), (1, .inl e)], [], t0, n, 0)) rfl (fun _ => rfl) rfl ?_
        refine ex_go (S := (31, [(2, .inl b5), (0, gx_r 383), (1, .inl e)], [gx_r 383], t0, n, 0)) rfl (fun _ => rfl) rfl ?_
        refine ex_go (S := (32, [(2, .inl b5), (0, gx_r 383), (1, .inl e)], [gx_r 383, gx_r 383], t0, n, 0)) rfl (fun _ => rfl) rfl ?_
        refine gx_get rfl s0.1 rfl s0.2.1 rfl ?_
        refine ex_go (S := (36, [(2, .inl b5), (0, gx_r 383), (1, .inl e)], [.inl 1, .inl a, gx_r 383], t0, n, 0)) rfl (fun _ => rfl) rfl ?_
        refine ex_iadd rfl (by first | decide | omega) rfl ?_
        refine gx_put rfl s0.1 rfl rfl (ai_in_h (by first | decide | omega) (by first | decide | omega) (by first | decide | omega)) rfl (fun t108 g108 k108 e108 => ?_)
        have k9 : ai_hv t108 383 13 = some (.inl c) := (e108 383 13 (by first | decide | omega)).trans kc
        have k10 : ai_hv t108 383 21 = some (.inl fh) := (e108 383 21 (by first | decide | omega)).trans kf
        have s108 : px_S t108 (a + 1) f := ⟨g108, k108, (e108 383 8 (by first | decide | omega)).trans s0.2.2.1, by omega, s0.2.2.2.2⟩
        refine ex_go (S := (41, [(2, .inl b5), (0, gx_r 383), (1, .inl e)], [gx_r 383], t108, n, 0)) rfl (fun _ => rfl) rfl ?_
        refine ex_go (S := (42, [(2, .inl b5), (0, gx_r 383), (1, .inl e)], [.inl e, gx_r 383], t108, n, 0)) rfl (fun _ => rfl) rfl ?_
        have hT12 := rT_keep (t' := t108) hT (fun c i h => e108 c i (by first | decide | omega))
        obtain ⟨_, r111, t111, a111, f111, c111, rfl, x111, w111, wa111, y111⟩ := h d n _ _ _ _ s108 hT12 (by first | decide | omega) k9 (by first | decide | omega) k10
        have s111 := x111.1
        have e111 := x111.2.1
        have k111 := x111.2.2.1
        have q111 := x111.2.2.2.1
        have b111 := s111.2.2.2
        refine gx_call0 rfl rfl s108.1 rfl rfl r111 rfl ?_
        have k13 : ai_hv t111 383 21 = some (.inl fh) := (e111 383 21 (by first | decide | omega)).trans k10
        refine ex_go (S := (46, [(2, .inl b5), (0, gx_r 383), (1, .inl e)], [gx_r 383], t111, n, 0)) rfl (fun _ => rfl) rfl ?_
        refine ex_go (S := (47, [(2, .inl b5), (0, gx_r 383), (1, .inl e)], [.inl b5, gx_r 383], t111, n, 0)) rfl (fun _ => rfl) rfl ?_
        by_cases hc14 : b5 = 0
        · refine gx_1t (c := .eq) rfl (by first | decide | omega) hc14 rfl ?_
          refine ex_go (S := (57, [(2, .inl b5), (0, gx_r 383), (1, .inl e)], [.inl 10, gx_r 383], t111, n, 0)) rfl (fun _ => rfl) rfl ?_
          refine ex_go (S := (58, [(2, .inl b5), (0, gx_r 383), (1, .inl e)], [.inl 0, .inl 10, gx_r 383], t111, n, 0)) rfl (fun _ => rfl) rfl ?_
          obtain ⟨_, r115, t115, rfl, s115, e115, k115, ko115, kz115⟩ := pk_emit (d + l + 5) n (s111) (o := 10) (z := 0) (by first | decide | omega) (by first | decide | omega) (by first | decide | omega) k111
          have b115 := s115.2.2.2
          refine gx_call0 rfl rfl s111.1 rfl rfl r115 rfl ?_
          have k16 : ai_hv t115 383 21 = some (.inl fh) := (e115 383 21 (by first | decide | omega)).trans k13
          refine ex_go (S := (5, [(2, .inl b5), (0, gx_r 383), (1, .inl e)], [], t115, n, 0)) rfl (fun _ => rfl) rfl ?_
          exfalso; omega
        · refine gx_1f (c := .eq) rfl (by first | decide | omega) hc14 rfl ?_
          refine ex_go (S := (52, [(2, .inl b5), (0, gx_r 383), (1, .inl e)], [.inl 9, gx_r 383], t111, n, 0)) rfl (fun _ => rfl) rfl ?_
          refine ex_go (S := (57, [(2, .inl b5), (0, gx_r 383), (1, .inl e)], [.inl 9, gx_r 383], t111, n, 0)) rfl (fun _ => rfl) rfl ?_
          refine ex_go (S := (58, [(2, .inl b5), (0, gx_r 383), (1, .inl e)], [.inl 0, .inl 9, gx_r 383], t111, n, 0)) rfl (fun _ => rfl) rfl ?_
          obtain ⟨_, r117, t117, rfl, s117, e117, k117, ko117, kz117⟩ := pk_emit (d + l + 5) n (s111) (o := 9) (z := 0) (by first | decide | omega) (by first | decide | omega) (by first | decide | omega) k111
          have b117 := s117.2.2.2
          refine gx_call0 rfl rfl s111.1 rfl rfl r117 rfl ?_
          have k18 : ai_hv t117 383 21 = some (.inl fh) := (e117 383 21 (by first | decide | omega)).trans k13
          refine ex_go (S := (5, [(2, .inl b5), (0, gx_r 383), (1, .inl e)], [], t117, n, 0)) rfl (fun _ => rfl) rfl ?_
          exfalso; omega
      · refine gx_1f (c := .ne) rfl (by first | decide | omega) hc4 rfl ?_
        refine ex_go (S := (15, [(2, .inl bx), (0, gx_r 383), (1, .inl e)], [gx_r 383], t0, n, 0)) rfl (fun _ => rfl) rfl ?_
        refine ex_go (S := (17, [(2, .inl bx), (0, gx_r 383), (1, .inl e)], [.inl 37, gx_r 383], t0, n, 0)) rfl (fun _ => rfl) rfl ?_
        obtain ⟨_, r21, b19, rfl, q20⟩ := pe_isWord (d + l + 5) n (s0) hT (by first | decide | omega) (w := 37) (by first | decide | omega)
        refine gx_call1 rfl rfl s0.1 rfl rfl r21 rfl ?_
        have hlq20 : b19 = 1 → a < N := fun z => (q20.2.mp z).2.1
        by_cases hc22 : b19 = 0
        · refine gx_1t (c := .eq) rfl (by first | decide | omega) hc22 rfl ?_
          refine ex_ret (r := (none, t0, n, 0)) rfl (fun _ => rfl) ?_
          have hno : f = 0 → ¬ sp_op S m N 0 a := fun hf z => by
              rcases sp_op_0.mp z with z | z
              · exact absurd (q2.2.mpr ⟨hf, z⟩) (by first | decide | omega)
              · exact absurd (q20.2.mpr ⟨hf, z⟩) (by first | decide | omega)
          exact ⟨_, rfl, t0, a, f, c, rfl, px_X_same hx (fun _ _ _ => rfl) s0 (by first | decide | omega) (by first | decide | omega), Ev_to (Ev_exit (by first | decide | omega) hno) (by show a = a; omega) (by show f = f; omega), by omega, (fun _ _ _ => rfl), (fun z => by omega), fun z => ⟨[], Ec_exit (by first | decide | omega) hno (by first | decide | omega), rfl, rLs_nil⟩⟩
        · refine gx_1f (c := .eq) rfl (by first | decide | omega) hc22 rfl ?_
          refine ex_go (S := (24, [(2, .inl bx), (0, gx_r 383), (1, .inl e)], [gx_r 383], t0, n, 0)) rfl (fun _ => rfl) rfl ?_
          refine ex_go (S := (26, [(2, .inl bx), (0, gx_r 383), (1, .inl e)], [.inl 36, gx_r 383], t0, n, 0)) rfl (fun _ => rfl) rfl ?_
          obtain ⟨_, r25, b23, rfl, q24⟩ := pe_isWord (d + l + 5) n (s0) hT (by first | decide | omega) (w := 36) (by first | decide | omega)
          refine gx_call1 rfl rfl s0.1 rfl rfl r25 rfl ?_
          have hlq24 : b23 = 1 → a < N := fun z => (q24.2.mp z).2.1
          refine ex_go (S := (30, [(2, .inl b23), (0, gx_r 383), (1, .inl e)], [], t0, n, 0)) rfl (fun _ => rfl) rfl ?_
          refine ex_go (S := (31, [(2, .inl b23), (0, gx_r 383), (1, .inl e)], [gx_r 383], t0, n, 0)) rfl (fun _ => rfl) rfl ?_
          refine ex_go (S := (32, [(2, .inl b23), (0, gx_r 383), (1, .inl e)], [gx_r 383, gx_r 383], t0, n, 0)) rfl (fun _ => rfl) rfl ?_
          refine gx_get rfl s0.1 rfl s0.2.1 rfl ?_
          refine ex_go (S := (36, [(2, .inl b23), (0, gx_r 383), (1, .inl e)], [.inl 1, .inl a, gx_r 383], t0, n, 0)) rfl (fun _ => rfl) rfl ?_
          refine ex_iadd rfl (by first | decide | omega) rfl ?_
          refine gx_put rfl s0.1 rfl rfl (ai_in_h (by first | decide | omega) (by first | decide | omega) (by first | decide | omega)) rfl (fun t126 g126 k126 e126 => ?_)
          have k27 : ai_hv t126 383 13 = some (.inl c) := (e126 383 13 (by first | decide | omega)).trans kc
          have k28 : ai_hv t126 383 21 = some (.inl fh) := (e126 383 21 (by first | decide | omega)).trans kf
          have s126 : px_S t126 (a + 1) f := ⟨g126, k126, (e126 383 8 (by first | decide | omega)).trans s0.2.2.1, by omega, s0.2.2.2.2⟩
          refine ex_go (S := (41, [(2, .inl b23), (0, gx_r 383), (1, .inl e)], [gx_r 383], t126, n, 0)) rfl (fun _ => rfl) rfl ?_
          refine ex_go (S := (42, [(2, .inl b23), (0, gx_r 383), (1, .inl e)], [.inl e, gx_r 383], t126, n, 0)) rfl (fun _ => rfl) rfl ?_
          have hT30 := rT_keep (t' := t126) hT (fun c i h => e126 c i (by first | decide | omega))
          obtain ⟨_, r129, t129, a129, f129, c129, rfl, x129, w129, wa129, y129⟩ := h d n _ _ _ _ s126 hT30 (by first | decide | omega) k27 (by first | decide | omega) k28
          have s129 := x129.1
          have e129 := x129.2.1
          have k129 := x129.2.2.1
          have q129 := x129.2.2.2.1
          have b129 := s129.2.2.2
          refine gx_call0 rfl rfl s126.1 rfl rfl r129 rfl ?_
          have k31 : ai_hv t129 383 21 = some (.inl fh) := (e129 383 21 (by first | decide | omega)).trans k28
          refine ex_go (S := (46, [(2, .inl b23), (0, gx_r 383), (1, .inl e)], [gx_r 383], t129, n, 0)) rfl (fun _ => rfl) rfl ?_
          refine ex_go (S := (47, [(2, .inl b23), (0, gx_r 383), (1, .inl e)], [.inl b23, gx_r 383], t129, n, 0)) rfl (fun _ => rfl) rfl ?_
          by_cases hc32 : b23 = 0
          · refine gx_1t (c := .eq) rfl (by first | decide | omega) hc32 rfl ?_
            refine ex_go (S := (57, [(2, .inl b23), (0, gx_r 383), (1, .inl e)], [.inl 10, gx_r 383], t129, n, 0)) rfl (fun _ => rfl) rfl ?_
            refine ex_go (S := (58, [(2, .inl b23), (0, gx_r 383), (1, .inl e)], [.inl 0, .inl 10, gx_r 383], t129, n, 0)) rfl (fun _ => rfl) rfl ?_
            obtain ⟨_, r133, t133, rfl, s133, e133, k133, ko133, kz133⟩ := pk_emit (d + l + 5) n (s129) (o := 10) (z := 0) (by first | decide | omega) (by first | decide | omega) (by first | decide | omega) k129
            have b133 := s133.2.2.2
            refine gx_call0 rfl rfl s129.1 rfl rfl r133 rfl ?_
            have k34 : ai_hv t133 383 21 = some (.inl fh) := (e133 383 21 (by first | decide | omega)).trans k31
            refine ex_go (S := (5, [(2, .inl b23), (0, gx_r 383), (1, .inl e)], [], t133, n, 0)) rfl (fun _ => rfl) rfl ?_
            exfalso; omega
          · refine gx_1f (c := .eq) rfl (by first | decide | omega) hc32 rfl ?_
            refine ex_go (S := (52, [(2, .inl b23), (0, gx_r 383), (1, .inl e)], [.inl 9, gx_r 383], t129, n, 0)) rfl (fun _ => rfl) rfl ?_
            refine ex_go (S := (57, [(2, .inl b23), (0, gx_r 383), (1, .inl e)], [.inl 9, gx_r 383], t129, n, 0)) rfl (fun _ => rfl) rfl ?_
            refine ex_go (S := (58, [(2, .inl b23), (0, gx_r 383), (1, .inl e)], [.inl 0, .inl 9, gx_r 383], t129, n, 0)) rfl (fun _ => rfl) rfl ?_
            obtain ⟨_, r135, t135, rfl, s135, e135, k135, ko135, kz135⟩ := pk_emit (d + l + 5) n (s129) (o := 9) (z := 0) (by first | decide | omega) (by first | decide | omega) (by first | decide | omega) k129
            have b135 := s135.2.2.2
            refine gx_call0 rfl rfl s129.1 rfl rfl r135 rfl ?_
            have k36 : ai_hv t135 383 21 = some (.inl fh) := (e135 383 21 (by first | decide | omega)).trans k31
            refine ex_go (S := (5, [(2, .inl b23), (0, gx_r 383), (1, .inl e)], [], t135, n, 0)) rfl (fun _ => rfl) rfl ?_
            exfalso; omega
  | succ j ih =>
    intro t0 a f c lx hlx hj hx hT ha kf
    have s0 := hx.1
    have kc := hx.2.2.1
    have q0 := hx.2.2.2.1
    have b0 := s0.2.2.2
    have hN := hT.2.2.2.2.1
    rcases hlx with rfl | ⟨bx, hbx, rfl⟩
    · show en_ex _ _ _ _ (5, [(0, gx_r 383), (1, .inl e)], [], t0, n, 0) _
      refine ex_go (S := (6, [(0, gx_r 383), (1, .inl e)], [gx_r 383], t0, n, 0)) rfl (fun _ => rfl) rfl ?_
      refine ex_go (S := (8, [(0, gx_r 383), (1, .inl e)], [.inl 36, gx_r 383], t0, n, 0)) rfl (fun _ => rfl) rfl ?_
      obtain ⟨_, r3, b1, rfl, q2⟩ := pe_isWord (d + l + 5) n (s0) hT (by first | decide | omega) (w := 36) (by first | decide | omega)
      refine gx_call1 rfl rfl s0.1 rfl rfl r3 rfl ?_
      have hlq2 : b1 = 1 → a < N := fun z => (q2.2.mp z).2.1
      by_cases hc4 : b1 ≠ 0
      · refine gx_1t (c := .ne) rfl (by first | decide | omega) hc4 rfl ?_
        refine ex_go (S := (24, [(0, gx_r 383), (1, .inl e)], [gx_r 383], t0, n, 0)) rfl (fun _ => rfl) rfl ?_
        refine ex_go (S := (26, [(0, gx_r 383), (1, .inl e)], [.inl 36, gx_r 383], t0, n, 0)) rfl (fun _ => rfl) rfl ?_
        obtain ⟨_, r7, b5, rfl, q6⟩ := pe_isWord (d + l + 5) n (s0) hT (by first | decide | omega) (w := 36) (by first | decide | omega)
        refine gx_call1 rfl rfl s0.1 rfl rfl r7 rfl ?_
        have hlq6 : b5 = 1 → a < N := fun z => (q6.2.mp z).2.1
        refine ex_go (S := (30, [(2, .inl b5), (0, gx_r 383), (1, .inl e)], [], t0, n, 0)) rfl (fun _ => rfl) rfl ?_
        refine ex_go (S := (31, [(2, .inl b5), (0, gx_r 383), (1, .inl e)], [gx_r 383], t0, n, 0)) rfl (fun _ => rfl) rfl ?_
        refine ex_go (S := (32, [(2, .inl b5), (0, gx_r 383), (1, .inl e)], [gx_r 383, gx_r 383], t0, n, 0)) rfl (fun _ => rfl) rfl ?_
        refine gx_get rfl s0.1 rfl s0.2.1 rfl ?_
        refine ex_go (S := (36, [(2, .inl b5), (0, gx_r 383), (1, .inl e)], [.inl 1, .inl a, gx_r 383], t0, n, 0)) rfl (fun _ => rfl) rfl ?_
        refine ex_iadd rfl (by first | decide | omega) rfl ?_
        refine gx_put rfl s0.1 rfl rfl (ai_in_h (by first | decide | omega) (by first | decide | omega) (by first | decide | omega)) rfl (fun t108 g108 k108 e108 => ?_)
        have k9 : ai_hv t108 383 13 = some (.inl c) := (e108 383 13 (by first | decide | omega)).trans kc
        have k10 : ai_hv t108 383 21 = some (.inl fh) := (e108 383 21 (by first | decide | omega)).trans kf
        have s108 : px_S t108 (a + 1) f := ⟨g108, k108, (e108 383 8 (by first | decide | omega)).trans s0.2.2.1, by omega, s0.2.2.2.2⟩
        refine ex_go (S := (41, [(2, .inl b5), (0, gx_r 383), (1, .inl e)], [gx_r 383], t108, n, 0)) rfl (fun _ => rfl) rfl ?_
        refine ex_go (S := (42, [(2, .inl b5), (0, gx_r 383), (1, .inl e)], [.inl e, gx_r 383], t108, n, 0)) rfl (fun _ => rfl) rfl ?_
        have hT12 := rT_keep (t' := t108) hT (fun c i h => e108 c i (by first | decide | omega))
        obtain ⟨_, r111, t111, a111, f111, c111, rfl, x111, w111, wa111, y111⟩ := h d n _ _ _ _ s108 hT12 (by first | decide | omega) k9 (by first | decide | omega) k10
        have s111 := x111.1
        have e111 := x111.2.1
        have k111 := x111.2.2.1
        have q111 := x111.2.2.2.1
        have b111 := s111.2.2.2
        refine gx_call0 rfl rfl s108.1 rfl rfl r111 rfl ?_
        have k13 : ai_hv t111 383 21 = some (.inl fh) := (e111 383 21 (by first | decide | omega)).trans k10
        refine ex_go (S := (46, [(2, .inl b5), (0, gx_r 383), (1, .inl e)], [gx_r 383], t111, n, 0)) rfl (fun _ => rfl) rfl ?_
        refine ex_go (S := (47, [(2, .inl b5), (0, gx_r 383), (1, .inl e)], [.inl b5, gx_r 383], t111, n, 0)) rfl (fun _ => rfl) rfl ?_
        by_cases hc14 : b5 = 0
        · refine gx_1t (c := .eq) rfl (by first | decide | omega) hc14 rfl ?_
          refine ex_go (S := (57, [(2, .inl b5), (0, gx_r 383), (1, .inl e)], [.inl 10, gx_r 383], t111, n, 0)) rfl (fun _ => rfl) rfl ?_
          refine ex_go (S := (58, [(2, .inl b5), (0, gx_r 383), (1, .inl e)], [.inl 0, .inl 10, gx_r 383], t111, n, 0)) rfl (fun _ => rfl) rfl ?_
          obtain ⟨_, r115, t115, rfl, s115, e115, k115, ko115, kz115⟩ := pk_emit (d + l + 5) n (s111) (o := 10) (z := 0) (by first | decide | omega) (by first | decide | omega) (by first | decide | omega) k111
          have b115 := s115.2.2.2
          refine gx_call0 rfl rfl s111.1 rfl rfl r115 rfl ?_
          have k16 : ai_hv t115 383 21 = some (.inl fh) := (e115 383 21 (by first | decide | omega)).trans k13
          refine ex_go (S := (5, [(2, .inl b5), (0, gx_r 383), (1, .inl e)], [], t115, n, 0)) rfl (fun _ => rfl) rfl ?_
          have hpf : f = 0 := by have := (q2.2.mp (by first | decide | omega)).1; omega
          have hoc := oc_36 (a := a) (q2.2.mp (by first | decide | omega)).2
          have hop : sp_op S m N 0 a := sp_op_0.mpr (Or.inl (q2.2.mp (by first | decide | omega)).2)
          exact absurd (q6.2.mpr (q2.2.mp (by first | decide | omega))) (by first | decide | omega)
        · refine gx_1f (c := .eq) rfl (by first | decide | omega) hc14 rfl ?_
          refine ex_go (S := (52, [(2, .inl b5), (0, gx_r 383), (1, .inl e)], [.inl 9, gx_r 383], t111, n, 0)) rfl (fun _ => rfl) rfl ?_
          refine ex_go (S := (57, [(2, .inl b5), (0, gx_r 383), (1, .inl e)], [.inl 9, gx_r 383], t111, n, 0)) rfl (fun _ => rfl) rfl ?_
          refine ex_go (S := (58, [(2, .inl b5), (0, gx_r 383), (1, .inl e)], [.inl 0, .inl 9, gx_r 383], t111, n, 0)) rfl (fun _ => rfl) rfl ?_
          obtain ⟨_, r117, t117, rfl, s117, e117, k117, ko117, kz117⟩ := pk_emit (d + l + 5) n (s111) (o := 9) (z := 0) (by first | decide | omega) (by first | decide | omega) (by first | decide | omega) k111
          have b117 := s117.2.2.2
          refine gx_call0 rfl rfl s111.1 rfl rfl r117 rfl ?_
          have k18 : ai_hv t117 383 21 = some (.inl fh) := (e117 383 21 (by first | decide | omega)).trans k13
          refine ex_go (S := (5, [(2, .inl b5), (0, gx_r 383), (1, .inl e)], [], t117, n, 0)) rfl (fun _ => rfl) rfl ?_
          have hpf : f = 0 := by have := (q2.2.mp (by first | decide | omega)).1; omega
          have hoc := oc_36 (a := a) (q2.2.mp (by first | decide | omega)).2
          have hop : sp_op S m N 0 a := sp_op_0.mpr (Or.inl (q2.2.mp (by first | decide | omega)).2)
          have w9 : Ev S m N fh 1 e (a + 1, 0) (a111, f111) := Ev_at w111 (by show a + 1 = a + 1; omega) (by show f = 0; omega)
          subst hpf
          have hT19 := rT_keep (t' := t117) hT (fun c i h => (e117 c i (by first | decide | omega)).trans ((e111 c i (by first | decide | omega)).trans (e108 c i (by first | decide | omega))))
          refine ex_imp (fun o9 h9 => ?_) (ih t117 a111 f111 (c111 + 1) [(2, .inl b5)] (Or.inr ⟨b5, by omega, rfl⟩) (by first | decide | omega) (px_X_bin hx rfl (by first | decide | omega) (fun c i h => e108 c i (by first | decide | omega)) x111 (by first | decide | omega) s117 e117 k117 ko117 kz117) hT19 (by first | decide | omega) k18)
          obtain ⟨r9, g0, t9, a9, f9, c9, g1, g2, g3, g4, g5, g6, g7⟩ := h9
          refine ⟨r9, g0, t9, a9, f9, c9, g1, g2, Ev_more (by first | decide | omega) (by first | decide | omega) hop w9 g3, g4, (fun c8 i8 h8 => (g5 c8 i8 (by first | decide | omega)).trans ((e117 c8 i8 (by first | decide | omega)).trans ((e111 c8 i8 (by first | decide | omega)).trans (e108 c8 i8 (by first | decide | omega))))), (fun _ => rfl), fun z9 => ?_⟩
          obtain ⟨L1, d1, l1, m1⟩ := y111 (g6 z9)
          obtain ⟨L2, d2, l2, m2⟩ := g7 z9
          have d1 := Ec_at (p' := (a + 1, 0)) d1 (by show a + 1 = a + 1; omega) (by first | rfl | (show f = 0; omega))
          refine ⟨L1 ++ ([sp_oc S m N a] ++ L2), Ec_more (by first | decide | omega) (by first | decide | omega) hop w9 d1 d2, ?_, ?_⟩
          · rw [List.length_append, List.length_append]
            show _ = c + (L1.length + (1 + L2.length))
            omega
          · refine rLs_app (rLs_keep m1 (fun c8 i8 h7 h8 => (g5 c8 i8 (by first | decide | omega)).trans (e117 c8 i8 (by first | decide | omega)))) (rLs_app (rLs_one (o := 9) (z := 0) ?_ ?_ (by rw [hoc]; rfl) (by rw [hoc]; rfl)) ?_)
            · rw [← l1]; exact (g5 _ _ (by first | decide | omega)).trans ko117
            · rw [← l1]; exact (g5 _ _ (by first | decide | omega)).trans kz117
            · rw [show c + L1.length + [sp_oc S m N a].length = c111 + 1 from by rw [← l1]; rfl]; exact m2
      · refine gx_1f (c := .ne) rfl (by first | decide | omega) hc4 rfl ?_
        refine ex_go (S := (15, [(0, gx_r 383), (1, .inl e)], [gx_r 383], t0, n, 0)) rfl (fun _ => rfl) rfl ?_
        refine ex_go (S := (17, [(0, gx_r 383), (1, .inl e)], [.inl 37, gx_r 383], t0, n, 0)) rfl (fun _ => rfl) rfl ?_
        obtain ⟨_, r22, b20, rfl, q21⟩ := pe_isWord (d + l + 5) n (s0) hT (by first | decide | omega) (w := 37) (by first | decide | omega)
        refine gx_call1 rfl rfl s0.1 rfl rfl r22 rfl ?_
        have hlq21 : b20 = 1 → a < N := fun z => (q21.2.mp z).2.1
        by_cases hc23 : b20 = 0
        · refine gx_1t (c := .eq) rfl (by first | decide | omega) hc23 rfl ?_
          refine ex_ret (r := (none, t0, n, 0)) rfl (fun _ => rfl) ?_
          have hno : f = 0 → ¬ sp_op S m N 0 a := fun hf z => by
              rcases sp_op_0.mp z with z | z
              · exact absurd (q2.2.mpr ⟨hf, z⟩) (by first | decide | omega)
              · exact absurd (q21.2.mpr ⟨hf, z⟩) (by first | decide | omega)
          exact ⟨_, rfl, t0, a, f, c, rfl, px_X_same hx (fun _ _ _ => rfl) s0 (by first | decide | omega) (by first | decide | omega), Ev_to (Ev_exit (by first | decide | omega) hno) (by show a = a; omega) (by show f = f; omega), by omega, (fun _ _ _ => rfl), (fun z => by omega), fun z => ⟨[], Ec_exit (by first | decide | omega) hno (by first | decide | omega), rfl, rLs_nil⟩⟩
        · refine gx_1f (c := .eq) rfl (by first | decide | omega) hc23 rfl ?_
          refine ex_go (S := (24, [(0, gx_r 383), (1, .inl e)], [gx_r 383], t0, n, 0)) rfl (fun _ => rfl) rfl ?_
          refine ex_go (S := (26, [(0, gx_r 383), (1, .inl e)], [.inl 36, gx_r 383], t0, n, 0)) rfl (fun _ => rfl) rfl ?_
          obtain ⟨_, r26, b24, rfl, q25⟩ := pe_isWord (d + l + 5) n (s0) hT (by first | decide | omega) (w := 36) (by first | decide | omega)
          refine gx_call1 rfl rfl s0.1 rfl rfl r26 rfl ?_
          have hlq25 : b24 = 1 → a < N := fun z => (q25.2.mp z).2.1
          refine ex_go (S := (30, [(2, .inl b24), (0, gx_r 383), (1, .inl e)], [], t0, n, 0)) rfl (fun _ => rfl) rfl ?_
          refine ex_go (S := (31, [(2, .inl b24), (0, gx_r 383), (1, .inl e)], [gx_r 383], t0, n, 0)) rfl (fun _ => rfl) rfl ?_
          refine ex_go (S := (32, [(2, .inl b24), (0, gx_r 383), (1, .inl e)], [gx_r 383, gx_r 383], t0, n, 0)) rfl (fun _ => rfl) rfl ?_
          refine gx_get rfl s0.1 rfl s0.2.1 rfl ?_
          refine ex_go (S := (36, [(2, .inl b24), (0, gx_r 383), (1, .inl e)], [.inl 1, .inl a, gx_r 383], t0, n, 0)) rfl (fun _ => rfl) rfl ?_
          refine ex_iadd rfl (by first | decide | omega) rfl ?_
          refine gx_put rfl s0.1 rfl rfl (ai_in_h (by first | decide | omega) (by first | decide | omega) (by first | decide | omega)) rfl (fun t127 g127 k127 e127 => ?_)
          have k28 : ai_hv t127 383 13 = some (.inl c) := (e127 383 13 (by first | decide | omega)).trans kc
          have k29 : ai_hv t127 383 21 = some (.inl fh) := (e127 383 21 (by first | decide | omega)).trans kf
          have s127 : px_S t127 (a + 1) f := ⟨g127, k127, (e127 383 8 (by first | decide | omega)).trans s0.2.2.1, by omega, s0.2.2.2.2⟩
          refine ex_go (S := (41, [(2, .inl b24), (0, gx_r 383), (1, .inl e)], [gx_r 383], t127, n, 0)) rfl (fun _ => rfl) rfl ?_
          refine ex_go (S := (42, [(2, .inl b24), (0, gx_r 383), (1, .inl e)], [.inl e, gx_r 383], t127, n, 0)) rfl (fun _ => rfl) rfl ?_
          have hT31 := rT_keep (t' := t127) hT (fun c i h => e127 c i (by first | decide | omega))
          obtain ⟨_, r130, t130, a130, f130, c130, rfl, x130, w130, wa130, y130⟩ := h d n _ _ _ _ s127 hT31 (by first | decide | omega) k28 (by first | decide | omega) k29
          have s130 := x130.1
          have e130 := x130.2.1
          have k130 := x130.2.2.1
          have q130 := x130.2.2.2.1
          have b130 := s130.2.2.2
          refine gx_call0 rfl rfl s127.1 rfl rfl r130 rfl ?_
          have k32 : ai_hv t130 383 21 = some (.inl fh) := (e130 383 21 (by first | decide | omega)).trans k29
          refine ex_go (S := (46, [(2, .inl b24), (0, gx_r 383), (1, .inl e)], [gx_r 383], t130, n, 0)) rfl (fun _ => rfl) rfl ?_
          refine ex_go (S := (47, [(2, .inl b24), (0, gx_r 383), (1, .inl e)], [.inl b24, gx_r 383], t130, n, 0)) rfl (fun _ => rfl) rfl ?_
          by_cases hc33 : b24 = 0
          · refine gx_1t (c := .eq) rfl (by first | decide | omega) hc33 rfl ?_
            refine ex_go (S := (57, [(2, .inl b24), (0, gx_r 383), (1, .inl e)], [.inl 10, gx_r 383], t130, n, 0)) rfl (fun _ => rfl) rfl ?_
            refine ex_go (S := (58, [(2, .inl b24), (0, gx_r 383), (1, .inl e)], [.inl 0, .inl 10, gx_r 383], t130, n, 0)) rfl (fun _ => rfl) rfl ?_
            obtain ⟨_, r134, t134, rfl, s134, e134, k134, ko134, kz134⟩ := pk_emit (d + l + 5) n (s130) (o := 10) (z := 0) (by first | decide | omega) (by first | decide | omega) (by first | decide | omega) k130
            have b134 := s134.2.2.2
            refine gx_call0 rfl rfl s130.1 rfl rfl r134 rfl ?_
            have k35 : ai_hv t134 383 21 = some (.inl fh) := (e134 383 21 (by first | decide | omega)).trans k32
            refine ex_go (S := (5, [(2, .inl b24), (0, gx_r 383), (1, .inl e)], [], t134, n, 0)) rfl (fun _ => rfl) rfl ?_
            have hpf : f = 0 := by have := (q21.2.mp (by first | decide | omega)).1; omega
            have hoc := oc_37 (a := a) (q21.2.mp (by first | decide | omega)).2
            have hop : sp_op S m N 0 a := sp_op_0.mpr (Or.inr (q21.2.mp (by first | decide | omega)).2)
            have w9 : Ev S m N fh 1 e (a + 1, 0) (a130, f130) := Ev_at w130 (by show a + 1 = a + 1; omega) (by show f = 0; omega)
            subst hpf
            have hT36 := rT_keep (t' := t134) hT (fun c i h => (e134 c i (by first | decide | omega)).trans ((e130 c i (by first | decide | omega)).trans (e127 c i (by first | decide | omega))))
            refine ex_imp (fun o9 h9 => ?_) (ih t134 a130 f130 (c130 + 1) [(2, .inl b24)] (Or.inr ⟨b24, by omega, rfl⟩) (by first | decide | omega) (px_X_bin hx rfl (by first | decide | omega) (fun c i h => e127 c i (by first | decide | omega)) x130 (by first | decide | omega) s134 e134 k134 ko134 kz134) hT36 (by first | decide | omega) k35)
            obtain ⟨r9, g0, t9, a9, f9, c9, g1, g2, g3, g4, g5, g6, g7⟩ := h9
            refine ⟨r9, g0, t9, a9, f9, c9, g1, g2, Ev_more (by first | decide | omega) (by first | decide | omega) hop w9 g3, g4, (fun c8 i8 h8 => (g5 c8 i8 (by first | decide | omega)).trans ((e134 c8 i8 (by first | decide | omega)).trans ((e130 c8 i8 (by first | decide | omega)).trans (e127 c8 i8 (by first | decide | omega))))), (fun _ => rfl), fun z9 => ?_⟩
            obtain ⟨L1, d1, l1, m1⟩ := y130 (g6 z9)
            obtain ⟨L2, d2, l2, m2⟩ := g7 z9
            have d1 := Ec_at (p' := (a + 1, 0)) d1 (by show a + 1 = a + 1; omega) (by first | rfl | (show f = 0; omega))
            refine ⟨L1 ++ ([sp_oc S m N a] ++ L2), Ec_more (by first | decide | omega) (by first | decide | omega) hop w9 d1 d2, ?_, ?_⟩
            · rw [List.length_append, List.length_append]
              show _ = c + (L1.length + (1 + L2.length))
              omega
            · refine rLs_app (rLs_keep m1 (fun c8 i8 h7 h8 => (g5 c8 i8 (by first | decide | omega)).trans (e134 c8 i8 (by first | decide | omega)))) (rLs_app (rLs_one (o := 10) (z := 0) ?_ ?_ (by rw [hoc]; rfl) (by rw [hoc]; rfl)) ?_)
              · rw [← l1]; exact (g5 _ _ (by first | decide | omega)).trans ko134
              · rw [← l1]; exact (g5 _ _ (by first | decide | omega)).trans kz134
              · rw [show c + L1.length + [sp_oc S m N a].length = c130 + 1 from by rw [← l1]; rfl]; exact m2
          · refine gx_1f (c := .eq) rfl (by first | decide | omega) hc33 rfl ?_
            refine ex_go (S := (52, [(2, .inl b24), (0, gx_r 383), (1, .inl e)], [.inl 9, gx_r 383], t130, n, 0)) rfl (fun _ => rfl) rfl ?_
            refine ex_go (S := (57, [(2, .inl b24), (0, gx_r 383), (1, .inl e)], [.inl 9, gx_r 383], t130, n, 0)) rfl (fun _ => rfl) rfl ?_
            refine ex_go (S := (58, [(2, .inl b24), (0, gx_r 383), (1, .inl e)], [.inl 0, .inl 9, gx_r 383], t130, n, 0)) rfl (fun _ => rfl) rfl ?_
            obtain ⟨_, r137, t137, rfl, s137, e137, k137, ko137, kz137⟩ := pk_emit (d + l + 5) n (s130) (o := 9) (z := 0) (by first | decide | omega) (by first | decide | omega) (by first | decide | omega) k130
            have b137 := s137.2.2.2
            refine gx_call0 rfl rfl s130.1 rfl rfl r137 rfl ?_
            have k38 : ai_hv t137 383 21 = some (.inl fh) := (e137 383 21 (by first | decide | omega)).trans k32
            refine ex_go (S := (5, [(2, .inl b24), (0, gx_r 383), (1, .inl e)], [], t137, n, 0)) rfl (fun _ => rfl) rfl ?_
            have hpf : f = 0 := by have := (q21.2.mp (by first | decide | omega)).1; omega
            have hoc := oc_37 (a := a) (q21.2.mp (by first | decide | omega)).2
            have hop : sp_op S m N 0 a := sp_op_0.mpr (Or.inr (q21.2.mp (by first | decide | omega)).2)
            exact absurd (q2.2.mpr (q25.2.mp (by first | decide | omega))) (by first | decide | omega)
    · show en_ex _ _ _ _ (5, [(2, .inl bx), (0, gx_r 383), (1, .inl e)], [], t0, n, 0) _
      refine ex_go (S := (6, [(2, .inl bx), (0, gx_r 383), (1, .inl e)], [gx_r 383], t0, n, 0)) rfl (fun _ => rfl) rfl ?_
      refine ex_go (S := (8, [(2, .inl bx), (0, gx_r 383), (1, .inl e)], [.inl 36, gx_r 383], t0, n, 0)) rfl (fun _ => rfl) rfl ?_
      obtain ⟨_, r3, b1, rfl, q2⟩ := pe_isWord (d + l + 5) n (s0) hT (by first | decide | omega) (w := 36) (by first | decide | omega)
      refine gx_call1 rfl rfl s0.1 rfl rfl r3 rfl ?_
      have hlq2 : b1 = 1 → a < N := fun z => (q2.2.mp z).2.1
      by_cases hc4 : b1 ≠ 0
      · refine gx_1t (c := .ne) rfl (by first | decide | omega) hc4 rfl ?_
        refine ex_go (S := (24, [(2, .inl bx), (0, gx_r 383), (1, .inl e)], [gx_r 383], t0, n, 0)) rfl (fun _ => rfl) rfl ?_
        refine ex_go (S := (26, [(2, .inl bx), (0, gx_r 383), (1, .inl e)], [.inl 36, gx_r 383], t0, n, 0)) rfl (fun _ => rfl) rfl ?_
        obtain ⟨_, r7, b5, rfl, q6⟩ := pe_isWord (d + l + 5) n (s0) hT (by first | decide | omega) (w := 36) (by first | decide | omega)
        refine gx_call1 rfl rfl s0.1 rfl rfl r7 rfl ?_
        have hlq6 : b5 = 1 → a < N := fun z => (q6.2.mp z).2.1
        refine ex_go (S := (30, [(2, .inl b5), (0, gx_r 383), (1, .inl e)], [], t0, n, 0)) rfl (fun _ => rfl) rfl ?_
        refine ex_go (S := (31, [(2, .inl b5), (0, gx_r 383), (1, .inl e)], [gx_r 383], t0, n, 0)) rfl (fun _ => rfl) rfl ?_
        refine ex_go (S := (32, [(2, .inl b5), (0, gx_r 383), (1, .inl e)], [gx_r 383, gx_r 383], t0, n, 0)) rfl (fun _ => rfl) rfl ?_
        refine gx_get rfl s0.1 rfl s0.2.1 rfl ?_
        refine ex_go (S := (36, [(2, .inl b5), (0, gx_r 383), (1, .inl e)], [.inl 1, .inl a, gx_r 383], t0, n, 0)) rfl (fun _ => rfl) rfl ?_
        refine ex_iadd rfl (by first | decide | omega) rfl ?_
        refine gx_put rfl s0.1 rfl rfl (ai_in_h (by first | decide | omega) (by first | decide | omega) (by first | decide | omega)) rfl (fun t108 g108 k108 e108 => ?_)
        have k9 : ai_hv t108 383 13 = some (.inl c) := (e108 383 13 (by first | decide | omega)).trans kc
        have k10 : ai_hv t108 383 21 = some (.inl fh) := (e108 383 21 (by first | decide | omega)).trans kf
        have s108 : px_S t108 (a + 1) f := ⟨g108, k108, (e108 383 8 (by first | decide | omega)).trans s0.2.2.1, by omega, s0.2.2.2.2⟩
        refine ex_go (S := (41, [(2, .inl b5), (0, gx_r 383), (1, .inl e)], [gx_r 383], t108, n, 0)) rfl (fun _ => rfl) rfl ?_
        refine ex_go (S := (42, [(2, .inl b5), (0, gx_r 383), (1, .inl e)], [.inl e, gx_r 383], t108, n, 0)) rfl (fun _ => rfl) rfl ?_
        have hT12 := rT_keep (t' := t108) hT (fun c i h => e108 c i (by first | decide | omega))
        obtain ⟨_, r111, t111, a111, f111, c111, rfl, x111, w111, wa111, y111⟩ := h d n _ _ _ _ s108 hT12 (by first | decide | omega) k9 (by first | decide | omega) k10
        have s111 := x111.1
        have e111 := x111.2.1
        have k111 := x111.2.2.1
        have q111 := x111.2.2.2.1
        have b111 := s111.2.2.2
        refine gx_call0 rfl rfl s108.1 rfl rfl r111 rfl ?_
        have k13 : ai_hv t111 383 21 = some (.inl fh) := (e111 383 21 (by first | decide | omega)).trans k10
        refine ex_go (S := (46, [(2, .inl b5), (0, gx_r 383), (1, .inl e)], [gx_r 383], t111, n, 0)) rfl (fun _ => rfl) rfl ?_
        refine ex_go (S := (47, [(2, .inl b5), (0, gx_r 383), (1, .inl e)], [.inl b5, gx_r 383], t111, n, 0)) rfl (fun _ => rfl) rfl ?_
        by_cases hc14 : b5 = 0
        · refine gx_1t (c := .eq) rfl (by first | decide | omega) hc14 rfl ?_
          refine ex_go (S := (57, [(2, .inl b5), (0, gx_r 383), (1, .inl e)], [.inl 10, gx_r 383], t111, n, 0)) rfl (fun _ => rfl) rfl ?_
          refine ex_go (S := (58, [(2, .inl b5), (0, gx_r 383), (1, .inl e)], [.inl 0, .inl 10, gx_r 383], t111, n, 0)) rfl (fun _ => rfl) rfl ?_
          obtain ⟨_, r115, t115, rfl, s115, e115, k115, ko115, kz115⟩ := pk_emit (d + l + 5) n (s111) (o := 10) (z := 0) (by first | decide | omega) (by first | decide | omega) (by first | decide | omega) k111
          have b115 := s115.2.2.2
          refine gx_call0 rfl rfl s111.1 rfl rfl r115 rfl ?_
          have k16 : ai_hv t115 383 21 = some (.inl fh) := (e115 383 21 (by first | decide | omega)).trans k13
          refine ex_go (S := (5, [(2, .inl b5), (0, gx_r 383), (1, .inl e)], [], t115, n, 0)) rfl (fun _ => rfl) rfl ?_
          have hpf : f = 0 := by have := (q2.2.mp (by first | decide | omega)).1; omega
          have hoc := oc_36 (a := a) (q2.2.mp (by first | decide | omega)).2
          have hop : sp_op S m N 0 a := sp_op_0.mpr (Or.inl (q2.2.mp (by first | decide | omega)).2)
          exact absurd (q6.2.mpr (q2.2.mp (by first | decide | omega))) (by first | decide | omega)
        · refine gx_1f (c := .eq) rfl (by first | decide | omega) hc14 rfl ?_
          refine ex_go (S := (52, [(2, .inl b5), (0, gx_r 383), (1, .inl e)], [.inl 9, gx_r 383], t111, n, 0)) rfl (fun _ => rfl) rfl ?_
          refine ex_go (S := (57, [(2, .inl b5), (0, gx_r 383), (1, .inl e)], [.inl 9, gx_r 383], t111, n, 0)) rfl (fun _ => rfl) rfl ?_
          refine ex_go (S := (58, [(2, .inl b5), (0, gx_r 383), (1, .inl e)], [.inl 0, .inl 9, gx_r 383], t111, n, 0)) rfl (fun _ => rfl) rfl ?_
          obtain ⟨_, r117, t117, rfl, s117, e117, k117, ko117, kz117⟩ := pk_emit (d + l + 5) n (s111) (o := 9) (z := 0) (by first | decide | omega) (by first | decide | omega) (by first | decide | omega) k111
          have b117 := s117.2.2.2
          refine gx_call0 rfl rfl s111.1 rfl rfl r117 rfl ?_
          have k18 : ai_hv t117 383 21 = some (.inl fh) := (e117 383 21 (by first | decide | omega)).trans k13
          refine ex_go (S := (5, [(2, .inl b5), (0, gx_r 383), (1, .inl e)], [], t117, n, 0)) rfl (fun _ => rfl) rfl ?_
          have hpf : f = 0 := by have := (q2.2.mp (by first | decide | omega)).1; omega
          have hoc := oc_36 (a := a) (q2.2.mp (by first | decide | omega)).2
          have hop : sp_op S m N 0 a := sp_op_0.mpr (Or.inl (q2.2.mp (by first | decide | omega)).2)
          have w9 : Ev S m N fh 1 e (a + 1, 0) (a111, f111) := Ev_at w111 (by show a + 1 = a + 1; omega) (by show f = 0; omega)
          subst hpf
          have hT19 := rT_keep (t' := t117) hT (fun c i h => (e117 c i (by first | decide | omega)).trans ((e111 c i (by first | decide | omega)).trans (e108 c i (by first | decide | omega))))
          refine ex_imp (fun o9 h9 => ?_) (ih t117 a111 f111 (c111 + 1) [(2, .inl b5)] (Or.inr ⟨b5, by omega, rfl⟩) (by first | decide | omega) (px_X_bin hx rfl (by first | decide | omega) (fun c i h => e108 c i (by first | decide | omega)) x111 (by first | decide | omega) s117 e117 k117 ko117 kz117) hT19 (by first | decide | omega) k18)
          obtain ⟨r9, g0, t9, a9, f9, c9, g1, g2, g3, g4, g5, g6, g7⟩ := h9
          refine ⟨r9, g0, t9, a9, f9, c9, g1, g2, Ev_more (by first | decide | omega) (by first | decide | omega) hop w9 g3, g4, (fun c8 i8 h8 => (g5 c8 i8 (by first | decide | omega)).trans ((e117 c8 i8 (by first | decide | omega)).trans ((e111 c8 i8 (by first | decide | omega)).trans (e108 c8 i8 (by first | decide | omega))))), (fun _ => rfl), fun z9 => ?_⟩
          obtain ⟨L1, d1, l1, m1⟩ := y111 (g6 z9)
          obtain ⟨L2, d2, l2, m2⟩ := g7 z9
          have d1 := Ec_at (p' := (a + 1, 0)) d1 (by show a + 1 = a + 1; omega) (by first | rfl | (show f = 0; omega))
          refine ⟨L1 ++ ([sp_oc S m N a] ++ L2), Ec_more (by first | decide | omega) (by first | decide | omega) hop w9 d1 d2, ?_, ?_⟩
          · rw [List.length_append, List.length_append]
            show _ = c + (L1.length + (1 + L2.length))
            omega
          · refine rLs_app (rLs_keep m1 (fun c8 i8 h7 h8 => (g5 c8 i8 (by first | decide | omega)).trans (e117 c8 i8 (by first | decide | omega)))) (rLs_app (rLs_one (o := 9) (z := 0) ?_ ?_ (by rw [hoc]; rfl) (by rw [hoc]; rfl)) ?_)
            · rw [← l1]; exact (g5 _ _ (by first | decide | omega)).trans ko117
            · rw [← l1]; exact (g5 _ _ (by first | decide | omega)).trans kz117
            · rw [show c + L1.length + [sp_oc S m N a].length = c111 + 1 from by rw [← l1]; rfl]; exact m2
      · refine gx_1f (c := .ne) rfl (by first | decide | omega) hc4 rfl ?_
        refine ex_go (S := (15, [(2, .inl bx), (0, gx_r 383), (1, .inl e)], [gx_r 383], t0, n, 0)) rfl (fun _ => rfl) rfl ?_
        refine ex_go (S := (17, [(2, .inl bx), (0, gx_r 383), (1, .inl e)], [.inl 37, gx_r 383], t0, n, 0)) rfl (fun _ => rfl) rfl ?_
        obtain ⟨_, r22, b20, rfl, q21⟩ := pe_isWord (d + l + 5) n (s0) hT (by first | decide | omega) (w := 37) (by first | decide | omega)
        refine gx_call1 rfl rfl s0.1 rfl rfl r22 rfl ?_
        have hlq21 : b20 = 1 → a < N := fun z => (q21.2.mp z).2.1
        by_cases hc23 : b20 = 0
        · refine gx_1t (c := .eq) rfl (by first | decide | omega) hc23 rfl ?_
          refine ex_ret (r := (none, t0, n, 0)) rfl (fun _ => rfl) ?_
          have hno : f = 0 → ¬ sp_op S m N 0 a := fun hf z => by
              rcases sp_op_0.mp z with z | z
              · exact absurd (q2.2.mpr ⟨hf, z⟩) (by first | decide | omega)
              · exact absurd (q21.2.mpr ⟨hf, z⟩) (by first | decide | omega)
          exact ⟨_, rfl, t0, a, f, c, rfl, px_X_same hx (fun _ _ _ => rfl) s0 (by first | decide | omega) (by first | decide | omega), Ev_to (Ev_exit (by first | decide | omega) hno) (by show a = a; omega) (by show f = f; omega), by omega, (fun _ _ _ => rfl), (fun z => by omega), fun z => ⟨[], Ec_exit (by first | decide | omega) hno (by first | decide | omega), rfl, rLs_nil⟩⟩
        · refine gx_1f (c := .eq) rfl (by first | decide | omega) hc23 rfl ?_
          refine ex_go (S := (24, [(2, .inl bx), (0, gx_r 383), (1, .inl e)], [gx_r 383], t0, n, 0)) rfl (fun _ => rfl) rfl ?_
          refine ex_go (S := (26, [(2, .inl bx), (0, gx_r 383), (1, .inl e)], [.inl 36, gx_r 383], t0, n, 0)) rfl (fun _ => rfl) rfl ?_
          obtain ⟨_, r26, b24, rfl, q25⟩ := pe_isWord (d + l + 5) n (s0) hT (by first | decide | omega) (w := 36) (by first | decide | omega)
          refine gx_call1 rfl rfl s0.1 rfl rfl r26 rfl ?_
          have hlq25 : b24 = 1 → a < N := fun z => (q25.2.mp z).2.1
          refine ex_go (S := (30, [(2, .inl b24), (0, gx_r 383), (1, .inl e)], [], t0, n, 0)) rfl (fun _ => rfl) rfl ?_
          refine ex_go (S := (31, [(2, .inl b24), (0, gx_r 383), (1, .inl e)], [gx_r 383], t0, n, 0)) rfl (fun _ => rfl) rfl ?_
          refine ex_go (S := (32, [(2, .inl b24), (0, gx_r 383), (1, .inl e)], [gx_r 383, gx_r 383], t0, n, 0)) rfl (fun _ => rfl) rfl ?_
          refine gx_get rfl s0.1 rfl s0.2.1 rfl ?_
          refine ex_go (S := (36, [(2, .inl b24), (0, gx_r 383), (1, .inl e)], [.inl 1, .inl a, gx_r 383], t0, n, 0)) rfl (fun _ => rfl) rfl ?_
          refine ex_iadd rfl (by first | decide | omega) rfl ?_
          refine gx_put rfl s0.1 rfl rfl (ai_in_h (by first | decide | omega) (by first | decide | omega) (by first | decide | omega)) rfl (fun t127 g127 k127 e127 => ?_)
          have k28 : ai_hv t127 383 13 = some (.inl c) := (e127 383 13 (by first | decide | omega)).trans kc
          have k29 : ai_hv t127 383 21 = some (.inl fh) := (e127 383 21 (by first | decide | omega)).trans kf
          have s127 : px_S t127 (a + 1) f := ⟨g127, k127, (e127 383 8 (by first | decide | omega)).trans s0.2.2.1, by omega, s0.2.2.2.2⟩
          refine ex_go (S := (41, [(2, .inl b24), (0, gx_r 383), (1, .inl e)], [gx_r 383], t127, n, 0)) rfl (fun _ => rfl) rfl ?_
          refine ex_go (S := (42, [(2, .inl b24), (0, gx_r 383), (1, .inl e)], [.inl e, gx_r 383], t127, n, 0)) rfl (fun _ => rfl) rfl ?_
          have hT31 := rT_keep (t' := t127) hT (fun c i h => e127 c i (by first | decide | omega))
          obtain ⟨_, r130, t130, a130, f130, c130, rfl, x130, w130, wa130, y130⟩ := h d n _ _ _ _ s127 hT31 (by first | decide | omega) k28 (by first | decide | omega) k29
          have s130 := x130.1
          have e130 := x130.2.1
          have k130 := x130.2.2.1
          have q130 := x130.2.2.2.1
          have b130 := s130.2.2.2
          refine gx_call0 rfl rfl s127.1 rfl rfl r130 rfl ?_
          have k32 : ai_hv t130 383 21 = some (.inl fh) := (e130 383 21 (by first | decide | omega)).trans k29
          refine ex_go (S := (46, [(2, .inl b24), (0, gx_r 383), (1, .inl e)], [gx_r 383], t130, n, 0)) rfl (fun _ => rfl) rfl ?_
          refine ex_go (S := (47, [(2, .inl b24), (0, gx_r 383), (1, .inl e)], [.inl b24, gx_r 383], t130, n, 0)) rfl (fun _ => rfl) rfl ?_
          by_cases hc33 : b24 = 0
          · refine gx_1t (c := .eq) rfl (by first | decide | omega) hc33 rfl ?_
            refine ex_go (S := (57, [(2, .inl b24), (0, gx_r 383), (1, .inl e)], [.inl 10, gx_r 383], t130, n, 0)) rfl (fun _ => rfl) rfl ?_
            refine ex_go (S := (58, [(2, .inl b24), (0, gx_r 383), (1, .inl e)], [.inl 0, .inl 10, gx_r 383], t130, n, 0)) rfl (fun _ => rfl) rfl ?_
            obtain ⟨_, r134, t134, rfl, s134, e134, k134, ko134, kz134⟩ := pk_emit (d + l + 5) n (s130) (o := 10) (z := 0) (by first | decide | omega) (by first | decide | omega) (by first | decide | omega) k130
            have b134 := s134.2.2.2
            refine gx_call0 rfl rfl s130.1 rfl rfl r134 rfl ?_
            have k35 : ai_hv t134 383 21 = some (.inl fh) := (e134 383 21 (by first | decide | omega)).trans k32
            refine ex_go (S := (5, [(2, .inl b24), (0, gx_r 383), (1, .inl e)], [], t134, n, 0)) rfl (fun _ => rfl) rfl ?_
            have hpf : f = 0 := by have := (q21.2.mp (by first | decide | omega)).1; omega
            have hoc := oc_37 (a := a) (q21.2.mp (by first | decide | omega)).2
            have hop : sp_op S m N 0 a := sp_op_0.mpr (Or.inr (q21.2.mp (by first | decide | omega)).2)
            have w9 : Ev S m N fh 1 e (a + 1, 0) (a130, f130) := Ev_at w130 (by show a + 1 = a + 1; omega) (by show f = 0; omega)
            subst hpf
            have hT36 := rT_keep (t' := t134) hT (fun c i h => (e134 c i (by first | decide | omega)).trans ((e130 c i (by first | decide | omega)).trans (e127 c i (by first | decide | omega))))
            refine ex_imp (fun o9 h9 => ?_) (ih t134 a130 f130 (c130 + 1) [(2, .inl b24)] (Or.inr ⟨b24, by omega, rfl⟩) (by first | decide | omega) (px_X_bin hx rfl (by first | decide | omega) (fun c i h => e127 c i (by first | decide | omega)) x130 (by first | decide | omega) s134 e134 k134 ko134 kz134) hT36 (by first | decide | omega) k35)
            obtain ⟨r9, g0, t9, a9, f9, c9, g1, g2, g3, g4, g5, g6, g7⟩ := h9
            refine ⟨r9, g0, t9, a9, f9, c9, g1, g2, Ev_more (by first | decide | omega) (by first | decide | omega) hop w9 g3, g4, (fun c8 i8 h8 => (g5 c8 i8 (by first | decide | omega)).trans ((e134 c8 i8 (by first | decide | omega)).trans ((e130 c8 i8 (by first | decide | omega)).trans (e127 c8 i8 (by first | decide | omega))))), (fun _ => rfl), fun z9 => ?_⟩
            obtain ⟨L1, d1, l1, m1⟩ := y130 (g6 z9)
            obtain ⟨L2, d2, l2, m2⟩ := g7 z9
            have d1 := Ec_at (p' := (a + 1, 0)) d1 (by show a + 1 = a + 1; omega) (by first | rfl | (show f = 0; omega))
            refine ⟨L1 ++ ([sp_oc S m N a] ++ L2), Ec_more (by first | decide | omega) (by first | decide | omega) hop w9 d1 d2, ?_, ?_⟩
            · rw [List.length_append, List.length_append]
              show _ = c + (L1.length + (1 + L2.length))
              omega
            · refine rLs_app (rLs_keep m1 (fun c8 i8 h7 h8 => (g5 c8 i8 (by first | decide | omega)).trans (e134 c8 i8 (by first | decide | omega)))) (rLs_app (rLs_one (o := 10) (z := 0) ?_ ?_ (by rw [hoc]; rfl) (by rw [hoc]; rfl)) ?_)
              · rw [← l1]; exact (g5 _ _ (by first | decide | omega)).trans ko134
              · rw [← l1]; exact (g5 _ _ (by first | decide | omega)).trans kz134
              · rw [show c + L1.length + [sp_oc S m N a].length = c130 + 1 from by rw [← l1]; rfl]; exact m2
          · refine gx_1f (c := .eq) rfl (by first | decide | omega) hc33 rfl ?_
            refine ex_go (S := (52, [(2, .inl b24), (0, gx_r 383), (1, .inl e)], [.inl 9, gx_r 383], t130, n, 0)) rfl (fun _ => rfl) rfl ?_
            refine ex_go (S := (57, [(2, .inl b24), (0, gx_r 383), (1, .inl e)], [.inl 9, gx_r 383], t130, n, 0)) rfl (fun _ => rfl) rfl ?_
            refine ex_go (S := (58, [(2, .inl b24), (0, gx_r 383), (1, .inl e)], [.inl 0, .inl 9, gx_r 383], t130, n, 0)) rfl (fun _ => rfl) rfl ?_
            obtain ⟨_, r137, t137, rfl, s137, e137, k137, ko137, kz137⟩ := pk_emit (d + l + 5) n (s130) (o := 9) (z := 0) (by first | decide | omega) (by first | decide | omega) (by first | decide | omega) k130
            have b137 := s137.2.2.2
            refine gx_call0 rfl rfl s130.1 rfl rfl r137 rfl ?_
            have k38 : ai_hv t137 383 21 = some (.inl fh) := (e137 383 21 (by first | decide | omega)).trans k32
            refine ex_go (S := (5, [(2, .inl b24), (0, gx_r 383), (1, .inl e)], [], t137, n, 0)) rfl (fun _ => rfl) rfl ?_
            have hpf : f = 0 := by have := (q21.2.mp (by first | decide | omega)).1; omega
            have hoc := oc_37 (a := a) (q21.2.mp (by first | decide | omega)).2
            have hop : sp_op S m N 0 a := sp_op_0.mpr (Or.inr (q21.2.mp (by first | decide | omega)).2)
            exact absurd (q2.2.mpr (q25.2.mp (by first | decide | omega))) (by first | decide | omega)
theorem pe_all {l e : Nat} (h : ∀ d, pe_C S m N fh (d + l + 6) 271 1 e) (he : e ≤ 5) (d : Nat) : pe_C S m N fh (d + l + 7) 247 0 e := by
  intro n t0 a f c s0 hT ha kc hca kf
  have b0 := s0.2.2.2
  have hN := hT.2.2.2.2.1
  refine en_u_ex (d := d + l + 6) rfl ?_
  show en_ex _ _ _ _ (0, [(0, gx_r 383), (1, .inl e)], [], t0, n, 0) _
  refine ex_go (S := (1, [(0, gx_r 383), (1, .inl e)], [gx_r 383], t0, n, 0)) rfl (fun _ => rfl) rfl ?_
  refine ex_go (S := (2, [(0, gx_r 383), (1, .inl e)], [.inl e, gx_r 383], t0, n, 0)) rfl (fun _ => rfl) rfl ?_
  obtain ⟨_, r101, t101, a101, f101, c101, rfl, x101, w101, wa101, y101⟩ := h d n _ _ _ _ s0 hT (by first | decide | omega) kc (by first | decide | omega) kf
  have s101 := x101.1
  have e101 := x101.2.1
  have k101 := x101.2.2.1
  have q101 := x101.2.2.2.1
  have b101 := s101.2.2.2
  refine gx_call0 rfl rfl s0.1 rfl rfl r101 rfl ?_
  have k2 : ai_hv t101 383 21 = some (.inl fh) := (e101 383 21 (by first | decide | omega)).trans kf
  have hT3 := rT_keep (t' := t101) hT (fun c i h => e101 c i (by first | decide | omega))
  refine ex_imp (fun o9 h9 => ?_) (pe_all_l h he d n hca 1000 t101 a101 f101 c101 [] (Or.inl rfl) (by first | decide | omega) x101 hT3 (by first | decide | omega) k2)
  obtain ⟨r9, g0, t9, a9, f9, c9, g1, g2, g3, g4, g5, g6, g7⟩ := h9
  refine ⟨r9, g0, t9, a9, f9, c9, g1, g2, Ev_seq (by first | decide | omega) w101 g3, g4, fun z9 => ?_⟩
  obtain ⟨L1, d1, l1, m1⟩ := y101 (g6 z9)
  obtain ⟨L2, d2, l2, m2⟩ := g7 z9
  have hz9 := g6 z9
  exact ⟨L1 ++ L2, Ec_seq (by first | decide | omega) (by first | decide | omega) w101 d1 d2, by rw [List.length_append]; omega, rLs_app (rLs_keep m1 (fun c8 i8 h7 h8 => g5 c8 i8 (by first | decide | omega))) (by rw [← l1]; exact m2)⟩
theorem pe_takePart_t {l e : Nat} (hfh : fh = 7 ∨ fh = 8 ∨ fh = 2) (hP : ∀ d, pe_C S m N fh (d + l + 3) 288 4 (e + 1)) (hA : ∀ d, pe_C S m N fh (d + l + 7) 247 0 (e + 1)) (he : e ≤ 4) (d n : Nat) {t0 : en_H} {a f c nb fa : Nat} (s0 : px_S t0 a f) (hT : rT t0 S m N) (ha : a ≤ N) (kc : ai_hv t0 383 13 = some (.inl c)) (hca : c ≤ a) (kf : ai_hv t0 383 21 = some (.inl fh)) (hf : f = 0) (hb : sp_bp S m N fh a) (hk : (nb = 1 ∧ a < N ∧ sp_kt S m N a = 2) ∨ (nb = 0 ∧ fa < 4 ∧ a < N ∧ sp_wd S m N a (38 + fa) ∧ (fh >>> fa) % 2 = 1) ∨ (nb = 0 ∧ (sp_sg S m N a 40 ∨ sp_wd S m N a 35))) : en_ex none (en_u (d + l + 7)) (en_code 288) (fun _ => false) (101, [(3, .inl fa), (2, .inl nb), (0, gx_r 383), (1, .inl e)], [], t0, n, 0) (fun o => ∃ r, o = .inl r ∧ ∃ t' a' f' c', r = (none, t', n, 0) ∧ px_X t0 a f c t' a' f' c' ∧ Ev S m N fh 4 e (a, f) (a', f') ∧ a' ≤ N ∧ rE S m N fh 4 e a f c t' f' c') := by
  subst hf
  have b0 := s0.2.2.2
  have hN := hT.2.2.2.2.1
  have he5 : e ≠ 5 := by omega
  have hP7 : ∀ d, pe_C S m N fh (d + l + 7) 288 4 (e + 1) := fun d => by
    have h9 := hP (d + 4)
    rw [show d + 4 + l + 3 = d + l + 7 by omega] at h9
    exact h9
  refine ex_go (S := (102, [(3, .inl fa), (2, .inl nb), (0, gx_r 383), (1, .inl e)], [gx_r 383], t0, n, 0)) rfl (fun _ => rfl) rfl ?_
  refine gx_get rfl s0.1 rfl s0.2.2.1 rfl ?_
  refine ex_go (S := (109, [(3, .inl fa), (2, .inl nb), (0, gx_r 383), (1, .inl e)], [], t0, n, 0)) rfl (fun _ => rfl) rfl ?_
  refine ex_go (S := (110, [(3, .inl fa), (2, .inl nb), (0, gx_r 383), (1, .inl e)], [gx_r 383], t0, n, 0)) rfl (fun _ => rfl) rfl ?_
  refine ex_go (S := (112, [(3, .inl fa), (2, .inl nb), (0, gx_r 383), (1, .inl e)], [.inl 35, gx_r 383], t0, n, 0)) rfl (fun _ => rfl) rfl ?_
  obtain ⟨_, r101, v101, t101, a101, f101, rfl, s101, e101, q101⟩ := pe_hasWord (d + l + 5) n (s0) hT (by first | decide | omega) (w := 35) (by first | decide | omega)
  have b101 := s101.2.2.2
  have hlq101 : v101 = 1 → a < N := fun z => (q101.2.mp z).2.1
  refine gx_call1 rfl rfl s0.1 rfl rfl r101 rfl ?_
  have k2 : ai_hv t101 383 13 = some (.inl c) := (e101 383 13 (by first | decide | omega)).trans kc
  have k3 : ai_hv t101 383 21 = some (.inl fh) := (e101 383 21 (by first | decide | omega)).trans kf
  by_cases hc4 : v101 = 0
  · refine gx_1t (c := .eq) rfl (by first | decide | omega) hc4 rfl ?_
    refine ex_go (S := (135, [(3, .inl fa), (2, .inl nb), (0, gx_r 383), (1, .inl e)], [gx_r 383], t101, n, 0)) rfl (fun _ => rfl) rfl ?_
    refine ex_go (S := (137, [(3, .inl fa), (2, .inl nb), (0, gx_r 383), (1, .inl e)], [.inl 40, gx_r 383], t101, n, 0)) rfl (fun _ => rfl) rfl ?_
    have hT6 := rT_keep (t' := t101) hT (fun c i h => e101 c i (by first | decide | omega))
    obtain ⟨_, r105, v105, t105, a105, f105, rfl, s105, e105, q105⟩ := pe_hasSign (d + l + 5) n (s101) hT6 (by first | decide | omega) (w := 40) (by first | decide | omega)
    have b105 := s105.2.2.2
    have hlq105 : v105 = 1 → a101 < N := fun z => (q105.2.mp z).2.1
    refine gx_call1 rfl rfl s101.1 rfl rfl r105 rfl ?_
    have k7 : ai_hv t105 383 13 = some (.inl c) := (e105 383 13 (by first | decide | omega)).trans k2
    have k8 : ai_hv t105 383 21 = some (.inl fh) := (e105 383 21 (by first | decide | omega)).trans k3
    by_cases hc9 : v105 = 0
    · refine gx_1t (c := .eq) rfl (by first | decide | omega) hc9 rfl ?_
      have hw9 : ¬ sp_wd S m N a 35 := fun z => absurd (q101.2.mpr ⟨rfl, z⟩) (by first | decide | omega)
      have hs9 : ¬ sp_sg S m N a 40 := fun z => absurd (q105.2.mpr ⟨by omega, by rw [show a101 = a by omega]; exact z⟩) (by first | decide | omega)
      have hk2 : (nb = 1 ∧ a < N ∧ sp_kt S m N a = 2) ∨ (nb = 0 ∧ fa < 4 ∧ a < N ∧ sp_wd S m N a (38 + fa) ∧ (fh >>> fa) % 2 = 1) := by
        rcases hk with hk | hk | ⟨hk, hk | hk⟩
        · exact Or.inl hk
        · exact Or.inr hk
        · exact absurd hk hs9
        · exact absurd hk hw9
      rcases hk2 with ⟨h7, h8, hnk9⟩ | ⟨h7, h9, h8, hfw9, hfb9⟩
      · subst h7
        refine ex_go (S := (160, [(3, .inl fa), (2, .inl 1), (0, gx_r 383), (1, .inl e)], [gx_r 383], t105, n, 0)) rfl (fun _ => rfl) rfl ?_
        refine ex_go (S := (161, [(3, .inl fa), (2, .inl 1), (0, gx_r 383), (1, .inl e)], [.inl 1, gx_r 383], t105, n, 0)) rfl (fun _ => rfl) rfl ?_
        refine ex_go (S := (164, [(3, .inl fa), (2, .inl 1), (0, gx_r 383), (1, .inl e)], [gx_r 383], t105, n, 0)) rfl (fun _ => rfl) rfl ?_
        refine ex_go (S := (165, [(3, .inl fa), (2, .inl 1), (0, gx_r 383), (1, .inl e)], [.inl 1, gx_r 383], t105, n, 0)) rfl (fun _ => rfl) rfl ?_
        refine ex_go (S := (169, [(3, .inl fa), (2, .inl 1), (0, gx_r 383), (1, .inl e)], [.inl 1, gx_r 383], t105, n, 0)) rfl (fun _ => rfl) rfl ?_
        refine ex_go (S := (170, [(3, .inl fa), (2, .inl 1), (0, gx_r 383), (1, .inl e)], [.inl 1, .inl 1, gx_r 383], t105, n, 0)) rfl (fun _ => rfl) rfl ?_
        refine ex_go (S := (173, [(3, .inl fa), (2, .inl 1), (0, gx_r 383), (1, .inl e)], [.inl 1, gx_r 383], t105, n, 0)) rfl (fun _ => rfl) rfl ?_
        refine ex_go (S := (174, [(3, .inl fa), (2, .inl 1), (0, gx_r 383), (1, .inl e)], [gx_r 383, .inl 1, gx_r 383], t105, n, 0)) rfl (fun _ => rfl) rfl ?_
        refine gx_ref (c := 387) rfl s105.1 rfl rfl rfl rfl ?_
        refine ex_go (S := (178, [(3, .inl fa), (2, .inl 1), (0, gx_r 383), (1, .inl e)], [gx_r 383, gx_r 387, .inl 1, gx_r 383], t105, n, 0)) rfl (fun _ => rfl) rfl ?_
        refine gx_get rfl s105.1 rfl s105.2.1 rfl ?_
        have hT11 := rT_keep (t' := t105) hT (fun c i h => (e105 c i (by first | decide | omega)).trans (e101 c i (by first | decide | omega)))
        have hia9 : a105 = a := by omega
        obtain ⟨hlt9, k10, hnv9⟩ := rT_num hT11 (a := a105) (by rw [hia9]; exact hnk9)
        have hnb9 : sp_nv S m a < 2147483648 := by rw [← hia9]; omega
        have hnz9 : sp_nv S m a = sp_nv S m a105 := by rw [hia9]
        refine gx_ag (v := .inr (.inl (sp_nv S m a105))) (cb := fun c => Nat.beq c 3) rfl (fun _ => rfl) s105.1 rfl rfl k10 (by first | decide | omega) rfl ?_
        refine ex_go (S := (183, [(3, .inl fa), (2, .inl 1), (0, gx_r 383), (1, .inl e)], [.inl ((lN (sp_nv S m a105)).toInt32.toBitVec.toNat), .inl 1, gx_r 383], t105, n, 0)) rfl (fun _ => rfl) rfl ?_
        rw [ni_l2i (show sp_nv S m a105 < 2147483648 from by omega)]
        refine ex_go (S := (187, [(3, .inl fa), (2, .inl 1), (0, gx_r 383), (1, .inl e)], [.inl (sp_nv S m a105), .inl 1, gx_r 383], t105, n, 0)) rfl (fun _ => rfl) rfl ?_
        obtain ⟨_, r112, t112, rfl, s112, e112, k112, ko112, kz112⟩ := pk_emit (d + l + 6) n (s105) (o := 1) (z := sp_nv S m a105) (by first | decide | omega) (by first | decide | omega) (by first | decide | omega) k7
        have b112 := s112.2.2.2
        refine gx_call0 rfl rfl s105.1 rfl rfl r112 rfl ?_
        have k13 : ai_hv t112 383 21 = some (.inl fh) := (e112 383 21 (by first | decide | omega)).trans k8
        refine ex_go (S := (191, [(3, .inl fa), (2, .inl 1), (0, gx_r 383), (1, .inl e)], [gx_r 383], t112, n, 0)) rfl (fun _ => rfl) rfl ?_
        refine ex_go (S := (192, [(3, .inl fa), (2, .inl 1), (0, gx_r 383), (1, .inl e)], [gx_r 383, gx_r 383], t112, n, 0)) rfl (fun _ => rfl) rfl ?_
        refine gx_get rfl s112.1 rfl s112.2.1 rfl ?_
        refine ex_go (S := (196, [(3, .inl fa), (2, .inl 1), (0, gx_r 383), (1, .inl e)], [.inl 1, .inl a105, gx_r 383], t112, n, 0)) rfl (fun _ => rfl) rfl ?_
        refine ex_iadd rfl (by first | decide | omega) rfl ?_
        refine gx_put rfl s112.1 rfl rfl (ai_in_h (by first | decide | omega) (by first | decide | omega) (by first | decide | omega)) rfl (fun t114 g114 k114 e114 => ?_)
        have k15 : ai_hv t114 383 21 = some (.inl fh) := (e114 383 21 (by first | decide | omega)).trans k13
        have k16 : ai_hv t114 383 13 = some (.inl (c + 1)) := (e114 383 13 (by first | decide | omega)).trans k112
        have s114 : px_S t114 (a105 + 1) f105 := ⟨g114, k114, (e114 383 8 (by first | decide | omega)).trans s112.2.2.1, by omega, s112.2.2.2.2⟩
        refine ex_ret (r := (none, t114, n, 0)) rfl (fun _ => rfl) ?_
        refine ⟨_, rfl, t114, a105 + 1, f105, c + 1, rfl, px_X_one rfl (by first | decide | omega) (fun c i h => (e105 c i (by first | decide | omega)).trans (e101 c i (by first | decide | omega))) e112 (fun c i h => e114 c i (by first | decide | omega)) s114 k112 ko112 kz112 (by first | decide | omega), Ev_to (Ev_one he5 hw9 hs9 hb) (by show a + 1 = a105 + 1; omega) (by show 0 = f105; omega), by omega, fun z9 => ?_⟩
        refine ⟨[sp_tk S m N a], Ec_one hw9 hs9, rfl, rLs_keep (rLs_one ko112 kz112 ?_ ?_) (fun c8 i8 h7 h8 => e114 c8 i8 (by first | decide | omega))⟩
        · rw [tk_num hnk9]; unfold opm; rw [if_pos hnb9]
        · rw [tk_num hnk9]; unfold argm; rw [if_pos hnb9]; exact hnz9
      · subst h7
        refine ex_go (S := (160, [(3, .inl fa), (2, .inl 0), (0, gx_r 383), (1, .inl e)], [gx_r 383], t105, n, 0)) rfl (fun _ => rfl) rfl ?_
        refine ex_go (S := (161, [(3, .inl fa), (2, .inl 0), (0, gx_r 383), (1, .inl e)], [.inl 0, gx_r 383], t105, n, 0)) rfl (fun _ => rfl) rfl ?_
        refine ex_go (S := (168, [(3, .inl fa), (2, .inl 0), (0, gx_r 383), (1, .inl e)], [gx_r 383], t105, n, 0)) rfl (fun _ => rfl) rfl ?_
        refine ex_go (S := (169, [(3, .inl fa), (2, .inl 0), (0, gx_r 383), (1, .inl e)], [.inl 2, gx_r 383], t105, n, 0)) rfl (fun _ => rfl) rfl ?_
        refine ex_go (S := (170, [(3, .inl fa), (2, .inl 0), (0, gx_r 383), (1, .inl e)], [.inl 0, .inl 2, gx_r 383], t105, n, 0)) rfl (fun _ => rfl) rfl ?_
        refine ex_go (S := (186, [(3, .inl fa), (2, .inl 0), (0, gx_r 383), (1, .inl e)], [.inl 2, gx_r 383], t105, n, 0)) rfl (fun _ => rfl) rfl ?_
        refine ex_go (S := (187, [(3, .inl fa), (2, .inl 0), (0, gx_r 383), (1, .inl e)], [.inl fa, .inl 2, gx_r 383], t105, n, 0)) rfl (fun _ => rfl) rfl ?_
        obtain ⟨_, r117, t117, rfl, s117, e117, k117, ko117, kz117⟩ := pk_emit (d + l + 6) n (s105) (o := 2) (z := fa) (by first | decide | omega) (by first | decide | omega) (by first | decide | omega) k7
        have b117 := s117.2.2.2
        refine gx_call0 rfl rfl s105.1 rfl rfl r117 rfl ?_
        have k18 : ai_hv t117 383 21 = some (.inl fh) := (e117 383 21 (by first | decide | omega)).trans k8
        refine ex_go (S := (191, [(3, .inl fa), (2, .inl 0), (0, gx_r 383), (1, .inl e)], [gx_r 383], t117, n, 0)) rfl (fun _ => rfl) rfl ?_
        refine ex_go (S := (192, [(3, .inl fa), (2, .inl 0), (0, gx_r 383), (1, .inl e)], [gx_r 383, gx_r 383], t117, n, 0)) rfl (fun _ => rfl) rfl ?_
        refine gx_get rfl s117.1 rfl s117.2.1 rfl ?_
        refine ex_go (S := (196, [(3, .inl fa), (2, .inl 0), (0, gx_r 383), (1, .inl e)], [.inl 1, .inl a105, gx_r 383], t117, n, 0)) rfl (fun _ => rfl) rfl ?_
        refine ex_iadd rfl (by first | decide | omega) rfl ?_
        refine gx_put rfl s117.1 rfl rfl (ai_in_h (by first | decide | omega) (by first | decide | omega) (by first | decide | omega)) rfl (fun t119 g119 k119 e119 => ?_)
        have k20 : ai_hv t119 383 21 = some (.inl fh) := (e119 383 21 (by first | decide | omega)).trans k18
        have k21 : ai_hv t119 383 13 = some (.inl (c + 1)) := (e119 383 13 (by first | decide | omega)).trans k117
        have s119 : px_S t119 (a105 + 1) f105 := ⟨g119, k119, (e119 383 8 (by first | decide | omega)).trans s117.2.2.1, by omega, s117.2.2.2.2⟩
        refine ex_ret (r := (none, t119, n, 0)) rfl (fun _ => rfl) ?_
        refine ⟨_, rfl, t119, a105 + 1, f105, c + 1, rfl, px_X_one rfl (by first | decide | omega) (fun c i h => (e105 c i (by first | decide | omega)).trans (e101 c i (by first | decide | omega))) e117 (fun c i h => e119 c i (by first | decide | omega)) s119 k117 ko117 kz117 (by first | decide | omega), Ev_to (Ev_one he5 hw9 hs9 hb) (by show a + 1 = a105 + 1; omega) (by show 0 = f105; omega), by omega, fun z9 => ?_⟩
        refine ⟨[sp_tk S m N a], Ec_one hw9 hs9, rfl, rLs_keep (rLs_one ko117 kz117 ?_ ?_) (fun c8 i8 h7 h8 => e119 c8 i8 (by first | decide | omega))⟩
        · exact (tk_fact hfh h9 hfw9 hfb9).1
        · exact (tk_fact hfh h9 hfw9 hfb9).2
    · refine gx_1f (c := .eq) rfl (by first | decide | omega) hc9 rfl ?_
      refine ex_go (S := (144, [(3, .inl fa), (2, .inl nb), (0, gx_r 383), (1, .inl e)], [gx_r 383], t105, n, 0)) rfl (fun _ => rfl) rfl ?_
      refine ex_go (S := (145, [(3, .inl fa), (2, .inl nb), (0, gx_r 383), (1, .inl e)], [.inl e, gx_r 383], t105, n, 0)) rfl (fun _ => rfl) rfl ?_
      refine ex_go (S := (146, [(3, .inl fa), (2, .inl nb), (0, gx_r 383), (1, .inl e)], [.inl 1, .inl e, gx_r 383], t105, n, 0)) rfl (fun _ => rfl) rfl ?_
      refine ex_iadd rfl (by first | decide | omega) rfl ?_
      have hT23 := rT_keep (t' := t105) hT (fun c i h => (e105 c i (by first | decide | omega)).trans (e101 c i (by first | decide | omega)))
      obtain ⟨_, r122, t122, a122, f122, c122, rfl, x122, w122, wa122, y122⟩ := hA d n _ _ _ _ s105 hT23 (by first | decide | omega) k7 (by first | decide | omega) k8
      have s122 := x122.1
      have e122 := x122.2.1
      have k122 := x122.2.2.1
      have q122 := x122.2.2.2.1
      have b122 := s122.2.2.2
      refine gx_call0 rfl rfl s105.1 rfl rfl r122 rfl ?_
      have k24 : ai_hv t122 383 21 = some (.inl fh) := (e122 383 21 (by first | decide | omega)).trans k8
      refine ex_go (S := (151, [(3, .inl fa), (2, .inl nb), (0, gx_r 383), (1, .inl e)], [gx_r 383], t122, n, 0)) rfl (fun _ => rfl) rfl ?_
      refine ex_go (S := (153, [(3, .inl fa), (2, .inl nb), (0, gx_r 383), (1, .inl e)], [.inl 41, gx_r 383], t122, n, 0)) rfl (fun _ => rfl) rfl ?_
      have hT26 := rT_keep (t' := t122) hT (fun c i h => (e122 c i (by first | decide | omega)).trans ((e105 c i (by first | decide | omega)).trans (e101 c i (by first | decide | omega))))
      obtain ⟨_, r125, t125, a125, f125, rfl, s125, e125, z125, q125⟩ := pf_takeSign (d + l + 5) n (s122) hT26 (by first | decide | omega) (w := 41) (by first | decide | omega)
      have b125 := s125.2.2.2
      refine gx_call0 rfl rfl s122.1 rfl rfl r125 rfl ?_
      have k27 : ai_hv t125 383 21 = some (.inl fh) := (e125 383 21 (by first | decide | omega)).trans k24
      have k28 : ai_hv t125 383 13 = some (.inl c122) := (e125 383 13 (by first | decide | omega)).trans k122
      refine ex_go (S := (200, [(3, .inl fa), (2, .inl nb), (0, gx_r 383), (1, .inl e)], [], t125, n, 0)) rfl (fun _ => rfl) rfl ?_
      refine ex_ret (r := (none, t125, n, 0)) rfl (fun _ => rfl) ?_
      have w9 : Ev S m N fh 0 (e + 1) (a + 1, 0) (a122, f122) := Ev_at w122 (by show a105 = a + 1; omega) (by show f105 = 0; omega)
      have hw9 : ¬ sp_wd S m N a 35 := fun z => absurd (q101.2.mpr ⟨rfl, z⟩) (by first | decide | omega)
      have hs9 : sp_sg S m N a 40 := by have z9 := (q105.2.mp (by first | decide | omega)).2; rw [show a101 = a by omega] at z9; exact z9
      refine ⟨_, rfl, t125, a125, f125, c122, rfl, px_X_in rfl (by first | decide | omega) (fun c i h => (e105 c i (by first | decide | omega)).trans (e101 c i (by first | decide | omega))) x122 (fun c i h => e125 c i (by first | decide | omega)) s125 (by first | decide | omega) (by first | decide | omega), by rw [z125]; exact Ev_in he5 hw9 hs9 w9, by omega, fun z9 => ?_⟩
      obtain ⟨L1, d1, l1, m1⟩ := y122 (by first | decide | omega)
      have d1 := Ec_at (p' := (a + 1, 0)) d1 (by show a105 = a + 1; omega) (by first | rfl | (show f105 = 0; omega))
      exact ⟨L1, Ec_in hw9 hs9 d1, l1, rLs_keep m1 (fun c8 i8 h7 h8 => e125 c8 i8 (by first | decide | omega))⟩
  · refine gx_1f (c := .eq) rfl (by first | decide | omega) hc4 rfl ?_
    refine ex_go (S := (119, [(3, .inl fa), (2, .inl nb), (0, gx_r 383), (1, .inl e)], [gx_r 383], t101, n, 0)) rfl (fun _ => rfl) rfl ?_
    refine ex_go (S := (120, [(3, .inl fa), (2, .inl nb), (0, gx_r 383), (1, .inl e)], [.inl e, gx_r 383], t101, n, 0)) rfl (fun _ => rfl) rfl ?_
    refine ex_go (S := (121, [(3, .inl fa), (2, .inl nb), (0, gx_r 383), (1, .inl e)], [.inl 1, .inl e, gx_r 383], t101, n, 0)) rfl (fun _ => rfl) rfl ?_
    refine ex_iadd rfl (by first | decide | omega) rfl ?_
    have hT30 := rT_keep (t' := t101) hT (fun c i h => e101 c i (by first | decide | omega))
    obtain ⟨_, r129, t129, a129, f129, c129, rfl, x129, w129, wa129, y129⟩ := hP7 d n _ _ _ _ s101 hT30 (by first | decide | omega) k2 (by first | decide | omega) k3
    have s129 := x129.1
    have e129 := x129.2.1
    have k129 := x129.2.2.1
    have q129 := x129.2.2.2.1
    have b129 := s129.2.2.2
    refine gx_call0 rfl rfl s101.1 rfl rfl r129 rfl ?_
    have k31 : ai_hv t129 383 21 = some (.inl fh) := (e129 383 21 (by first | decide | omega)).trans k3
    refine ex_go (S := (126, [(3, .inl fa), (2, .inl nb), (0, gx_r 383), (1, .inl e)], [gx_r 383], t129, n, 0)) rfl (fun _ => rfl) rfl ?_
    refine ex_go (S := (127, [(3, .inl fa), (2, .inl nb), (0, gx_r 383), (1, .inl e)], [.inl 3, gx_r 383], t129, n, 0)) rfl (fun _ => rfl) rfl ?_
    refine ex_go (S := (128, [(3, .inl fa), (2, .inl nb), (0, gx_r 383), (1, .inl e)], [.inl 0, .inl 3, gx_r 383], t129, n, 0)) rfl (fun _ => rfl) rfl ?_
    obtain ⟨_, r132, t132, rfl, s132, e132, k132, ko132, kz132⟩ := pk_emit (d + l + 6) n (s129) (o := 3) (z := 0) (by first | decide | omega) (by first | decide | omega) (by first | decide | omega) k129
    have b132 := s132.2.2.2
    refine gx_call0 rfl rfl s129.1 rfl rfl r132 rfl ?_
    have k33 : ai_hv t132 383 21 = some (.inl fh) := (e132 383 21 (by first | decide | omega)).trans k31
    refine ex_go (S := (200, [(3, .inl fa), (2, .inl nb), (0, gx_r 383), (1, .inl e)], [], t132, n, 0)) rfl (fun _ => rfl) rfl ?_
    refine ex_ret (r := (none, t132, n, 0)) rfl (fun _ => rfl) ?_
    have w9 : Ev S m N fh 4 (e + 1) (a + 1, 0) (a129, f129) := Ev_at w129 (by show a101 = a + 1; omega) (by show f101 = 0; omega)
    refine ⟨_, rfl, t132, a129, f129, c129 + 1, rfl, px_X_not rfl (by first | decide | omega) (fun c i h => e101 c i (by first | decide | omega)) x129 s132 e132 k132 ko132 kz132, Ev_not he5 (q101.2.mp (by first | decide | omega)).2 w9, by omega, fun z9 => ?_⟩
    obtain ⟨L1, d1, l1, m1⟩ := y129 (by first | decide | omega)
    have d1 := Ec_at (p' := (a + 1, 0)) d1 (by show a101 = a + 1; omega) (by first | rfl | (show f101 = 0; omega))
    refine ⟨L1 ++ [4294967295], Ec_not (q101.2.mp (by first | decide | omega)).2 d1, ?_, ?_⟩
    · rw [List.length_append]
      show _ = c + (L1.length + 1)
      omega
    · refine rLs_app (rLs_keep m1 (fun c8 i8 h7 h8 => e132 c8 i8 (by first | decide | omega))) (rLs_one (o := 3) (z := 0) ?_ ?_ rfl rfl)
      · rw [← l1]; exact ko132
      · rw [← l1]; exact kz132
theorem pe_takePart5 (d : Nat) (hfh : fh = 7 ∨ fh = 8 ∨ fh = 2) : pe_C S m N fh (d + 3) 288 4 5 := by
  intro n t0 a f c s0 hT ha kc hca kf
  have b0 := s0.2.2.2
  have hN := hT.2.2.2.2.1
  refine en_u_ex (d := d + 2) rfl ?_
  show en_ex _ _ _ _ (0, [(0, gx_r 383), (1, .inl 5)], [], t0, n, 0) _
  refine ex_go (S := (1, [(0, gx_r 383), (1, .inl 5)], [gx_r 383], t0, n, 0)) rfl (fun _ => rfl) rfl ?_
  refine gx_get rfl s0.1 rfl s0.2.2.1 rfl ?_
  by_cases hc1 : f ≤ 0
  · refine gx_1t (c := .le) rfl (by first | decide | omega) hc1 rfl ?_
    refine ex_go (S := (9, [(0, gx_r 383), (1, .inl 5)], [gx_r 383], t0, n, 0)) rfl (fun _ => rfl) rfl ?_
    refine gx_ref (c := 385) rfl s0.1 rfl rfl rfl rfl ?_
    refine ex_go (S := (13, [(0, gx_r 383), (1, .inl 5)], [gx_r 383, gx_r 385], t0, n, 0)) rfl (fun _ => rfl) rfl ?_
    refine gx_get rfl s0.1 rfl s0.2.1 rfl ?_
    have k2 := rT_sort hT (a := a) (by first | decide | omega)
    have k2b : sp_kt S m N a ≤ 4 := by unfold sp_kt; have := sp_ty_le S m (sp_st S m a); split <;> omega
    refine gx_ag (v := .inl (sp_kt S m N a)) (cb := fun c => Nat.beq c 0) rfl (fun _ => rfl) s0.1 rfl rfl k2 (by first | decide | omega) rfl ?_
    refine ex_go (S := (18, [(0, gx_r 383), (1, .inl 5)], [.inl 2, .inl (sp_kt S m N a)], t0, n, 0)) rfl (fun _ => rfl) rfl ?_
    by_cases hc3 : sp_kt S m N a ≠ 2
    · refine gx_2t (c := .ne) rfl (by first | decide | omega) (by first | decide | omega) hc3 rfl ?_
      refine ex_go (S := (26, [(0, gx_r 383), (1, .inl 5)], [.inl 0], t0, n, 0)) rfl (fun _ => rfl) rfl ?_
      refine ex_go (S := (27, [(2, .inl 0), (0, gx_r 383), (1, .inl 5)], [], t0, n, 0)) rfl (fun _ => rfl) rfl ?_
      refine ex_go (S := (28, [(2, .inl 0), (0, gx_r 383), (1, .inl 5)], [gx_r 383], t0, n, 0)) rfl (fun _ => rfl) rfl ?_
      refine ex_go (S := (30, [(2, .inl 0), (0, gx_r 383), (1, .inl 5)], [.inl 38, gx_r 383], t0, n, 0)) rfl (fun _ => rfl) rfl ?_
      refine ex_go (S := (31, [(2, .inl 0), (0, gx_r 383), (1, .inl 5)], [.inl 4, .inl 38, gx_r 383], t0, n, 0)) rfl (fun _ => rfl) rfl ?_
      obtain ⟨_, r6, b4, rfl, q5⟩ := pe_wordHere (d) n (s0) hT (by first | decide | omega) (w := 38) (mm := 4) (by first | decide | omega)
      refine gx_call1 rfl rfl s0.1 rfl rfl r6 rfl ?_
      refine ex_go (S := (35, [(3, .inl b4), (2, .inl 0), (0, gx_r 383), (1, .inl 5)], [], t0, n, 0)) rfl (fun _ => rfl) rfl ?_
      refine ex_go (S := (36, [(3, .inl b4), (2, .inl 0), (0, gx_r 383), (1, .inl 5)], [.inl b4], t0, n, 0)) rfl (fun _ => rfl) rfl ?_
      have hf0 : f = 0 := by omega
      rcases q5 with ⟨hna, hnb, hnc⟩ | ⟨hna, hnb⟩
      · have hlt9 : a < N := hnc.1
        refine gx_1f (c := .lt) rfl (by first | decide | omega) (show ¬ (b4 < 0) from by omega) rfl ?_
        refine ex_go (S := (40, [(3, .inl b4), (2, .inl 0), (0, gx_r 383), (1, .inl 5)], [gx_r 383], t0, n, 0)) rfl (fun _ => rfl) rfl ?_
        refine gx_get rfl s0.1 rfl kf rfl ?_
        refine ex_go (S := (44, [(3, .inl b4), (2, .inl 0), (0, gx_r 383), (1, .inl 5)], [.inl b4, .inl fh], t0, n, 0)) rfl (fun _ => rfl) rfl ?_
        refine ex_go (S := (45, [(3, .inl b4), (2, .inl 0), (0, gx_r 383), (1, .inl 5)], [.inl ((nI fh >>> (nI b4 &&& 31)).toBitVec.toNat)], t0, n, 0)) rfl (fun _ => rfl) rfl ?_
        refine ex_go (S := (46, [(3, .inl b4), (2, .inl 0), (0, gx_r 383), (1, .inl 5)], [.inl 1, .inl ((nI fh >>> (nI b4 &&& 31)).toBitVec.toNat)], t0, n, 0)) rfl (fun _ => rfl) rfl ?_
        refine ex_go (S := (47, [(3, .inl b4), (2, .inl 0), (0, gx_r 383), (1, .inl 5)], [.inl ((nI ((nI fh >>> (nI b4 &&& 31)).toBitVec.toNat) &&& nI 1).toBitVec.toNat)], t0, n, 0)) rfl (fun _ => rfl) rfl ?_
        rw [gx_bit (show fh < 16 by omega) (show b4 < 4 by omega)]
        obtain ⟨z9, hz9⟩ : ∃ z, z = (fh >>> b4) % 2 := ⟨_, rfl⟩
        have hz8 : z9 < 2 := by rw [hz9]; exact Nat.mod_lt _ (by decide)
        rw [← hz9]
        refine ex_go (S := (48, [(3, .inl b4), (2, .inl 0), (0, gx_r 383), (1, .inl 5)], [.inl 1, .inl z9], t0, n, 0)) rfl (fun _ => rfl) rfl ?_
        by_cases hc7 : z9 ≠ 1
        · refine gx_2t (c := .ne) rfl (by first | decide | omega) (by first | decide | omega) hc7 rfl ?_
          refine ex_go (S := (56, [(3, .inl b4), (2, .inl 0), (0, gx_r 383), (1, .inl 5)], [.inl 4294967295], t0, n, 0)) rfl (fun _ => rfl) rfl ?_
          have hnf : ¬ sp_fa S m N fh a := fun ⟨j, z1, z2, z3⟩ => by
            have h9 := sp_wd_one (by first | decide | omega) (by first | decide | omega) hnc z2
            rw [show j = b4 by omega] at z3
            omega
          refine ex_go (S := (57, [(3, .inl 4294967295), (2, .inl 0), (0, gx_r 383), (1, .inl 5)], [], t0, n, 0)) rfl (fun _ => rfl) rfl ?_
          refine ex_go (S := (58, [(3, .inl 4294967295), (2, .inl 0), (0, gx_r 383), (1, .inl 5)], [.inl 4294967295], t0, n, 0)) rfl (fun _ => rfl) rfl ?_
          refine ex_go (S := (61, [(3, .inl 4294967295), (2, .inl 0), (0, gx_r 383), (1, .inl 5)], [], t0, n, 0)) rfl (fun _ => rfl) rfl ?_
          refine ex_go (S := (62, [(3, .inl 4294967295), (2, .inl 0), (0, gx_r 383), (1, .inl 5)], [.inl 0], t0, n, 0)) rfl (fun _ => rfl) rfl ?_
          refine ex_go (S := (65, [(3, .inl 4294967295), (2, .inl 0), (0, gx_r 383), (1, .inl 5)], [], t0, n, 0)) rfl (fun _ => rfl) rfl ?_
          refine ex_go (S := (66, [(3, .inl 4294967295), (2, .inl 0), (0, gx_r 383), (1, .inl 5)], [gx_r 383], t0, n, 0)) rfl (fun _ => rfl) rfl ?_
          refine ex_go (S := (68, [(3, .inl 4294967295), (2, .inl 0), (0, gx_r 383), (1, .inl 5)], [.inl 40, gx_r 383], t0, n, 0)) rfl (fun _ => rfl) rfl ?_
          obtain ⟨_, r10, b8, rfl, q9⟩ := pe_isSign (d + 1) n (s0) hT (by first | decide | omega) (w := 40) (by first | decide | omega)
          refine gx_call1 rfl rfl s0.1 rfl rfl r10 rfl ?_
          have hlq9 : b8 = 1 → a < N := fun z => (q9.2.mp z).2.1
          by_cases hc11 : b8 ≠ 0
          · refine gx_1t (c := .ne) rfl (by first | decide | omega) hc11 rfl ?_
            refine ex_go (S := (92, [(3, .inl 4294967295), (2, .inl 0), (0, gx_r 383), (1, .inl 5)], [.inl 5], t0, n, 0)) rfl (fun _ => rfl) rfl ?_
            refine ex_go (S := (93, [(3, .inl 4294967295), (2, .inl 0), (0, gx_r 383), (1, .inl 5)], [.inl 5, .inl 5], t0, n, 0)) rfl (fun _ => rfl) rfl ?_
            refine ex_go (S := (96, [(3, .inl 4294967295), (2, .inl 0), (0, gx_r 383), (1, .inl 5)], [], t0, n, 0)) rfl (fun _ => rfl) rfl ?_
            refine ex_go (S := (97, [(3, .inl 4294967295), (2, .inl 0), (0, gx_r 383), (1, .inl 5)], [gx_r 383], t0, n, 0)) rfl (fun _ => rfl) rfl ?_
            refine ex_go (S := (98, [(3, .inl 4294967295), (2, .inl 0), (0, gx_r 383), (1, .inl 5)], [.inl 5, gx_r 383], t0, n, 0)) rfl (fun _ => rfl) rfl ?_
            have hb9 : sp_bp S m N fh a := Or.inr (Or.inr (Or.inl (q9.2.mp (by first | decide | omega)).2))
            obtain ⟨_, r112, t112, a112, f112, rfl, s112, e112, q112⟩ := pe_wrong (d + 1) n (s0) hT (by first | decide | omega) (w := 5) (by first | decide | omega)
            have b112 := s112.2.2.2
            have hT112 := rT_keep hT (fun c i h => e112 c i (by first | decide | omega))
            refine gx_call0 rfl rfl s0.1 rfl rfl r112 rfl ?_
            have k13 : ai_hv t112 383 13 = some (.inl c) := (e112 383 13 (by first | decide | omega)).trans kc
            have k14 : ai_hv t112 383 21 = some (.inl fh) := (e112 383 21 (by first | decide | omega)).trans kf
            have k15 : ai_hv t112 385 a = some (.inl (sp_kt S m N a)) := (e112 385 a (by first | decide | omega)).trans k2
            refine ex_go (S := (102, [(3, .inl 4294967295), (2, .inl 0), (0, gx_r 383), (1, .inl 5)], [gx_r 383], t112, n, 0)) rfl (fun _ => rfl) rfl ?_
            refine gx_get rfl s112.1 rfl s112.2.2.1 rfl ?_
            refine gx_1f (c := .le) rfl (by first | decide | omega) (show ¬ (f112 ≤ 0) from by omega) rfl ?_
            refine ex_ret (r := (none, t112, n, 0)) rfl (fun _ => rfl) ?_
            have hf9 : f112 = 5 + 16 * sp_st S m a := by omega
            exact ⟨_, rfl, t112, a112, f112, c, rfl, px_X_fault kc (fun c i h => e112 c i (by first | decide | omega)) s112 (by first | decide | omega) (by first | decide | omega), Ev_at (Ev_to (Ev_p5 hb9) (by show a = a112; omega) (by show _ = f112; omega)) rfl (by show 0 = f; omega), by omega, fun z9 => absurd z9 (by first | decide | omega)⟩
          · refine gx_1f (c := .ne) rfl (by first | decide | omega) hc11 rfl ?_
            refine ex_go (S := (75, [(3, .inl 4294967295), (2, .inl 0), (0, gx_r 383), (1, .inl 5)], [gx_r 383], t0, n, 0)) rfl (fun _ => rfl) rfl ?_
            refine ex_go (S := (77, [(3, .inl 4294967295), (2, .inl 0), (0, gx_r 383), (1, .inl 5)], [.inl 35, gx_r 383], t0, n, 0)) rfl (fun _ => rfl) rfl ?_
            obtain ⟨_, r18, b16, rfl, q17⟩ := pe_isWord (d + 1) n (s0) hT (by first | decide | omega) (w := 35) (by first | decide | omega)
            refine gx_call1 rfl rfl s0.1 rfl rfl r18 rfl ?_
            have hlq17 : b16 = 1 → a < N := fun z => (q17.2.mp z).2.1
            by_cases hc19 : b16 ≠ 0
            · refine gx_1t (c := .ne) rfl (by first | decide | omega) hc19 rfl ?_
              refine ex_go (S := (92, [(3, .inl 4294967295), (2, .inl 0), (0, gx_r 383), (1, .inl 5)], [.inl 5], t0, n, 0)) rfl (fun _ => rfl) rfl ?_
              refine ex_go (S := (93, [(3, .inl 4294967295), (2, .inl 0), (0, gx_r 383), (1, .inl 5)], [.inl 5, .inl 5], t0, n, 0)) rfl (fun _ => rfl) rfl ?_
              refine ex_go (S := (96, [(3, .inl 4294967295), (2, .inl 0), (0, gx_r 383), (1, .inl 5)], [], t0, n, 0)) rfl (fun _ => rfl) rfl ?_
              refine ex_go (S := (97, [(3, .inl 4294967295), (2, .inl 0), (0, gx_r 383), (1, .inl 5)], [gx_r 383], t0, n, 0)) rfl (fun _ => rfl) rfl ?_
              refine ex_go (S := (98, [(3, .inl 4294967295), (2, .inl 0), (0, gx_r 383), (1, .inl 5)], [.inl 5, gx_r 383], t0, n, 0)) rfl (fun _ => rfl) rfl ?_
              have hb9 : sp_bp S m N fh a := Or.inr (Or.inr (Or.inr (q17.2.mp (by first | decide | omega)).2))
              obtain ⟨_, r120, t120, a120, f120, rfl, s120, e120, q120⟩ := pe_wrong (d + 1) n (s0) hT (by first | decide | omega) (w := 5) (by first | decide | omega)
              have b120 := s120.2.2.2
              have hT120 := rT_keep hT (fun c i h => e120 c i (by first | decide | omega))
              refine gx_call0 rfl rfl s0.1 rfl rfl r120 rfl ?_
              have k21 : ai_hv t120 383 13 = some (.inl c) := (e120 383 13 (by first | decide | omega)).trans kc
              have k22 : ai_hv t120 383 21 = some (.inl fh) := (e120 383 21 (by first | decide | omega)).trans kf
              have k23 : ai_hv t120 385 a = some (.inl (sp_kt S m N a)) := (e120 385 a (by first | decide | omega)).trans k2
              refine ex_go (S := (102, [(3, .inl 4294967295), (2, .inl 0), (0, gx_r 383), (1, .inl 5)], [gx_r 383], t120, n, 0)) rfl (fun _ => rfl) rfl ?_
              refine gx_get rfl s120.1 rfl s120.2.2.1 rfl ?_
              refine gx_1f (c := .le) rfl (by first | decide | omega) (show ¬ (f120 ≤ 0) from by omega) rfl ?_
              refine ex_ret (r := (none, t120, n, 0)) rfl (fun _ => rfl) ?_
              have hf9 : f120 = 5 + 16 * sp_st S m a := by omega
              exact ⟨_, rfl, t120, a120, f120, c, rfl, px_X_fault kc (fun c i h => e120 c i (by first | decide | omega)) s120 (by first | decide | omega) (by first | decide | omega), Ev_at (Ev_to (Ev_p5 hb9) (by show a = a120; omega) (by show _ = f120; omega)) rfl (by show 0 = f; omega), by omega, fun z9 => absurd z9 (by first | decide | omega)⟩
            · refine gx_1f (c := .ne) rfl (by first | decide | omega) hc19 rfl ?_
              refine ex_go (S := (84, [(3, .inl 4294967295), (2, .inl 0), (0, gx_r 383), (1, .inl 5)], [gx_r 383], t0, n, 0)) rfl (fun _ => rfl) rfl ?_
              refine ex_go (S := (85, [(3, .inl 4294967295), (2, .inl 0), (0, gx_r 383), (1, .inl 5)], [.inl 1, gx_r 383], t0, n, 0)) rfl (fun _ => rfl) rfl ?_
              have hnb9 : ¬ sp_bp S m N fh a := by
                rintro (z | z | z | z)
                · omega
                · exact hnf z
                · exact absurd (q9.2.mpr ⟨hf0, z⟩) (by first | decide | omega)
                · exact absurd (q17.2.mpr ⟨hf0, z⟩) (by first | decide | omega)
              obtain ⟨_, r124, t124, a124, f124, rfl, s124, e124, q124⟩ := pe_wrong (d + 1) n (s0) hT (by first | decide | omega) (w := 1) (by first | decide | omega)
              have b124 := s124.2.2.2
              have hT124 := rT_keep hT (fun c i h => e124 c i (by first | decide | omega))
              refine gx_call0 rfl rfl s0.1 rfl rfl r124 rfl ?_
              have k25 : ai_hv t124 383 13 = some (.inl c) := (e124 383 13 (by first | decide | omega)).trans kc
              have k26 : ai_hv t124 383 21 = some (.inl fh) := (e124 383 21 (by first | decide | omega)).trans kf
              have k27 : ai_hv t124 385 a = some (.inl (sp_kt S m N a)) := (e124 385 a (by first | decide | omega)).trans k2
              refine ex_go (S := (101, [(3, .inl 4294967295), (2, .inl 0), (0, gx_r 383), (1, .inl 5)], [], t124, n, 0)) rfl (fun _ => rfl) rfl ?_
              refine ex_go (S := (102, [(3, .inl 4294967295), (2, .inl 0), (0, gx_r 383), (1, .inl 5)], [gx_r 383], t124, n, 0)) rfl (fun _ => rfl) rfl ?_
              refine gx_get rfl s124.1 rfl s124.2.2.1 rfl ?_
              refine gx_1f (c := .le) rfl (by first | decide | omega) (show ¬ (f124 ≤ 0) from by omega) rfl ?_
              refine ex_ret (r := (none, t124, n, 0)) rfl (fun _ => rfl) ?_
              have hf9 : f124 = 1 + 16 * sp_st S m a := by omega
              exact ⟨_, rfl, t124, a124, f124, c, rfl, px_X_fault kc (fun c i h => e124 c i (by first | decide | omega)) s124 (by first | decide | omega) (by first | decide | omega), Ev_at (Ev_to (Ev_p1 hnb9) (by show a = a124; omega) (by show _ = f124; omega)) rfl (by show 0 = f; omega), by omega, fun z9 => absurd z9 (by first | decide | omega)⟩
        · refine gx_2f (c := .ne) rfl (by first | decide | omega) (by first | decide | omega) hc7 rfl ?_
          refine ex_go (S := (52, [(3, .inl b4), (2, .inl 0), (0, gx_r 383), (1, .inl 5)], [.inl b4], t0, n, 0)) rfl (fun _ => rfl) rfl ?_
          refine ex_go (S := (56, [(3, .inl b4), (2, .inl 0), (0, gx_r 383), (1, .inl 5)], [.inl b4], t0, n, 0)) rfl (fun _ => rfl) rfl ?_
          have hyf : sp_fa S m N fh a := ⟨b4, hna, hnc, by omega⟩
          refine ex_go (S := (57, [(3, .inl b4), (2, .inl 0), (0, gx_r 383), (1, .inl 5)], [], t0, n, 0)) rfl (fun _ => rfl) rfl ?_
          refine ex_go (S := (58, [(3, .inl b4), (2, .inl 0), (0, gx_r 383), (1, .inl 5)], [.inl b4], t0, n, 0)) rfl (fun _ => rfl) rfl ?_
          refine gx_1t (c := .ge) rfl (by first | decide | omega) (show 0 ≤ b4 from by omega) rfl ?_
          refine ex_go (S := (92, [(3, .inl b4), (2, .inl 0), (0, gx_r 383), (1, .inl 5)], [.inl 5], t0, n, 0)) rfl (fun _ => rfl) rfl ?_
          refine ex_go (S := (93, [(3, .inl b4), (2, .inl 0), (0, gx_r 383), (1, .inl 5)], [.inl 5, .inl 5], t0, n, 0)) rfl (fun _ => rfl) rfl ?_
          refine ex_go (S := (96, [(3, .inl b4), (2, .inl 0), (0, gx_r 383), (1, .inl 5)], [], t0, n, 0)) rfl (fun _ => rfl) rfl ?_
          refine ex_go (S := (97, [(3, .inl b4), (2, .inl 0), (0, gx_r 383), (1, .inl 5)], [gx_r 383], t0, n, 0)) rfl (fun _ => rfl) rfl ?_
          refine ex_go (S := (98, [(3, .inl b4), (2, .inl 0), (0, gx_r 383), (1, .inl 5)], [.inl 5, gx_r 383], t0, n, 0)) rfl (fun _ => rfl) rfl ?_
          have hb9 : sp_bp S m N fh a := Or.inr (Or.inl hyf)
          obtain ⟨_, r128, t128, a128, f128, rfl, s128, e128, q128⟩ := pe_wrong (d + 1) n (s0) hT (by first | decide | omega) (w := 5) (by first | decide | omega)
          have b128 := s128.2.2.2
          have hT128 := rT_keep hT (fun c i h => e128 c i (by first | decide | omega))
          refine gx_call0 rfl rfl s0.1 rfl rfl r128 rfl ?_
          have k29 : ai_hv t128 383 13 = some (.inl c) := (e128 383 13 (by first | decide | omega)).trans kc
          have k30 : ai_hv t128 383 21 = some (.inl fh) := (e128 383 21 (by first | decide | omega)).trans kf
          have k31 : ai_hv t128 385 a = some (.inl (sp_kt S m N a)) := (e128 385 a (by first | decide | omega)).trans k2
          refine ex_go (S := (102, [(3, .inl b4), (2, .inl 0), (0, gx_r 383), (1, .inl 5)], [gx_r 383], t128, n, 0)) rfl (fun _ => rfl) rfl ?_
          refine gx_get rfl s128.1 rfl s128.2.2.1 rfl ?_
          refine gx_1f (c := .le) rfl (by first | decide | omega) (show ¬ (f128 ≤ 0) from by omega) rfl ?_
          refine ex_ret (r := (none, t128, n, 0)) rfl (fun _ => rfl) ?_
          have hf9 : f128 = 5 + 16 * sp_st S m a := by omega
          exact ⟨_, rfl, t128, a128, f128, c, rfl, px_X_fault kc (fun c i h => e128 c i (by first | decide | omega)) s128 (by first | decide | omega) (by first | decide | omega), Ev_at (Ev_to (Ev_p5 hb9) (by show a = a128; omega) (by show _ = f128; omega)) rfl (by show 0 = f; omega), by omega, fun z9 => absurd z9 (by first | decide | omega)⟩
      · have hnf : ¬ sp_fa S m N fh a := fun ⟨j, z1, z2, z3⟩ => hnb j z1 ⟨hf0, z2⟩
        subst hna
        refine ex_go (S := (55, [(3, .inl 4294967295), (2, .inl 0), (0, gx_r 383), (1, .inl 5)], [], t0, n, 0)) rfl (fun _ => rfl) rfl ?_
        refine ex_go (S := (56, [(3, .inl 4294967295), (2, .inl 0), (0, gx_r 383), (1, .inl 5)], [.inl 4294967295], t0, n, 0)) rfl (fun _ => rfl) rfl ?_
        refine ex_go (S := (57, [(3, .inl 4294967295), (2, .inl 0), (0, gx_r 383), (1, .inl 5)], [], t0, n, 0)) rfl (fun _ => rfl) rfl ?_
        refine ex_go (S := (58, [(3, .inl 4294967295), (2, .inl 0), (0, gx_r 383), (1, .inl 5)], [.inl 4294967295], t0, n, 0)) rfl (fun _ => rfl) rfl ?_
        refine ex_go (S := (61, [(3, .inl 4294967295), (2, .inl 0), (0, gx_r 383), (1, .inl 5)], [], t0, n, 0)) rfl (fun _ => rfl) rfl ?_
        refine ex_go (S := (62, [(3, .inl 4294967295), (2, .inl 0), (0, gx_r 383), (1, .inl 5)], [.inl 0], t0, n, 0)) rfl (fun _ => rfl) rfl ?_
        refine ex_go (S := (65, [(3, .inl 4294967295), (2, .inl 0), (0, gx_r 383), (1, .inl 5)], [], t0, n, 0)) rfl (fun _ => rfl) rfl ?_
        refine ex_go (S := (66, [(3, .inl 4294967295), (2, .inl 0), (0, gx_r 383), (1, .inl 5)], [gx_r 383], t0, n, 0)) rfl (fun _ => rfl) rfl ?_
        refine ex_go (S := (68, [(3, .inl 4294967295), (2, .inl 0), (0, gx_r 383), (1, .inl 5)], [.inl 40, gx_r 383], t0, n, 0)) rfl (fun _ => rfl) rfl ?_
        obtain ⟨_, r34, b32, rfl, q33⟩ := pe_isSign (d + 1) n (s0) hT (by first | decide | omega) (w := 40) (by first | decide | omega)
        refine gx_call1 rfl rfl s0.1 rfl rfl r34 rfl ?_
        have hlq33 : b32 = 1 → a < N := fun z => (q33.2.mp z).2.1
        by_cases hc35 : b32 ≠ 0
        · refine gx_1t (c := .ne) rfl (by first | decide | omega) hc35 rfl ?_
          refine ex_go (S := (92, [(3, .inl 4294967295), (2, .inl 0), (0, gx_r 383), (1, .inl 5)], [.inl 5], t0, n, 0)) rfl (fun _ => rfl) rfl ?_
          refine ex_go (S := (93, [(3, .inl 4294967295), (2, .inl 0), (0, gx_r 383), (1, .inl 5)], [.inl 5, .inl 5], t0, n, 0)) rfl (fun _ => rfl) rfl ?_
          refine ex_go (S := (96, [(3, .inl 4294967295), (2, .inl 0), (0, gx_r 383), (1, .inl 5)], [], t0, n, 0)) rfl (fun _ => rfl) rfl ?_
          refine ex_go (S := (97, [(3, .inl 4294967295), (2, .inl 0), (0, gx_r 383), (1, .inl 5)], [gx_r 383], t0, n, 0)) rfl (fun _ => rfl) rfl ?_
          refine ex_go (S := (98, [(3, .inl 4294967295), (2, .inl 0), (0, gx_r 383), (1, .inl 5)], [.inl 5, gx_r 383], t0, n, 0)) rfl (fun _ => rfl) rfl ?_
          have hb9 : sp_bp S m N fh a := Or.inr (Or.inr (Or.inl (q33.2.mp (by first | decide | omega)).2))
          obtain ⟨_, r136, t136, a136, f136, rfl, s136, e136, q136⟩ := pe_wrong (d + 1) n (s0) hT (by first | decide | omega) (w := 5) (by first | decide | omega)
          have b136 := s136.2.2.2
          have hT136 := rT_keep hT (fun c i h => e136 c i (by first | decide | omega))
          refine gx_call0 rfl rfl s0.1 rfl rfl r136 rfl ?_
          have k37 : ai_hv t136 383 13 = some (.inl c) := (e136 383 13 (by first | decide | omega)).trans kc
          have k38 : ai_hv t136 383 21 = some (.inl fh) := (e136 383 21 (by first | decide | omega)).trans kf
          have k39 : ai_hv t136 385 a = some (.inl (sp_kt S m N a)) := (e136 385 a (by first | decide | omega)).trans k2
          refine ex_go (S := (102, [(3, .inl 4294967295), (2, .inl 0), (0, gx_r 383), (1, .inl 5)], [gx_r 383], t136, n, 0)) rfl (fun _ => rfl) rfl ?_
          refine gx_get rfl s136.1 rfl s136.2.2.1 rfl ?_
          refine gx_1f (c := .le) rfl (by first | decide | omega) (show ¬ (f136 ≤ 0) from by omega) rfl ?_
          refine ex_ret (r := (none, t136, n, 0)) rfl (fun _ => rfl) ?_
          have hf9 : f136 = 5 + 16 * sp_st S m a := by omega
          exact ⟨_, rfl, t136, a136, f136, c, rfl, px_X_fault kc (fun c i h => e136 c i (by first | decide | omega)) s136 (by first | decide | omega) (by first | decide | omega), Ev_at (Ev_to (Ev_p5 hb9) (by show a = a136; omega) (by show _ = f136; omega)) rfl (by show 0 = f; omega), by omega, fun z9 => absurd z9 (by first | decide | omega)⟩
        · refine gx_1f (c := .ne) rfl (by first | decide | omega) hc35 rfl ?_
          refine ex_go (S := (75, [(3, .inl 4294967295), (2, .inl 0), (0, gx_r 383), (1, .inl 5)], [gx_r 383], t0, n, 0)) rfl (fun _ => rfl) rfl ?_
          refine ex_go (S := (77, [(3, .inl 4294967295), (2, .inl 0), (0, gx_r 383), (1, .inl 5)], [.inl 35, gx_r 383], t0, n, 0)) rfl (fun _ => rfl) rfl ?_
          obtain ⟨_, r42, b40, rfl, q41⟩ := pe_isWord (d + 1) n (s0) hT (by first | decide | omega) (w := 35) (by first | decide | omega)
          refine gx_call1 rfl rfl s0.1 rfl rfl r42 rfl ?_
          have hlq41 : b40 = 1 → a < N := fun z => (q41.2.mp z).2.1
          by_cases hc43 : b40 ≠ 0
          · refine gx_1t (c := .ne) rfl (by first | decide | omega) hc43 rfl ?_
            refine ex_go (S := (92, [(3, .inl 4294967295), (2, .inl 0), (0, gx_r 383), (1, .inl 5)], [.inl 5], t0, n, 0)) rfl (fun _ => rfl) rfl ?_
            refine ex_go (S := (93, [(3, .inl 4294967295), (2, .inl 0), (0, gx_r 383), (1, .inl 5)], [.inl 5, .inl 5], t0, n, 0)) rfl (fun _ => rfl) rfl ?_
            refine ex_go (S := (96, [(3, .inl 4294967295), (2, .inl 0), (0, gx_r 383), (1, .inl 5)], [], t0, n, 0)) rfl (fun _ => rfl) rfl ?_
            refine ex_go (S := (97, [(3, .inl 4294967295), (2, .inl 0), (0, gx_r 383), (1, .inl 5)], [gx_r 383], t0, n, 0)) rfl (fun _ => rfl) rfl ?_
            refine ex_go (S := (98, [(3, .inl 4294967295), (2, .inl 0), (0, gx_r 383), (1, .inl 5)], [.inl 5, gx_r 383], t0, n, 0)) rfl (fun _ => rfl) rfl ?_
            have hb9 : sp_bp S m N fh a := Or.inr (Or.inr (Or.inr (q41.2.mp (by first | decide | omega)).2))
            obtain ⟨_, r144, t144, a144, f144, rfl, s144, e144, q144⟩ := pe_wrong (d + 1) n (s0) hT (by first | decide | omega) (w := 5) (by first | decide | omega)
            have b144 := s144.2.2.2
            have hT144 := rT_keep hT (fun c i h => e144 c i (by first | decide | omega))
            refine gx_call0 rfl rfl s0.1 rfl rfl r144 rfl ?_
            have k45 : ai_hv t144 383 13 = some (.inl c) := (e144 383 13 (by first | decide | omega)).trans kc
            have k46 : ai_hv t144 383 21 = some (.inl fh) := (e144 383 21 (by first | decide | omega)).trans kf
            have k47 : ai_hv t144 385 a = some (.inl (sp_kt S m N a)) := (e144 385 a (by first | decide | omega)).trans k2
            refine ex_go (S := (102, [(3, .inl 4294967295), (2, .inl 0), (0, gx_r 383), (1, .inl 5)], [gx_r 383], t144, n, 0)) rfl (fun _ => rfl) rfl ?_
            refine gx_get rfl s144.1 rfl s144.2.2.1 rfl ?_
            refine gx_1f (c := .le) rfl (by first | decide | omega) (show ¬ (f144 ≤ 0) from by omega) rfl ?_
            refine ex_ret (r := (none, t144, n, 0)) rfl (fun _ => rfl) ?_
            have hf9 : f144 = 5 + 16 * sp_st S m a := by omega
            exact ⟨_, rfl, t144, a144, f144, c, rfl, px_X_fault kc (fun c i h => e144 c i (by first | decide | omega)) s144 (by first | decide | omega) (by first | decide | omega), Ev_at (Ev_to (Ev_p5 hb9) (by show a = a144; omega) (by show _ = f144; omega)) rfl (by show 0 = f; omega), by omega, fun z9 => absurd z9 (by first | decide | omega)⟩
          · refine gx_1f (c := .ne) rfl (by first | decide | omega) hc43 rfl ?_
            refine ex_go (S := (84, [(3, .inl 4294967295), (2, .inl 0), (0, gx_r 383), (1, .inl 5)], [gx_r 383], t0, n, 0)) rfl (fun _ => rfl) rfl ?_
            refine ex_go (S := (85, [(3, .inl 4294967295), (2, .inl 0), (0, gx_r 383), (1, .inl 5)], [.inl 1, gx_r 383], t0, n, 0)) rfl (fun _ => rfl) rfl ?_
            have hnb9 : ¬ sp_bp S m N fh a := by
              rintro (z | z | z | z)
              · omega
              · exact hnf z
              · exact absurd (q33.2.mpr ⟨hf0, z⟩) (by first | decide | omega)
              · exact absurd (q41.2.mpr ⟨hf0, z⟩) (by first | decide | omega)
            obtain ⟨_, r148, t148, a148, f148, rfl, s148, e148, q148⟩ := pe_wrong (d + 1) n (s0) hT (by first | decide | omega) (w := 1) (by first | decide | omega)
            have b148 := s148.2.2.2
            have hT148 := rT_keep hT (fun c i h => e148 c i (by first | decide | omega))
            refine gx_call0 rfl rfl s0.1 rfl rfl r148 rfl ?_
            have k49 : ai_hv t148 383 13 = some (.inl c) := (e148 383 13 (by first | decide | omega)).trans kc
            have k50 : ai_hv t148 383 21 = some (.inl fh) := (e148 383 21 (by first | decide | omega)).trans kf
            have k51 : ai_hv t148 385 a = some (.inl (sp_kt S m N a)) := (e148 385 a (by first | decide | omega)).trans k2
            refine ex_go (S := (101, [(3, .inl 4294967295), (2, .inl 0), (0, gx_r 383), (1, .inl 5)], [], t148, n, 0)) rfl (fun _ => rfl) rfl ?_
            refine ex_go (S := (102, [(3, .inl 4294967295), (2, .inl 0), (0, gx_r 383), (1, .inl 5)], [gx_r 383], t148, n, 0)) rfl (fun _ => rfl) rfl ?_
            refine gx_get rfl s148.1 rfl s148.2.2.1 rfl ?_
            refine gx_1f (c := .le) rfl (by first | decide | omega) (show ¬ (f148 ≤ 0) from by omega) rfl ?_
            refine ex_ret (r := (none, t148, n, 0)) rfl (fun _ => rfl) ?_
            have hf9 : f148 = 1 + 16 * sp_st S m a := by omega
            exact ⟨_, rfl, t148, a148, f148, c, rfl, px_X_fault kc (fun c i h => e148 c i (by first | decide | omega)) s148 (by first | decide | omega) (by first | decide | omega), Ev_at (Ev_to (Ev_p1 hnb9) (by show a = a148; omega) (by show _ = f148; omega)) rfl (by show 0 = f; omega), by omega, fun z9 => absurd z9 (by first | decide | omega)⟩
    · refine gx_2f (c := .ne) rfl (by first | decide | omega) (by first | decide | omega) hc3 rfl ?_
      refine ex_go (S := (22, [(0, gx_r 383), (1, .inl 5)], [.inl 1], t0, n, 0)) rfl (fun _ => rfl) rfl ?_
      refine ex_go (S := (26, [(0, gx_r 383), (1, .inl 5)], [.inl 1], t0, n, 0)) rfl (fun _ => rfl) rfl ?_
      refine ex_go (S := (27, [(2, .inl 1), (0, gx_r 383), (1, .inl 5)], [], t0, n, 0)) rfl (fun _ => rfl) rfl ?_
      refine ex_go (S := (28, [(2, .inl 1), (0, gx_r 383), (1, .inl 5)], [gx_r 383], t0, n, 0)) rfl (fun _ => rfl) rfl ?_
      refine ex_go (S := (30, [(2, .inl 1), (0, gx_r 383), (1, .inl 5)], [.inl 38, gx_r 383], t0, n, 0)) rfl (fun _ => rfl) rfl ?_
      refine ex_go (S := (31, [(2, .inl 1), (0, gx_r 383), (1, .inl 5)], [.inl 4, .inl 38, gx_r 383], t0, n, 0)) rfl (fun _ => rfl) rfl ?_
      obtain ⟨_, r54, b52, rfl, q53⟩ := pe_wordHere (d) n (s0) hT (by first | decide | omega) (w := 38) (mm := 4) (by first | decide | omega)
      refine gx_call1 rfl rfl s0.1 rfl rfl r54 rfl ?_
      refine ex_go (S := (35, [(3, .inl b52), (2, .inl 1), (0, gx_r 383), (1, .inl 5)], [], t0, n, 0)) rfl (fun _ => rfl) rfl ?_
      refine ex_go (S := (36, [(3, .inl b52), (2, .inl 1), (0, gx_r 383), (1, .inl 5)], [.inl b52], t0, n, 0)) rfl (fun _ => rfl) rfl ?_
      have hf0 : f = 0 := by omega
      rcases q53 with ⟨hna, hnb, hnc⟩ | ⟨hna, hnb⟩
      · have hlt9 : a < N := hnc.1
        refine gx_1f (c := .lt) rfl (by first | decide | omega) (show ¬ (b52 < 0) from by omega) rfl ?_
        refine ex_go (S := (40, [(3, .inl b52), (2, .inl 1), (0, gx_r 383), (1, .inl 5)], [gx_r 383], t0, n, 0)) rfl (fun _ => rfl) rfl ?_
        refine gx_get rfl s0.1 rfl kf rfl ?_
        refine ex_go (S := (44, [(3, .inl b52), (2, .inl 1), (0, gx_r 383), (1, .inl 5)], [.inl b52, .inl fh], t0, n, 0)) rfl (fun _ => rfl) rfl ?_
        refine ex_go (S := (45, [(3, .inl b52), (2, .inl 1), (0, gx_r 383), (1, .inl 5)], [.inl ((nI fh >>> (nI b52 &&& 31)).toBitVec.toNat)], t0, n, 0)) rfl (fun _ => rfl) rfl ?_
        refine ex_go (S := (46, [(3, .inl b52), (2, .inl 1), (0, gx_r 383), (1, .inl 5)], [.inl 1, .inl ((nI fh >>> (nI b52 &&& 31)).toBitVec.toNat)], t0, n, 0)) rfl (fun _ => rfl) rfl ?_
        refine ex_go (S := (47, [(3, .inl b52), (2, .inl 1), (0, gx_r 383), (1, .inl 5)], [.inl ((nI ((nI fh >>> (nI b52 &&& 31)).toBitVec.toNat) &&& nI 1).toBitVec.toNat)], t0, n, 0)) rfl (fun _ => rfl) rfl ?_
        rw [gx_bit (show fh < 16 by omega) (show b52 < 4 by omega)]
        obtain ⟨z9, hz9⟩ : ∃ z, z = (fh >>> b52) % 2 := ⟨_, rfl⟩
        have hz8 : z9 < 2 := by rw [hz9]; exact Nat.mod_lt _ (by decide)
        rw [← hz9]
        refine ex_go (S := (48, [(3, .inl b52), (2, .inl 1), (0, gx_r 383), (1, .inl 5)], [.inl 1, .inl z9], t0, n, 0)) rfl (fun _ => rfl) rfl ?_
        by_cases hc55 : z9 ≠ 1
        · refine gx_2t (c := .ne) rfl (by first | decide | omega) (by first | decide | omega) hc55 rfl ?_
          refine ex_go (S := (56, [(3, .inl b52), (2, .inl 1), (0, gx_r 383), (1, .inl 5)], [.inl 4294967295], t0, n, 0)) rfl (fun _ => rfl) rfl ?_
          have hnf : ¬ sp_fa S m N fh a := fun ⟨j, z1, z2, z3⟩ => by
            have h9 := sp_wd_one (by first | decide | omega) (by first | decide | omega) hnc z2
            rw [show j = b52 by omega] at z3
            omega
          refine ex_go (S := (57, [(3, .inl 4294967295), (2, .inl 1), (0, gx_r 383), (1, .inl 5)], [], t0, n, 0)) rfl (fun _ => rfl) rfl ?_
          refine ex_go (S := (58, [(3, .inl 4294967295), (2, .inl 1), (0, gx_r 383), (1, .inl 5)], [.inl 4294967295], t0, n, 0)) rfl (fun _ => rfl) rfl ?_
          refine ex_go (S := (61, [(3, .inl 4294967295), (2, .inl 1), (0, gx_r 383), (1, .inl 5)], [], t0, n, 0)) rfl (fun _ => rfl) rfl ?_
          refine ex_go (S := (62, [(3, .inl 4294967295), (2, .inl 1), (0, gx_r 383), (1, .inl 5)], [.inl 1], t0, n, 0)) rfl (fun _ => rfl) rfl ?_
          refine ex_go (S := (91, [(3, .inl 4294967295), (2, .inl 1), (0, gx_r 383), (1, .inl 5)], [], t0, n, 0)) rfl (fun _ => rfl) rfl ?_
          refine ex_go (S := (92, [(3, .inl 4294967295), (2, .inl 1), (0, gx_r 383), (1, .inl 5)], [.inl 5], t0, n, 0)) rfl (fun _ => rfl) rfl ?_
          refine ex_go (S := (93, [(3, .inl 4294967295), (2, .inl 1), (0, gx_r 383), (1, .inl 5)], [.inl 5, .inl 5], t0, n, 0)) rfl (fun _ => rfl) rfl ?_
          refine ex_go (S := (96, [(3, .inl 4294967295), (2, .inl 1), (0, gx_r 383), (1, .inl 5)], [], t0, n, 0)) rfl (fun _ => rfl) rfl ?_
          refine ex_go (S := (97, [(3, .inl 4294967295), (2, .inl 1), (0, gx_r 383), (1, .inl 5)], [gx_r 383], t0, n, 0)) rfl (fun _ => rfl) rfl ?_
          refine ex_go (S := (98, [(3, .inl 4294967295), (2, .inl 1), (0, gx_r 383), (1, .inl 5)], [.inl 5, gx_r 383], t0, n, 0)) rfl (fun _ => rfl) rfl ?_
          have hb9 : sp_bp S m N fh a := Or.inl (by first | decide | omega)
          obtain ⟨_, r156, t156, a156, f156, rfl, s156, e156, q156⟩ := pe_wrong (d + 1) n (s0) hT (by first | decide | omega) (w := 5) (by first | decide | omega)
          have b156 := s156.2.2.2
          have hT156 := rT_keep hT (fun c i h => e156 c i (by first | decide | omega))
          refine gx_call0 rfl rfl s0.1 rfl rfl r156 rfl ?_
          have k57 : ai_hv t156 383 13 = some (.inl c) := (e156 383 13 (by first | decide | omega)).trans kc
          have k58 : ai_hv t156 383 21 = some (.inl fh) := (e156 383 21 (by first | decide | omega)).trans kf
          have k59 : ai_hv t156 385 a = some (.inl (sp_kt S m N a)) := (e156 385 a (by first | decide | omega)).trans k2
          refine ex_go (S := (102, [(3, .inl 4294967295), (2, .inl 1), (0, gx_r 383), (1, .inl 5)], [gx_r 383], t156, n, 0)) rfl (fun _ => rfl) rfl ?_
          refine gx_get rfl s156.1 rfl s156.2.2.1 rfl ?_
          refine gx_1f (c := .le) rfl (by first | decide | omega) (show ¬ (f156 ≤ 0) from by omega) rfl ?_
          refine ex_ret (r := (none, t156, n, 0)) rfl (fun _ => rfl) ?_
          have hf9 : f156 = 5 + 16 * sp_st S m a := by omega
          exact ⟨_, rfl, t156, a156, f156, c, rfl, px_X_fault kc (fun c i h => e156 c i (by first | decide | omega)) s156 (by first | decide | omega) (by first | decide | omega), Ev_at (Ev_to (Ev_p5 hb9) (by show a = a156; omega) (by show _ = f156; omega)) rfl (by show 0 = f; omega), by omega, fun z9 => absurd z9 (by first | decide | omega)⟩
        · refine gx_2f (c := .ne) rfl (by first | decide | omega) (by first | decide | omega) hc55 rfl ?_
          refine ex_go (S := (52, [(3, .inl b52), (2, .inl 1), (0, gx_r 383), (1, .inl 5)], [.inl b52], t0, n, 0)) rfl (fun _ => rfl) rfl ?_
          refine ex_go (S := (56, [(3, .inl b52), (2, .inl 1), (0, gx_r 383), (1, .inl 5)], [.inl b52], t0, n, 0)) rfl (fun _ => rfl) rfl ?_
          have hyf : sp_fa S m N fh a := ⟨b52, hna, hnc, by omega⟩
          refine ex_go (S := (57, [(3, .inl b52), (2, .inl 1), (0, gx_r 383), (1, .inl 5)], [], t0, n, 0)) rfl (fun _ => rfl) rfl ?_
          refine ex_go (S := (58, [(3, .inl b52), (2, .inl 1), (0, gx_r 383), (1, .inl 5)], [.inl b52], t0, n, 0)) rfl (fun _ => rfl) rfl ?_
          refine gx_1t (c := .ge) rfl (by first | decide | omega) (show 0 ≤ b52 from by omega) rfl ?_
          refine ex_go (S := (92, [(3, .inl b52), (2, .inl 1), (0, gx_r 383), (1, .inl 5)], [.inl 5], t0, n, 0)) rfl (fun _ => rfl) rfl ?_
          refine ex_go (S := (93, [(3, .inl b52), (2, .inl 1), (0, gx_r 383), (1, .inl 5)], [.inl 5, .inl 5], t0, n, 0)) rfl (fun _ => rfl) rfl ?_
          refine ex_go (S := (96, [(3, .inl b52), (2, .inl 1), (0, gx_r 383), (1, .inl 5)], [], t0, n, 0)) rfl (fun _ => rfl) rfl ?_
          refine ex_go (S := (97, [(3, .inl b52), (2, .inl 1), (0, gx_r 383), (1, .inl 5)], [gx_r 383], t0, n, 0)) rfl (fun _ => rfl) rfl ?_
          refine ex_go (S := (98, [(3, .inl b52), (2, .inl 1), (0, gx_r 383), (1, .inl 5)], [.inl 5, gx_r 383], t0, n, 0)) rfl (fun _ => rfl) rfl ?_
          have hb9 : sp_bp S m N fh a := Or.inr (Or.inl hyf)
          obtain ⟨_, r160, t160, a160, f160, rfl, s160, e160, q160⟩ := pe_wrong (d + 1) n (s0) hT (by first | decide | omega) (w := 5) (by first | decide | omega)
          have b160 := s160.2.2.2
          have hT160 := rT_keep hT (fun c i h => e160 c i (by first | decide | omega))
          refine gx_call0 rfl rfl s0.1 rfl rfl r160 rfl ?_
          have k61 : ai_hv t160 383 13 = some (.inl c) := (e160 383 13 (by first | decide | omega)).trans kc
          have k62 : ai_hv t160 383 21 = some (.inl fh) := (e160 383 21 (by first | decide | omega)).trans kf
          have k63 : ai_hv t160 385 a = some (.inl (sp_kt S m N a)) := (e160 385 a (by first | decide | omega)).trans k2
          refine ex_go (S := (102, [(3, .inl b52), (2, .inl 1), (0, gx_r 383), (1, .inl 5)], [gx_r 383], t160, n, 0)) rfl (fun _ => rfl) rfl ?_
          refine gx_get rfl s160.1 rfl s160.2.2.1 rfl ?_
          refine gx_1f (c := .le) rfl (by first | decide | omega) (show ¬ (f160 ≤ 0) from by omega) rfl ?_
          refine ex_ret (r := (none, t160, n, 0)) rfl (fun _ => rfl) ?_
          have hf9 : f160 = 5 + 16 * sp_st S m a := by omega
          exact ⟨_, rfl, t160, a160, f160, c, rfl, px_X_fault kc (fun c i h => e160 c i (by first | decide | omega)) s160 (by first | decide | omega) (by first | decide | omega), Ev_at (Ev_to (Ev_p5 hb9) (by show a = a160; omega) (by show _ = f160; omega)) rfl (by show 0 = f; omega), by omega, fun z9 => absurd z9 (by first | decide | omega)⟩
      · have hnf : ¬ sp_fa S m N fh a := fun ⟨j, z1, z2, z3⟩ => hnb j z1 ⟨hf0, z2⟩
        subst hna
        refine ex_go (S := (55, [(3, .inl 4294967295), (2, .inl 1), (0, gx_r 383), (1, .inl 5)], [], t0, n, 0)) rfl (fun _ => rfl) rfl ?_
        refine ex_go (S := (56, [(3, .inl 4294967295), (2, .inl 1), (0, gx_r 383), (1, .inl 5)], [.inl 4294967295], t0, n, 0)) rfl (fun _ => rfl) rfl ?_
        refine ex_go (S := (57, [(3, .inl 4294967295), (2, .inl 1), (0, gx_r 383), (1, .inl 5)], [], t0, n, 0)) rfl (fun _ => rfl) rfl ?_
        refine ex_go (S := (58, [(3, .inl 4294967295), (2, .inl 1), (0, gx_r 383), (1, .inl 5)], [.inl 4294967295], t0, n, 0)) rfl (fun _ => rfl) rfl ?_
        refine ex_go (S := (61, [(3, .inl 4294967295), (2, .inl 1), (0, gx_r 383), (1, .inl 5)], [], t0, n, 0)) rfl (fun _ => rfl) rfl ?_
        refine ex_go (S := (62, [(3, .inl 4294967295), (2, .inl 1), (0, gx_r 383), (1, .inl 5)], [.inl 1], t0, n, 0)) rfl (fun _ => rfl) rfl ?_
        refine ex_go (S := (91, [(3, .inl 4294967295), (2, .inl 1), (0, gx_r 383), (1, .inl 5)], [], t0, n, 0)) rfl (fun _ => rfl) rfl ?_
        refine ex_go (S := (92, [(3, .inl 4294967295), (2, .inl 1), (0, gx_r 383), (1, .inl 5)], [.inl 5], t0, n, 0)) rfl (fun _ => rfl) rfl ?_
        refine ex_go (S := (93, [(3, .inl 4294967295), (2, .inl 1), (0, gx_r 383), (1, .inl 5)], [.inl 5, .inl 5], t0, n, 0)) rfl (fun _ => rfl) rfl ?_
        refine ex_go (S := (96, [(3, .inl 4294967295), (2, .inl 1), (0, gx_r 383), (1, .inl 5)], [], t0, n, 0)) rfl (fun _ => rfl) rfl ?_
        refine ex_go (S := (97, [(3, .inl 4294967295), (2, .inl 1), (0, gx_r 383), (1, .inl 5)], [gx_r 383], t0, n, 0)) rfl (fun _ => rfl) rfl ?_
        refine ex_go (S := (98, [(3, .inl 4294967295), (2, .inl 1), (0, gx_r 383), (1, .inl 5)], [.inl 5, gx_r 383], t0, n, 0)) rfl (fun _ => rfl) rfl ?_
        have hb9 : sp_bp S m N fh a := Or.inl (by first | decide | omega)
        obtain ⟨_, r164, t164, a164, f164, rfl, s164, e164, q164⟩ := pe_wrong (d + 1) n (s0) hT (by first | decide | omega) (w := 5) (by first | decide | omega)
        have b164 := s164.2.2.2
        have hT164 := rT_keep hT (fun c i h => e164 c i (by first | decide | omega))
        refine gx_call0 rfl rfl s0.1 rfl rfl r164 rfl ?_
        have k65 : ai_hv t164 383 13 = some (.inl c) := (e164 383 13 (by first | decide | omega)).trans kc
        have k66 : ai_hv t164 383 21 = some (.inl fh) := (e164 383 21 (by first | decide | omega)).trans kf
        have k67 : ai_hv t164 385 a = some (.inl (sp_kt S m N a)) := (e164 385 a (by first | decide | omega)).trans k2
        refine ex_go (S := (102, [(3, .inl 4294967295), (2, .inl 1), (0, gx_r 383), (1, .inl 5)], [gx_r 383], t164, n, 0)) rfl (fun _ => rfl) rfl ?_
        refine gx_get rfl s164.1 rfl s164.2.2.1 rfl ?_
        refine gx_1f (c := .le) rfl (by first | decide | omega) (show ¬ (f164 ≤ 0) from by omega) rfl ?_
        refine ex_ret (r := (none, t164, n, 0)) rfl (fun _ => rfl) ?_
        have hf9 : f164 = 5 + 16 * sp_st S m a := by omega
        exact ⟨_, rfl, t164, a164, f164, c, rfl, px_X_fault kc (fun c i h => e164 c i (by first | decide | omega)) s164 (by first | decide | omega) (by first | decide | omega), Ev_at (Ev_to (Ev_p5 hb9) (by show a = a164; omega) (by show _ = f164; omega)) rfl (by show 0 = f; omega), by omega, fun z9 => absurd z9 (by first | decide | omega)⟩
  · refine gx_1f (c := .le) rfl (by first | decide | omega) hc1 rfl ?_
    refine ex_ret (r := (none, t0, n, 0)) rfl (fun _ => rfl) ?_
    exact ⟨_, rfl, t0, a, f, c, rfl, px_X_fault kc (fun _ _ _ => rfl) s0 (by first | decide | omega) (by first | decide | omega), Ev_no (by first | decide | omega), by omega, fun z9 => absurd z9 (by first | decide | omega)⟩
theorem pe_takePart {l e : Nat} (hP : ∀ d, pe_C S m N fh (d + l + 3) 288 4 (e + 1)) (hA : ∀ d, pe_C S m N fh (d + l + 7) 247 0 (e + 1)) (he : e ≤ 4) (d : Nat) (hfh : fh = 7 ∨ fh = 8 ∨ fh = 2) : pe_C S m N fh (d + l + 8) 288 4 e := by
  intro n t0 a f c s0 hT ha kc hca kf
  have b0 := s0.2.2.2
  have hN := hT.2.2.2.2.1
  refine en_u_ex (d := d + l + 7) rfl ?_
  show en_ex _ _ _ _ (0, [(0, gx_r 383), (1, .inl e)], [], t0, n, 0) _
  refine ex_go (S := (1, [(0, gx_r 383), (1, .inl e)], [gx_r 383], t0, n, 0)) rfl (fun _ => rfl) rfl ?_
  refine gx_get rfl s0.1 rfl s0.2.2.1 rfl ?_
  by_cases hc1 : f ≤ 0
  · refine gx_1t (c := .le) rfl (by first | decide | omega) hc1 rfl ?_
    refine ex_go (S := (9, [(0, gx_r 383), (1, .inl e)], [gx_r 383], t0, n, 0)) rfl (fun _ => rfl) rfl ?_
    refine gx_ref (c := 385) rfl s0.1 rfl rfl rfl rfl ?_
    refine ex_go (S := (13, [(0, gx_r 383), (1, .inl e)], [gx_r 383, gx_r 385], t0, n, 0)) rfl (fun _ => rfl) rfl ?_
    refine gx_get rfl s0.1 rfl s0.2.1 rfl ?_
    have k2 := rT_sort hT (a := a) (by first | decide | omega)
    have k2b : sp_kt S m N a ≤ 4 := by unfold sp_kt; have := sp_ty_le S m (sp_st S m a); split <;> omega
    refine gx_ag (v := .inl (sp_kt S m N a)) (cb := fun c => Nat.beq c 0) rfl (fun _ => rfl) s0.1 rfl rfl k2 (by first | decide | omega) rfl ?_
    refine ex_go (S := (18, [(0, gx_r 383), (1, .inl e)], [.inl 2, .inl (sp_kt S m N a)], t0, n, 0)) rfl (fun _ => rfl) rfl ?_
    by_cases hc3 : sp_kt S m N a ≠ 2
    · refine gx_2t (c := .ne) rfl (by first | decide | omega) (by first | decide | omega) hc3 rfl ?_
      refine ex_go (S := (26, [(0, gx_r 383), (1, .inl e)], [.inl 0], t0, n, 0)) rfl (fun _ => rfl) rfl ?_
      refine ex_go (S := (27, [(2, .inl 0), (0, gx_r 383), (1, .inl e)], [], t0, n, 0)) rfl (fun _ => rfl) rfl ?_
      refine ex_go (S := (28, [(2, .inl 0), (0, gx_r 383), (1, .inl e)], [gx_r 383], t0, n, 0)) rfl (fun _ => rfl) rfl ?_
      refine ex_go (S := (30, [(2, .inl 0), (0, gx_r 383), (1, .inl e)], [.inl 38, gx_r 383], t0, n, 0)) rfl (fun _ => rfl) rfl ?_
      refine ex_go (S := (31, [(2, .inl 0), (0, gx_r 383), (1, .inl e)], [.inl 4, .inl 38, gx_r 383], t0, n, 0)) rfl (fun _ => rfl) rfl ?_
      obtain ⟨_, r6, b4, rfl, q5⟩ := pe_wordHere (d + l + 5) n (s0) hT (by first | decide | omega) (w := 38) (mm := 4) (by first | decide | omega)
      refine gx_call1 rfl rfl s0.1 rfl rfl r6 rfl ?_
      refine ex_go (S := (35, [(3, .inl b4), (2, .inl 0), (0, gx_r 383), (1, .inl e)], [], t0, n, 0)) rfl (fun _ => rfl) rfl ?_
      refine ex_go (S := (36, [(3, .inl b4), (2, .inl 0), (0, gx_r 383), (1, .inl e)], [.inl b4], t0, n, 0)) rfl (fun _ => rfl) rfl ?_
      have hf0 : f = 0 := by omega
      rcases q5 with ⟨hna, hnb, hnc⟩ | ⟨hna, hnb⟩
      · have hlt9 : a < N := hnc.1
        refine gx_1f (c := .lt) rfl (by first | decide | omega) (show ¬ (b4 < 0) from by omega) rfl ?_
        refine ex_go (S := (40, [(3, .inl b4), (2, .inl 0), (0, gx_r 383), (1, .inl e)], [gx_r 383], t0, n, 0)) rfl (fun _ => rfl) rfl ?_
        refine gx_get rfl s0.1 rfl kf rfl ?_
        refine ex_go (S := (44, [(3, .inl b4), (2, .inl 0), (0, gx_r 383), (1, .inl e)], [.inl b4, .inl fh], t0, n, 0)) rfl (fun _ => rfl) rfl ?_
        refine ex_go (S := (45, [(3, .inl b4), (2, .inl 0), (0, gx_r 383), (1, .inl e)], [.inl ((nI fh >>> (nI b4 &&& 31)).toBitVec.toNat)], t0, n, 0)) rfl (fun _ => rfl) rfl ?_
        refine ex_go (S := (46, [(3, .inl b4), (2, .inl 0), (0, gx_r 383), (1, .inl e)], [.inl 1, .inl ((nI fh >>> (nI b4 &&& 31)).toBitVec.toNat)], t0, n, 0)) rfl (fun _ => rfl) rfl ?_
        refine ex_go (S := (47, [(3, .inl b4), (2, .inl 0), (0, gx_r 383), (1, .inl e)], [.inl ((nI ((nI fh >>> (nI b4 &&& 31)).toBitVec.toNat) &&& nI 1).toBitVec.toNat)], t0, n, 0)) rfl (fun _ => rfl) rfl ?_
        rw [gx_bit (show fh < 16 by omega) (show b4 < 4 by omega)]
        obtain ⟨z9, hz9⟩ : ∃ z, z = (fh >>> b4) % 2 := ⟨_, rfl⟩
        have hz8 : z9 < 2 := by rw [hz9]; exact Nat.mod_lt _ (by decide)
        rw [← hz9]
        refine ex_go (S := (48, [(3, .inl b4), (2, .inl 0), (0, gx_r 383), (1, .inl e)], [.inl 1, .inl z9], t0, n, 0)) rfl (fun _ => rfl) rfl ?_
        by_cases hc7 : z9 ≠ 1
        · refine gx_2t (c := .ne) rfl (by first | decide | omega) (by first | decide | omega) hc7 rfl ?_
          refine ex_go (S := (56, [(3, .inl b4), (2, .inl 0), (0, gx_r 383), (1, .inl e)], [.inl 4294967295], t0, n, 0)) rfl (fun _ => rfl) rfl ?_
          have hnf : ¬ sp_fa S m N fh a := fun ⟨j, z1, z2, z3⟩ => by
            have h9 := sp_wd_one (by first | decide | omega) (by first | decide | omega) hnc z2
            rw [show j = b4 by omega] at z3
            omega
          refine ex_go (S := (57, [(3, .inl 4294967295), (2, .inl 0), (0, gx_r 383), (1, .inl e)], [], t0, n, 0)) rfl (fun _ => rfl) rfl ?_
          refine ex_go (S := (58, [(3, .inl 4294967295), (2, .inl 0), (0, gx_r 383), (1, .inl e)], [.inl 4294967295], t0, n, 0)) rfl (fun _ => rfl) rfl ?_
          refine ex_go (S := (61, [(3, .inl 4294967295), (2, .inl 0), (0, gx_r 383), (1, .inl e)], [], t0, n, 0)) rfl (fun _ => rfl) rfl ?_
          refine ex_go (S := (62, [(3, .inl 4294967295), (2, .inl 0), (0, gx_r 383), (1, .inl e)], [.inl 0], t0, n, 0)) rfl (fun _ => rfl) rfl ?_
          refine ex_go (S := (65, [(3, .inl 4294967295), (2, .inl 0), (0, gx_r 383), (1, .inl e)], [], t0, n, 0)) rfl (fun _ => rfl) rfl ?_
          refine ex_go (S := (66, [(3, .inl 4294967295), (2, .inl 0), (0, gx_r 383), (1, .inl e)], [gx_r 383], t0, n, 0)) rfl (fun _ => rfl) rfl ?_
          refine ex_go (S := (68, [(3, .inl 4294967295), (2, .inl 0), (0, gx_r 383), (1, .inl e)], [.inl 40, gx_r 383], t0, n, 0)) rfl (fun _ => rfl) rfl ?_
          obtain ⟨_, r10, b8, rfl, q9⟩ := pe_isSign (d + l + 6) n (s0) hT (by first | decide | omega) (w := 40) (by first | decide | omega)
          refine gx_call1 rfl rfl s0.1 rfl rfl r10 rfl ?_
          have hlq9 : b8 = 1 → a < N := fun z => (q9.2.mp z).2.1
          by_cases hc11 : b8 ≠ 0
          · refine gx_1t (c := .ne) rfl (by first | decide | omega) hc11 rfl ?_
            refine ex_go (S := (92, [(3, .inl 4294967295), (2, .inl 0), (0, gx_r 383), (1, .inl e)], [.inl e], t0, n, 0)) rfl (fun _ => rfl) rfl ?_
            refine ex_go (S := (93, [(3, .inl 4294967295), (2, .inl 0), (0, gx_r 383), (1, .inl e)], [.inl 5, .inl e], t0, n, 0)) rfl (fun _ => rfl) rfl ?_
            refine gx_2t (c := .ne) rfl (by first | decide | omega) (by first | decide | omega) (show e ≠ 5 from by omega) rfl ?_
            exact pe_takePart_t hfh hP hA he d n s0 hT ha kc hca kf hf0 (Or.inr (Or.inr (Or.inl (q9.2.mp (by first | decide | omega)).2))) (Or.inr (Or.inr ⟨rfl, Or.inl (q9.2.mp (by first | decide | omega)).2⟩))
          · refine gx_1f (c := .ne) rfl (by first | decide | omega) hc11 rfl ?_
            refine ex_go (S := (75, [(3, .inl 4294967295), (2, .inl 0), (0, gx_r 383), (1, .inl e)], [gx_r 383], t0, n, 0)) rfl (fun _ => rfl) rfl ?_
            refine ex_go (S := (77, [(3, .inl 4294967295), (2, .inl 0), (0, gx_r 383), (1, .inl e)], [.inl 35, gx_r 383], t0, n, 0)) rfl (fun _ => rfl) rfl ?_
            obtain ⟨_, r14, b12, rfl, q13⟩ := pe_isWord (d + l + 6) n (s0) hT (by first | decide | omega) (w := 35) (by first | decide | omega)
            refine gx_call1 rfl rfl s0.1 rfl rfl r14 rfl ?_
            have hlq13 : b12 = 1 → a < N := fun z => (q13.2.mp z).2.1
            by_cases hc15 : b12 ≠ 0
            · refine gx_1t (c := .ne) rfl (by first | decide | omega) hc15 rfl ?_
              refine ex_go (S := (92, [(3, .inl 4294967295), (2, .inl 0), (0, gx_r 383), (1, .inl e)], [.inl e], t0, n, 0)) rfl (fun _ => rfl) rfl ?_
              refine ex_go (S := (93, [(3, .inl 4294967295), (2, .inl 0), (0, gx_r 383), (1, .inl e)], [.inl 5, .inl e], t0, n, 0)) rfl (fun _ => rfl) rfl ?_
              refine gx_2t (c := .ne) rfl (by first | decide | omega) (by first | decide | omega) (show e ≠ 5 from by omega) rfl ?_
              exact pe_takePart_t hfh hP hA he d n s0 hT ha kc hca kf hf0 (Or.inr (Or.inr (Or.inr (q13.2.mp (by first | decide | omega)).2))) (Or.inr (Or.inr ⟨rfl, Or.inr (q13.2.mp (by first | decide | omega)).2⟩))
            · refine gx_1f (c := .ne) rfl (by first | decide | omega) hc15 rfl ?_
              refine ex_go (S := (84, [(3, .inl 4294967295), (2, .inl 0), (0, gx_r 383), (1, .inl e)], [gx_r 383], t0, n, 0)) rfl (fun _ => rfl) rfl ?_
              refine ex_go (S := (85, [(3, .inl 4294967295), (2, .inl 0), (0, gx_r 383), (1, .inl e)], [.inl 1, gx_r 383], t0, n, 0)) rfl (fun _ => rfl) rfl ?_
              have hnb9 : ¬ sp_bp S m N fh a := by
                rintro (z | z | z | z)
                · omega
                · exact hnf z
                · exact absurd (q9.2.mpr ⟨hf0, z⟩) (by first | decide | omega)
                · exact absurd (q13.2.mpr ⟨hf0, z⟩) (by first | decide | omega)
              obtain ⟨_, r116, t116, a116, f116, rfl, s116, e116, q116⟩ := pe_wrong (d + l + 6) n (s0) hT (by first | decide | omega) (w := 1) (by first | decide | omega)
              have b116 := s116.2.2.2
              have hT116 := rT_keep hT (fun c i h => e116 c i (by first | decide | omega))
              refine gx_call0 rfl rfl s0.1 rfl rfl r116 rfl ?_
              have k17 : ai_hv t116 383 13 = some (.inl c) := (e116 383 13 (by first | decide | omega)).trans kc
              have k18 : ai_hv t116 383 21 = some (.inl fh) := (e116 383 21 (by first | decide | omega)).trans kf
              have k19 : ai_hv t116 385 a = some (.inl (sp_kt S m N a)) := (e116 385 a (by first | decide | omega)).trans k2
              refine ex_go (S := (101, [(3, .inl 4294967295), (2, .inl 0), (0, gx_r 383), (1, .inl e)], [], t116, n, 0)) rfl (fun _ => rfl) rfl ?_
              refine ex_go (S := (102, [(3, .inl 4294967295), (2, .inl 0), (0, gx_r 383), (1, .inl e)], [gx_r 383], t116, n, 0)) rfl (fun _ => rfl) rfl ?_
              refine gx_get rfl s116.1 rfl s116.2.2.1 rfl ?_
              refine gx_1f (c := .le) rfl (by first | decide | omega) (show ¬ (f116 ≤ 0) from by omega) rfl ?_
              refine ex_ret (r := (none, t116, n, 0)) rfl (fun _ => rfl) ?_
              have hf9 : f116 = 1 + 16 * sp_st S m a := by omega
              exact ⟨_, rfl, t116, a116, f116, c, rfl, px_X_fault kc (fun c i h => e116 c i (by first | decide | omega)) s116 (by first | decide | omega) (by first | decide | omega), Ev_at (Ev_to (Ev_p1 hnb9) (by show a = a116; omega) (by show _ = f116; omega)) rfl (by show 0 = f; omega), by omega, fun z9 => absurd z9 (by first | decide | omega)⟩
        · refine gx_2f (c := .ne) rfl (by first | decide | omega) (by first | decide | omega) hc7 rfl ?_
          refine ex_go (S := (52, [(3, .inl b4), (2, .inl 0), (0, gx_r 383), (1, .inl e)], [.inl b4], t0, n, 0)) rfl (fun _ => rfl) rfl ?_
          refine ex_go (S := (56, [(3, .inl b4), (2, .inl 0), (0, gx_r 383), (1, .inl e)], [.inl b4], t0, n, 0)) rfl (fun _ => rfl) rfl ?_
          have hyf : sp_fa S m N fh a := ⟨b4, hna, hnc, by omega⟩
          refine ex_go (S := (57, [(3, .inl b4), (2, .inl 0), (0, gx_r 383), (1, .inl e)], [], t0, n, 0)) rfl (fun _ => rfl) rfl ?_
          refine ex_go (S := (58, [(3, .inl b4), (2, .inl 0), (0, gx_r 383), (1, .inl e)], [.inl b4], t0, n, 0)) rfl (fun _ => rfl) rfl ?_
          refine gx_1t (c := .ge) rfl (by first | decide | omega) (show 0 ≤ b4 from by omega) rfl ?_
          refine ex_go (S := (92, [(3, .inl b4), (2, .inl 0), (0, gx_r 383), (1, .inl e)], [.inl e], t0, n, 0)) rfl (fun _ => rfl) rfl ?_
          refine ex_go (S := (93, [(3, .inl b4), (2, .inl 0), (0, gx_r 383), (1, .inl e)], [.inl 5, .inl e], t0, n, 0)) rfl (fun _ => rfl) rfl ?_
          refine gx_2t (c := .ne) rfl (by first | decide | omega) (by first | decide | omega) (show e ≠ 5 from by omega) rfl ?_
          exact pe_takePart_t hfh hP hA he d n s0 hT ha kc hca kf hf0 (Or.inr (Or.inl hyf)) (Or.inr (Or.inl ⟨rfl, by omega, by omega, hnc, by omega⟩))
      · have hnf : ¬ sp_fa S m N fh a := fun ⟨j, z1, z2, z3⟩ => hnb j z1 ⟨hf0, z2⟩
        subst hna
        refine ex_go (S := (55, [(3, .inl 4294967295), (2, .inl 0), (0, gx_r 383), (1, .inl e)], [], t0, n, 0)) rfl (fun _ => rfl) rfl ?_
        refine ex_go (S := (56, [(3, .inl 4294967295), (2, .inl 0), (0, gx_r 383), (1, .inl e)], [.inl 4294967295], t0, n, 0)) rfl (fun _ => rfl) rfl ?_
        refine ex_go (S := (57, [(3, .inl 4294967295), (2, .inl 0), (0, gx_r 383), (1, .inl e)], [], t0, n, 0)) rfl (fun _ => rfl) rfl ?_
        refine ex_go (S := (58, [(3, .inl 4294967295), (2, .inl 0), (0, gx_r 383), (1, .inl e)], [.inl 4294967295], t0, n, 0)) rfl (fun _ => rfl) rfl ?_
        refine ex_go (S := (61, [(3, .inl 4294967295), (2, .inl 0), (0, gx_r 383), (1, .inl e)], [], t0, n, 0)) rfl (fun _ => rfl) rfl ?_
        refine ex_go (S := (62, [(3, .inl 4294967295), (2, .inl 0), (0, gx_r 383), (1, .inl e)], [.inl 0], t0, n, 0)) rfl (fun _ => rfl) rfl ?_
        refine ex_go (S := (65, [(3, .inl 4294967295), (2, .inl 0), (0, gx_r 383), (1, .inl e)], [], t0, n, 0)) rfl (fun _ => rfl) rfl ?_
        refine ex_go (S := (66, [(3, .inl 4294967295), (2, .inl 0), (0, gx_r 383), (1, .inl e)], [gx_r 383], t0, n, 0)) rfl (fun _ => rfl) rfl ?_
        refine ex_go (S := (68, [(3, .inl 4294967295), (2, .inl 0), (0, gx_r 383), (1, .inl e)], [.inl 40, gx_r 383], t0, n, 0)) rfl (fun _ => rfl) rfl ?_
        obtain ⟨_, r22, b20, rfl, q21⟩ := pe_isSign (d + l + 6) n (s0) hT (by first | decide | omega) (w := 40) (by first | decide | omega)
        refine gx_call1 rfl rfl s0.1 rfl rfl r22 rfl ?_
        have hlq21 : b20 = 1 → a < N := fun z => (q21.2.mp z).2.1
        by_cases hc23 : b20 ≠ 0
        · refine gx_1t (c := .ne) rfl (by first | decide | omega) hc23 rfl ?_
          refine ex_go (S := (92, [(3, .inl 4294967295), (2, .inl 0), (0, gx_r 383), (1, .inl e)], [.inl e], t0, n, 0)) rfl (fun _ => rfl) rfl ?_
          refine ex_go (S := (93, [(3, .inl 4294967295), (2, .inl 0), (0, gx_r 383), (1, .inl e)], [.inl 5, .inl e], t0, n, 0)) rfl (fun _ => rfl) rfl ?_
          refine gx_2t (c := .ne) rfl (by first | decide | omega) (by first | decide | omega) (show e ≠ 5 from by omega) rfl ?_
          exact pe_takePart_t hfh hP hA he d n s0 hT ha kc hca kf hf0 (Or.inr (Or.inr (Or.inl (q21.2.mp (by first | decide | omega)).2))) (Or.inr (Or.inr ⟨rfl, Or.inl (q21.2.mp (by first | decide | omega)).2⟩))
        · refine gx_1f (c := .ne) rfl (by first | decide | omega) hc23 rfl ?_
          refine ex_go (S := (75, [(3, .inl 4294967295), (2, .inl 0), (0, gx_r 383), (1, .inl e)], [gx_r 383], t0, n, 0)) rfl (fun _ => rfl) rfl ?_
          refine ex_go (S := (77, [(3, .inl 4294967295), (2, .inl 0), (0, gx_r 383), (1, .inl e)], [.inl 35, gx_r 383], t0, n, 0)) rfl (fun _ => rfl) rfl ?_
          obtain ⟨_, r26, b24, rfl, q25⟩ := pe_isWord (d + l + 6) n (s0) hT (by first | decide | omega) (w := 35) (by first | decide | omega)
          refine gx_call1 rfl rfl s0.1 rfl rfl r26 rfl ?_
          have hlq25 : b24 = 1 → a < N := fun z => (q25.2.mp z).2.1
          by_cases hc27 : b24 ≠ 0
          · refine gx_1t (c := .ne) rfl (by first | decide | omega) hc27 rfl ?_
            refine ex_go (S := (92, [(3, .inl 4294967295), (2, .inl 0), (0, gx_r 383), (1, .inl e)], [.inl e], t0, n, 0)) rfl (fun _ => rfl) rfl ?_
            refine ex_go (S := (93, [(3, .inl 4294967295), (2, .inl 0), (0, gx_r 383), (1, .inl e)], [.inl 5, .inl e], t0, n, 0)) rfl (fun _ => rfl) rfl ?_
            refine gx_2t (c := .ne) rfl (by first | decide | omega) (by first | decide | omega) (show e ≠ 5 from by omega) rfl ?_
            exact pe_takePart_t hfh hP hA he d n s0 hT ha kc hca kf hf0 (Or.inr (Or.inr (Or.inr (q25.2.mp (by first | decide | omega)).2))) (Or.inr (Or.inr ⟨rfl, Or.inr (q25.2.mp (by first | decide | omega)).2⟩))
          · refine gx_1f (c := .ne) rfl (by first | decide | omega) hc27 rfl ?_
            refine ex_go (S := (84, [(3, .inl 4294967295), (2, .inl 0), (0, gx_r 383), (1, .inl e)], [gx_r 383], t0, n, 0)) rfl (fun _ => rfl) rfl ?_
            refine ex_go (S := (85, [(3, .inl 4294967295), (2, .inl 0), (0, gx_r 383), (1, .inl e)], [.inl 1, gx_r 383], t0, n, 0)) rfl (fun _ => rfl) rfl ?_
            have hnb9 : ¬ sp_bp S m N fh a := by
              rintro (z | z | z | z)
              · omega
              · exact hnf z
              · exact absurd (q21.2.mpr ⟨hf0, z⟩) (by first | decide | omega)
              · exact absurd (q25.2.mpr ⟨hf0, z⟩) (by first | decide | omega)
            obtain ⟨_, r128, t128, a128, f128, rfl, s128, e128, q128⟩ := pe_wrong (d + l + 6) n (s0) hT (by first | decide | omega) (w := 1) (by first | decide | omega)
            have b128 := s128.2.2.2
            have hT128 := rT_keep hT (fun c i h => e128 c i (by first | decide | omega))
            refine gx_call0 rfl rfl s0.1 rfl rfl r128 rfl ?_
            have k29 : ai_hv t128 383 13 = some (.inl c) := (e128 383 13 (by first | decide | omega)).trans kc
            have k30 : ai_hv t128 383 21 = some (.inl fh) := (e128 383 21 (by first | decide | omega)).trans kf
            have k31 : ai_hv t128 385 a = some (.inl (sp_kt S m N a)) := (e128 385 a (by first | decide | omega)).trans k2
            refine ex_go (S := (101, [(3, .inl 4294967295), (2, .inl 0), (0, gx_r 383), (1, .inl e)], [], t128, n, 0)) rfl (fun _ => rfl) rfl ?_
            refine ex_go (S := (102, [(3, .inl 4294967295), (2, .inl 0), (0, gx_r 383), (1, .inl e)], [gx_r 383], t128, n, 0)) rfl (fun _ => rfl) rfl ?_
            refine gx_get rfl s128.1 rfl s128.2.2.1 rfl ?_
            refine gx_1f (c := .le) rfl (by first | decide | omega) (show ¬ (f128 ≤ 0) from by omega) rfl ?_
            refine ex_ret (r := (none, t128, n, 0)) rfl (fun _ => rfl) ?_
            have hf9 : f128 = 1 + 16 * sp_st S m a := by omega
            exact ⟨_, rfl, t128, a128, f128, c, rfl, px_X_fault kc (fun c i h => e128 c i (by first | decide | omega)) s128 (by first | decide | omega) (by first | decide | omega), Ev_at (Ev_to (Ev_p1 hnb9) (by show a = a128; omega) (by show _ = f128; omega)) rfl (by show 0 = f; omega), by omega, fun z9 => absurd z9 (by first | decide | omega)⟩
    · refine gx_2f (c := .ne) rfl (by first | decide | omega) (by first | decide | omega) hc3 rfl ?_
      refine ex_go (S := (22, [(0, gx_r 383), (1, .inl e)], [.inl 1], t0, n, 0)) rfl (fun _ => rfl) rfl ?_
      refine ex_go (S := (26, [(0, gx_r 383), (1, .inl e)], [.inl 1], t0, n, 0)) rfl (fun _ => rfl) rfl ?_
      refine ex_go (S := (27, [(2, .inl 1), (0, gx_r 383), (1, .inl e)], [], t0, n, 0)) rfl (fun _ => rfl) rfl ?_
      refine ex_go (S := (28, [(2, .inl 1), (0, gx_r 383), (1, .inl e)], [gx_r 383], t0, n, 0)) rfl (fun _ => rfl) rfl ?_
      refine ex_go (S := (30, [(2, .inl 1), (0, gx_r 383), (1, .inl e)], [.inl 38, gx_r 383], t0, n, 0)) rfl (fun _ => rfl) rfl ?_
      refine ex_go (S := (31, [(2, .inl 1), (0, gx_r 383), (1, .inl e)], [.inl 4, .inl 38, gx_r 383], t0, n, 0)) rfl (fun _ => rfl) rfl ?_
      obtain ⟨_, r34, b32, rfl, q33⟩ := pe_wordHere (d + l + 5) n (s0) hT (by first | decide | omega) (w := 38) (mm := 4) (by first | decide | omega)
      refine gx_call1 rfl rfl s0.1 rfl rfl r34 rfl ?_
      refine ex_go (S := (35, [(3, .inl b32), (2, .inl 1), (0, gx_r 383), (1, .inl e)], [], t0, n, 0)) rfl (fun _ => rfl) rfl ?_
      refine ex_go (S := (36, [(3, .inl b32), (2, .inl 1), (0, gx_r 383), (1, .inl e)], [.inl b32], t0, n, 0)) rfl (fun _ => rfl) rfl ?_
      have hf0 : f = 0 := by omega
      rcases q33 with ⟨hna, hnb, hnc⟩ | ⟨hna, hnb⟩
      · have hlt9 : a < N := hnc.1
        refine gx_1f (c := .lt) rfl (by first | decide | omega) (show ¬ (b32 < 0) from by omega) rfl ?_
        refine ex_go (S := (40, [(3, .inl b32), (2, .inl 1), (0, gx_r 383), (1, .inl e)], [gx_r 383], t0, n, 0)) rfl (fun _ => rfl) rfl ?_
        refine gx_get rfl s0.1 rfl kf rfl ?_
        refine ex_go (S := (44, [(3, .inl b32), (2, .inl 1), (0, gx_r 383), (1, .inl e)], [.inl b32, .inl fh], t0, n, 0)) rfl (fun _ => rfl) rfl ?_
        refine ex_go (S := (45, [(3, .inl b32), (2, .inl 1), (0, gx_r 383), (1, .inl e)], [.inl ((nI fh >>> (nI b32 &&& 31)).toBitVec.toNat)], t0, n, 0)) rfl (fun _ => rfl) rfl ?_
        refine ex_go (S := (46, [(3, .inl b32), (2, .inl 1), (0, gx_r 383), (1, .inl e)], [.inl 1, .inl ((nI fh >>> (nI b32 &&& 31)).toBitVec.toNat)], t0, n, 0)) rfl (fun _ => rfl) rfl ?_
        refine ex_go (S := (47, [(3, .inl b32), (2, .inl 1), (0, gx_r 383), (1, .inl e)], [.inl ((nI ((nI fh >>> (nI b32 &&& 31)).toBitVec.toNat) &&& nI 1).toBitVec.toNat)], t0, n, 0)) rfl (fun _ => rfl) rfl ?_
        rw [gx_bit (show fh < 16 by omega) (show b32 < 4 by omega)]
        obtain ⟨z9, hz9⟩ : ∃ z, z = (fh >>> b32) % 2 := ⟨_, rfl⟩
        have hz8 : z9 < 2 := by rw [hz9]; exact Nat.mod_lt _ (by decide)
        rw [← hz9]
        refine ex_go (S := (48, [(3, .inl b32), (2, .inl 1), (0, gx_r 383), (1, .inl e)], [.inl 1, .inl z9], t0, n, 0)) rfl (fun _ => rfl) rfl ?_
        by_cases hc35 : z9 ≠ 1
        · refine gx_2t (c := .ne) rfl (by first | decide | omega) (by first | decide | omega) hc35 rfl ?_
          refine ex_go (S := (56, [(3, .inl b32), (2, .inl 1), (0, gx_r 383), (1, .inl e)], [.inl 4294967295], t0, n, 0)) rfl (fun _ => rfl) rfl ?_
          have hnf : ¬ sp_fa S m N fh a := fun ⟨j, z1, z2, z3⟩ => by
            have h9 := sp_wd_one (by first | decide | omega) (by first | decide | omega) hnc z2
            rw [show j = b32 by omega] at z3
            omega
          refine ex_go (S := (57, [(3, .inl 4294967295), (2, .inl 1), (0, gx_r 383), (1, .inl e)], [], t0, n, 0)) rfl (fun _ => rfl) rfl ?_
          refine ex_go (S := (58, [(3, .inl 4294967295), (2, .inl 1), (0, gx_r 383), (1, .inl e)], [.inl 4294967295], t0, n, 0)) rfl (fun _ => rfl) rfl ?_
          refine ex_go (S := (61, [(3, .inl 4294967295), (2, .inl 1), (0, gx_r 383), (1, .inl e)], [], t0, n, 0)) rfl (fun _ => rfl) rfl ?_
          refine ex_go (S := (62, [(3, .inl 4294967295), (2, .inl 1), (0, gx_r 383), (1, .inl e)], [.inl 1], t0, n, 0)) rfl (fun _ => rfl) rfl ?_
          refine ex_go (S := (91, [(3, .inl 4294967295), (2, .inl 1), (0, gx_r 383), (1, .inl e)], [], t0, n, 0)) rfl (fun _ => rfl) rfl ?_
          refine ex_go (S := (92, [(3, .inl 4294967295), (2, .inl 1), (0, gx_r 383), (1, .inl e)], [.inl e], t0, n, 0)) rfl (fun _ => rfl) rfl ?_
          refine ex_go (S := (93, [(3, .inl 4294967295), (2, .inl 1), (0, gx_r 383), (1, .inl e)], [.inl 5, .inl e], t0, n, 0)) rfl (fun _ => rfl) rfl ?_
          refine gx_2t (c := .ne) rfl (by first | decide | omega) (by first | decide | omega) (show e ≠ 5 from by omega) rfl ?_
          exact pe_takePart_t hfh hP hA he d n s0 hT ha kc hca kf hf0 (Or.inl (by first | decide | omega)) (Or.inl ⟨rfl, sp_kt_lt (S := S) (m := m) (N := N) (by first | decide | omega), by omega⟩)
        · refine gx_2f (c := .ne) rfl (by first | decide | omega) (by first | decide | omega) hc35 rfl ?_
          refine ex_go (S := (52, [(3, .inl b32), (2, .inl 1), (0, gx_r 383), (1, .inl e)], [.inl b32], t0, n, 0)) rfl (fun _ => rfl) rfl ?_
          refine ex_go (S := (56, [(3, .inl b32), (2, .inl 1), (0, gx_r 383), (1, .inl e)], [.inl b32], t0, n, 0)) rfl (fun _ => rfl) rfl ?_
          have hyf : sp_fa S m N fh a := ⟨b32, hna, hnc, by omega⟩
          refine ex_go (S := (57, [(3, .inl b32), (2, .inl 1), (0, gx_r 383), (1, .inl e)], [], t0, n, 0)) rfl (fun _ => rfl) rfl ?_
          refine ex_go (S := (58, [(3, .inl b32), (2, .inl 1), (0, gx_r 383), (1, .inl e)], [.inl b32], t0, n, 0)) rfl (fun _ => rfl) rfl ?_
          refine gx_1t (c := .ge) rfl (by first | decide | omega) (show 0 ≤ b32 from by omega) rfl ?_
          refine ex_go (S := (92, [(3, .inl b32), (2, .inl 1), (0, gx_r 383), (1, .inl e)], [.inl e], t0, n, 0)) rfl (fun _ => rfl) rfl ?_
          refine ex_go (S := (93, [(3, .inl b32), (2, .inl 1), (0, gx_r 383), (1, .inl e)], [.inl 5, .inl e], t0, n, 0)) rfl (fun _ => rfl) rfl ?_
          refine gx_2t (c := .ne) rfl (by first | decide | omega) (by first | decide | omega) (show e ≠ 5 from by omega) rfl ?_
          exact pe_takePart_t hfh hP hA he d n s0 hT ha kc hca kf hf0 (Or.inr (Or.inl hyf)) (Or.inl ⟨rfl, sp_kt_lt (S := S) (m := m) (N := N) (by first | decide | omega), by omega⟩)
      · have hnf : ¬ sp_fa S m N fh a := fun ⟨j, z1, z2, z3⟩ => hnb j z1 ⟨hf0, z2⟩
        subst hna
        refine ex_go (S := (55, [(3, .inl 4294967295), (2, .inl 1), (0, gx_r 383), (1, .inl e)], [], t0, n, 0)) rfl (fun _ => rfl) rfl ?_
        refine ex_go (S := (56, [(3, .inl 4294967295), (2, .inl 1), (0, gx_r 383), (1, .inl e)], [.inl 4294967295], t0, n, 0)) rfl (fun _ => rfl) rfl ?_
        refine ex_go (S := (57, [(3, .inl 4294967295), (2, .inl 1), (0, gx_r 383), (1, .inl e)], [], t0, n, 0)) rfl (fun _ => rfl) rfl ?_
        refine ex_go (S := (58, [(3, .inl 4294967295), (2, .inl 1), (0, gx_r 383), (1, .inl e)], [.inl 4294967295], t0, n, 0)) rfl (fun _ => rfl) rfl ?_
        refine ex_go (S := (61, [(3, .inl 4294967295), (2, .inl 1), (0, gx_r 383), (1, .inl e)], [], t0, n, 0)) rfl (fun _ => rfl) rfl ?_
        refine ex_go (S := (62, [(3, .inl 4294967295), (2, .inl 1), (0, gx_r 383), (1, .inl e)], [.inl 1], t0, n, 0)) rfl (fun _ => rfl) rfl ?_
        refine ex_go (S := (91, [(3, .inl 4294967295), (2, .inl 1), (0, gx_r 383), (1, .inl e)], [], t0, n, 0)) rfl (fun _ => rfl) rfl ?_
        refine ex_go (S := (92, [(3, .inl 4294967295), (2, .inl 1), (0, gx_r 383), (1, .inl e)], [.inl e], t0, n, 0)) rfl (fun _ => rfl) rfl ?_
        refine ex_go (S := (93, [(3, .inl 4294967295), (2, .inl 1), (0, gx_r 383), (1, .inl e)], [.inl 5, .inl e], t0, n, 0)) rfl (fun _ => rfl) rfl ?_
        refine gx_2t (c := .ne) rfl (by first | decide | omega) (by first | decide | omega) (show e ≠ 5 from by omega) rfl ?_
        exact pe_takePart_t hfh hP hA he d n s0 hT ha kc hca kf hf0 (Or.inl (by first | decide | omega)) (Or.inl ⟨rfl, sp_kt_lt (S := S) (m := m) (N := N) (by first | decide | omega), by omega⟩)
  · refine gx_1f (c := .le) rfl (by first | decide | omega) hc1 rfl ?_
    refine ex_ret (r := (none, t0, n, 0)) rfl (fun _ => rfl) ?_
    exact ⟨_, rfl, t0, a, f, c, rfl, px_X_fault kc (fun _ _ _ => rfl) s0 (by first | decide | omega) (by first | decide | omega), Ev_no (by first | decide | omega), by omega, fun z9 => absurd z9 (by first | decide | omega)⟩
theorem pe_laws (hfh : fh = 7 ∨ fh = 8 ∨ fh = 2) : ∀ j e, e + j = 5 → (∀ d, pe_C S m N fh (d + 5 * j + 3) 288 4 e) ∧ (∀ d, pe_C S m N fh (d + 5 * j + 7) 247 0 e) := by
  intro j
  induction j with
  | zero =>
    intro e he
    have e5 : e = 5 := by omega
    subst e5
    have h1 : ∀ d, pe_C S m N fh (d + 0 + 3) 288 4 5 := fun d => pe_takePart5 d hfh
    exact ⟨h1, pe_all (l := 0) (pe_test (l := 0) (pe_sums (l := 0) (pe_products (l := 0) h1 (by first | decide | omega)) (by first | decide | omega)) (by first | decide | omega)) (by first | decide | omega)⟩
  | succ j ih =>
    intro e he
    obtain ⟨hT, hA⟩ := ih (e + 1) (by first | decide | omega)
    have h1 : ∀ d, pe_C S m N fh (d + 5 * (j + 1) + 3) 288 4 e := fun d => pe_takePart (l := 5 * j) hT hA (by first | decide | omega) d hfh
    exact ⟨h1, pe_all (l := 5 * (j + 1)) (pe_test (l := 5 * (j + 1)) (pe_sums (l := 5 * (j + 1)) (pe_products (l := 5 * (j + 1)) h1 (by first | decide | omega)) (by first | decide | omega)) (by first | decide | omega)) (by first | decide | omega)⟩
theorem pe_all0 (hfh : fh = 7 ∨ fh = 8 ∨ fh = 2) (d : Nat) : pe_C S m N fh (d + 32) 247 0 0 := (pe_laws hfh 5 0 rfl).2 d
end SPO
