section SWT
theorem nq_iff2 {S S' : Nat → Nat} {m m' N N' a b : Nat} (ha : sp_kt S m N a = 1) (hb : sp_kt S' m' N' b = 1) : nq (sp_wv S m a) (sp_wv S' m' b) ↔ sp_wv S m a = sp_wv S' m' b := by
  have h1 := sp_wv_lt ha
  have h2 := sp_wv_lt hb
  unfold nq
  rw [sp_lN (by first | decide | omega), sp_lN (by first | decide | omega)]
  omega
theorem tc_fi {S S0 : Nat → Nat} {m m0 N N0 a : Nat} {υ : Nat → Nat → Nat} (hc : WC S0 m0 N0 υ) (ha : sp_kt S m N a = 1) : tcr S0 m0 υ S m a ↔ sp_fi (fun i => nq (sp_wv S0 m0 (υ 21 i + 1)) (sp_wv S m a)) (υ 4 0) 0 < υ 4 0 := by
  constructor
  · rintro ⟨j, h1, h2⟩
    have := sp_fi_ex (P := fun i => nq (sp_wv S0 m0 (υ 21 i + 1)) (sp_wv S m a)) (j := υ 4 0) (k := 0) (i := j) (by first | decide | omega) (by first | decide | omega) ((nq_iff2 (hc j h1).2.1 ha).mpr h2)
    omega
  · intro h
    have h2 := sp_fi_lt (P := fun i => nq (sp_wv S0 m0 (υ 21 i + 1)) (sp_wv S m a)) (j := υ 4 0) (k := 0) (by rw [Nat.zero_add]; exact h)
    exact ⟨_, h, (nq_iff2 (hc _ h).2.1 ha).mp h2⟩
theorem crw_fi {S S0 : Nat → Nat} {m m0 N N0 a x : Nat} {υ : Nat → Nat → Nat} (hc : WC S0 m0 N0 υ) (ha : sp_kt S m N a = 1) (hx : x = sp_wv S m a) (h : sp_fi (fun i => nq (sp_wv S0 m0 (υ 21 i + 1)) x) (υ 4 0) 0 < υ 4 0) : crw S0 m0 υ S m a (sp_fi (fun i => nq (sp_wv S0 m0 (υ 21 i + 1)) x) (υ 4 0) 0) := by
  subst hx
  have h2 := sp_fi_lt (P := fun i => nq (sp_wv S0 m0 (υ 21 i + 1)) (sp_wv S m a)) (j := υ 4 0) (k := 0) (by rw [Nat.zero_add]; exact h)
  exact ⟨h, (nq_iff2 (hc _ h).2.1 ha).mp h2⟩
/-- the class's row k tells the line at the token b -/
noncomputable def LCr (S0 : Nat → Nat) (m0 : Nat) (υ : Nat → Nat → Nat) (S : Nat → Nat) (m N : Nat) (t : en_H) (R k b : Nat) : Prop :=
  (sp_wd S m N b 1 ∧ ai_hv t (R + 2) k = some (.inl 0) ∧ ai_hv t (R + 3) k = some (.inl 4294967295) ∧ ai_hv t (R + 4) k = some (.inl (sp_nv S m (b + 1)))) ∨
  (sp_wd S m N b 23 ∧ ai_hv t (R + 2) k = some (.inl 1) ∧ (∃ c9, crw S0 m0 υ S m (b + 1) c9 ∧ ai_hv t (R + 3) k = some (.inl c9)) ∧ ai_hv t (R + 4) k = some (.inl (sp_nv S m (b + 2) + 8 * sp_nv S m (b + 3)))) ∨
  (sp_wd S m N b 24 ∧ ai_hv t (R + 2) k = some (.inl 2) ∧ (∃ c9, crw S0 m0 υ S m (b + 1) c9 ∧ ai_hv t (R + 3) k = some (.inl c9)) ∧ ai_hv t (R + 4) k = some (.inl (sp_nv S m (b + 2)))) ∨
  (sp_wd S m N b 25 ∧ ai_hv t (R + 2) k = some (.inl 3) ∧ ai_hv t (R + 4) k = some (.inl 0) ∧ ∃ c9, crw S0 m0 υ S m (b + 1) c9 ∧ ai_hv t (R + 3) k = some (.inl c9))
theorem LCr_mv {S0 : Nat → Nat} {m0 : Nat} {υ : Nat → Nat → Nat} {S : Nat → Nat} {m N : Nat} {t t' : en_H} {R k b : Nat} (h : LCr S0 m0 υ S m N t R k b) (e : ∀ c, R + 2 ≤ c → c ≤ R + 4 → ai_hv t' c k = ai_hv t c k) : LCr S0 m0 υ S m N t' R k b := by
  have e2 := e (R + 2) (by first | decide | omega) (by first | decide | omega)
  have e3 := e (R + 3) (by first | decide | omega) (by first | decide | omega)
  have e4 := e (R + 4) (by first | decide | omega) (by first | decide | omega)
  rcases h with ⟨w, h0, h9, h1⟩ | ⟨w, h0, ⟨c, h8, h1⟩, h2⟩ | ⟨w, h0, ⟨c, h8, h1⟩, h2⟩ | ⟨w, h0, h9, c, h8, h1⟩
  · exact Or.inl ⟨w, e2.trans h0, e3.trans h9, e4.trans h1⟩
  · exact Or.inr (Or.inl ⟨w, e2.trans h0, ⟨c, h8, e3.trans h1⟩, e4.trans h2⟩)
  · exact Or.inr (Or.inr (Or.inl ⟨w, e2.trans h0, ⟨c, h8, e3.trans h1⟩, e4.trans h2⟩))
  · exact Or.inr (Or.inr (Or.inr ⟨w, e2.trans h0, e4.trans h9, c, h8, e3.trans h1⟩))
theorem pc_find206_l {fn : en_F} {n c x : Nat} {t0 : en_H} {w : Nat → Nat} (g0 : ai_HG ah_G t0) (k5 : ai_hv t0 206 5 = some (.inl c)) (hc : c ≤ 2) (hn : ∀ i, i < c → ai_hv t0 207 i = some (.inr (.inl (w i)))) : ∀ j k, k + j = c → en_ex none fn (en_code 274) (fun _ => false) (2, [(3, .inl k), (0, gx_r 206), (1, .inr (.inl x))], [], t0, n, 0) (fun o => ∃ r, o = .inl r ∧ ∃ b, r = (some (.inl b), t0, n, 0) ∧ ((sp_fi (fun i => nq (w i) x) j k < c ∧ b = sp_fi (fun i => nq (w i) x) j k) ∨ (sp_fi (fun i => nq (w i) x) j k = c ∧ b = 4294967295))) := by
  intro j
  induction j with
  | zero =>
    intro k hk
    refine ex_go (S := (3, [(3, .inl k), (0, gx_r 206), (1, .inr (.inl x))], [.inl k], t0, n, 0)) rfl (fun _ => rfl) rfl ?_
    refine ex_go (S := (4, [(3, .inl k), (0, gx_r 206), (1, .inr (.inl x))], [gx_r 206, .inl k], t0, n, 0)) rfl (fun _ => rfl) rfl ?_
    refine gxo_get (a := 206) rfl g0 rfl rfl k5 rfl ?_
    refine gx_2t (c := .ge) rfl (by first | decide | omega) (by first | decide | omega) (show c ≤ k from by omega) rfl ?_
    refine ex_go (S := (30, [(3, .inl k), (0, gx_r 206), (1, .inr (.inl x))], [.inl 4294967295], t0, n, 0)) rfl (fun _ => rfl) rfl ?_
    refine ex_ret (r := (some (.inl 4294967295), t0, n, 0)) rfl (fun _ => rfl) ?_
    exact ⟨_, rfl, _, rfl, Or.inr ⟨by show k = _; omega, rfl⟩⟩
  | succ j ih =>
    intro k hk
    have kn := hn k (by first | decide | omega)
    refine ex_go (S := (3, [(3, .inl k), (0, gx_r 206), (1, .inr (.inl x))], [.inl k], t0, n, 0)) rfl (fun _ => rfl) rfl ?_
    refine ex_go (S := (4, [(3, .inl k), (0, gx_r 206), (1, .inr (.inl x))], [gx_r 206, .inl k], t0, n, 0)) rfl (fun _ => rfl) rfl ?_
    refine gxo_get (a := 206) rfl g0 rfl rfl k5 rfl ?_
    refine gx_2f (c := .ge) rfl (by first | decide | omega) (by first | decide | omega) (show ¬ (c ≤ k) from by omega) rfl ?_
    refine ex_go (S := (11, [(3, .inl k), (0, gx_r 206), (1, .inr (.inl x))], [gx_r 206], t0, n, 0)) rfl (fun _ => rfl) rfl ?_
    refine gxo_ref (a := 206) (c := 207) rfl g0 rfl rfl rfl rfl rfl ?_
    refine ex_go (S := (15, [(3, .inl k), (0, gx_r 206), (1, .inr (.inl x))], [.inl k, gx_r 207], t0, n, 0)) rfl (fun _ => rfl) rfl ?_
    refine gx_ag (v := .inr (.inl (w k))) (cb := fun c => Nat.beq c 3) rfl (fun _ => rfl) g0 rfl rfl kn (by first | decide | omega) rfl ?_
    refine ex_go (S := (17, [(3, .inl k), (0, gx_r 206), (1, .inr (.inl x))], [.inr (.inl x), .inr (.inl (w k))], t0, n, 0)) rfl (fun _ => rfl) rfl ?_
    refine gx_lcmp rfl rfl (fun hl1 => ?_) (fun hl1 => ?_) (fun hl1 => ?_)
    · refine ex_go (S := (21, [(3, .inl k), (0, gx_r 206), (1, .inr (.inl x))], [], t0, n, 0)) rfl (fun _ => rfl) rfl ?_
      refine ex_go (S := (22, [(3, .inl k), (0, gx_r 206), (1, .inr (.inl x))], [.inl k], t0, n, 0)) rfl (fun _ => rfl) rfl ?_
      refine ex_ret (r := (some (.inl k), t0, n, 0)) rfl (fun _ => rfl) ?_
      have z9 : sp_fi (fun i => nq (w i) x) (j + 1) k = k := cif_t (show (lN (w k)).toInt = (lN x).toInt by omega)
      rw [z9]
      exact ⟨_, rfl, _, rfl, Or.inl ⟨by omega, rfl⟩⟩
    · refine ex_go (S := (23, [(3, .inl k), (0, gx_r 206), (1, .inr (.inl x))], [], t0, n, 0)) rfl (fun _ => rfl) rfl ?_
      refine gx_iinc (i := 3) (k := 1) rfl (fun _ => rfl) (by first | decide | omega) rfl ?_
      show en_ex _ _ _ _ (26, [(3, .inl (k + 1)), (0, gx_r 206), (1, .inr (.inl x))], [], t0, n, 0) _
      refine ex_go (S := (2, [(3, .inl (k + 1)), (0, gx_r 206), (1, .inr (.inl x))], [], t0, n, 0)) rfl (fun _ => rfl) rfl ?_
      have z9 : sp_fi (fun i => nq (w i) x) (j + 1) k = sp_fi (fun i => nq (w i) x) j (k + 1) := cif_f (fun z => by have z : (lN (w k)).toInt = (lN x).toInt := z; omega)
      rw [z9]
      exact ih (k + 1) (by first | decide | omega)
    · refine ex_go (S := (23, [(3, .inl k), (0, gx_r 206), (1, .inr (.inl x))], [], t0, n, 0)) rfl (fun _ => rfl) rfl ?_
      refine gx_iinc (i := 3) (k := 1) rfl (fun _ => rfl) (by first | decide | omega) rfl ?_
      show en_ex _ _ _ _ (26, [(3, .inl (k + 1)), (0, gx_r 206), (1, .inr (.inl x))], [], t0, n, 0) _
      refine ex_go (S := (2, [(3, .inl (k + 1)), (0, gx_r 206), (1, .inr (.inl x))], [], t0, n, 0)) rfl (fun _ => rfl) rfl ?_
      have z9 : sp_fi (fun i => nq (w i) x) (j + 1) k = sp_fi (fun i => nq (w i) x) j (k + 1) := cif_f (fun z => by have z : (lN (w k)).toInt = (lN x).toInt := z; omega)
      rw [z9]
      exact ih (k + 1) (by first | decide | omega)
theorem pc_find206 (d n : Nat) {c x : Nat} {t0 : en_H} {w : Nat → Nat} (g0 : ai_HG ah_G t0) (k5 : ai_hv t0 206 5 = some (.inl c)) (hc : c ≤ 2) (hn : ∀ i, i < c → ai_hv t0 207 i = some (.inr (.inl (w i)))) : ∃ r, en_u (d + 1) 274 [gx_r 206, .inr (.inl x)] t0 n = some r ∧ ∃ b, r = (some (.inl b), t0, n, 0) ∧ ((sp_fi (fun i => nq (w i) x) c 0 < c ∧ b = sp_fi (fun i => nq (w i) x) c 0) ∨ (sp_fi (fun i => nq (w i) x) c 0 = c ∧ b = 4294967295)) := by
  refine en_u_ex rfl ?_
  show en_ex _ _ _ _ (0, [(0, gx_r 206), (1, .inr (.inl x))], [], t0, n, 0) _
  refine ex_go (S := (1, [(0, gx_r 206), (1, .inr (.inl x))], [.inl 0], t0, n, 0)) rfl (fun _ => rfl) rfl ?_
  refine ex_go (S := (2, [(3, .inl 0), (0, gx_r 206), (1, .inr (.inl x))], [], t0, n, 0)) rfl (fun _ => rfl) rfl ?_
  exact pc_find206_l g0 k5 hc hn c 0 (by first | decide | omega)
theorem pc_find272_l {fn : en_F} {n c x : Nat} {t0 : en_H} {w : Nat → Nat} (g0 : ai_HG ah_G t0) (k5 : ai_hv t0 272 5 = some (.inl c)) (hc : c ≤ 2) (hn : ∀ i, i < c → ai_hv t0 273 i = some (.inr (.inl (w i)))) : ∀ j k, k + j = c → en_ex none fn (en_code 274) (fun _ => false) (2, [(3, .inl k), (0, gx_r 272), (1, .inr (.inl x))], [], t0, n, 0) (fun o => ∃ r, o = .inl r ∧ ∃ b, r = (some (.inl b), t0, n, 0) ∧ ((sp_fi (fun i => nq (w i) x) j k < c ∧ b = sp_fi (fun i => nq (w i) x) j k) ∨ (sp_fi (fun i => nq (w i) x) j k = c ∧ b = 4294967295))) := by
  intro j
  induction j with
  | zero =>
    intro k hk
    refine ex_go (S := (3, [(3, .inl k), (0, gx_r 272), (1, .inr (.inl x))], [.inl k], t0, n, 0)) rfl (fun _ => rfl) rfl ?_
    refine ex_go (S := (4, [(3, .inl k), (0, gx_r 272), (1, .inr (.inl x))], [gx_r 272, .inl k], t0, n, 0)) rfl (fun _ => rfl) rfl ?_
    refine gxo_get (a := 272) rfl g0 rfl rfl k5 rfl ?_
    refine gx_2t (c := .ge) rfl (by first | decide | omega) (by first | decide | omega) (show c ≤ k from by omega) rfl ?_
    refine ex_go (S := (30, [(3, .inl k), (0, gx_r 272), (1, .inr (.inl x))], [.inl 4294967295], t0, n, 0)) rfl (fun _ => rfl) rfl ?_
    refine ex_ret (r := (some (.inl 4294967295), t0, n, 0)) rfl (fun _ => rfl) ?_
    exact ⟨_, rfl, _, rfl, Or.inr ⟨by show k = _; omega, rfl⟩⟩
  | succ j ih =>
    intro k hk
    have kn := hn k (by first | decide | omega)
    refine ex_go (S := (3, [(3, .inl k), (0, gx_r 272), (1, .inr (.inl x))], [.inl k], t0, n, 0)) rfl (fun _ => rfl) rfl ?_
    refine ex_go (S := (4, [(3, .inl k), (0, gx_r 272), (1, .inr (.inl x))], [gx_r 272, .inl k], t0, n, 0)) rfl (fun _ => rfl) rfl ?_
    refine gxo_get (a := 272) rfl g0 rfl rfl k5 rfl ?_
    refine gx_2f (c := .ge) rfl (by first | decide | omega) (by first | decide | omega) (show ¬ (c ≤ k) from by omega) rfl ?_
    refine ex_go (S := (11, [(3, .inl k), (0, gx_r 272), (1, .inr (.inl x))], [gx_r 272], t0, n, 0)) rfl (fun _ => rfl) rfl ?_
    refine gxo_ref (a := 272) (c := 273) rfl g0 rfl rfl rfl rfl rfl ?_
    refine ex_go (S := (15, [(3, .inl k), (0, gx_r 272), (1, .inr (.inl x))], [.inl k, gx_r 273], t0, n, 0)) rfl (fun _ => rfl) rfl ?_
    refine gx_ag (v := .inr (.inl (w k))) (cb := fun c => Nat.beq c 3) rfl (fun _ => rfl) g0 rfl rfl kn (by first | decide | omega) rfl ?_
    refine ex_go (S := (17, [(3, .inl k), (0, gx_r 272), (1, .inr (.inl x))], [.inr (.inl x), .inr (.inl (w k))], t0, n, 0)) rfl (fun _ => rfl) rfl ?_
    refine gx_lcmp rfl rfl (fun hl1 => ?_) (fun hl1 => ?_) (fun hl1 => ?_)
    · refine ex_go (S := (21, [(3, .inl k), (0, gx_r 272), (1, .inr (.inl x))], [], t0, n, 0)) rfl (fun _ => rfl) rfl ?_
      refine ex_go (S := (22, [(3, .inl k), (0, gx_r 272), (1, .inr (.inl x))], [.inl k], t0, n, 0)) rfl (fun _ => rfl) rfl ?_
      refine ex_ret (r := (some (.inl k), t0, n, 0)) rfl (fun _ => rfl) ?_
      have z9 : sp_fi (fun i => nq (w i) x) (j + 1) k = k := cif_t (show (lN (w k)).toInt = (lN x).toInt by omega)
      rw [z9]
      exact ⟨_, rfl, _, rfl, Or.inl ⟨by omega, rfl⟩⟩
    · refine ex_go (S := (23, [(3, .inl k), (0, gx_r 272), (1, .inr (.inl x))], [], t0, n, 0)) rfl (fun _ => rfl) rfl ?_
      refine gx_iinc (i := 3) (k := 1) rfl (fun _ => rfl) (by first | decide | omega) rfl ?_
      show en_ex _ _ _ _ (26, [(3, .inl (k + 1)), (0, gx_r 272), (1, .inr (.inl x))], [], t0, n, 0) _
      refine ex_go (S := (2, [(3, .inl (k + 1)), (0, gx_r 272), (1, .inr (.inl x))], [], t0, n, 0)) rfl (fun _ => rfl) rfl ?_
      have z9 : sp_fi (fun i => nq (w i) x) (j + 1) k = sp_fi (fun i => nq (w i) x) j (k + 1) := cif_f (fun z => by have z : (lN (w k)).toInt = (lN x).toInt := z; omega)
      rw [z9]
      exact ih (k + 1) (by first | decide | omega)
    · refine ex_go (S := (23, [(3, .inl k), (0, gx_r 272), (1, .inr (.inl x))], [], t0, n, 0)) rfl (fun _ => rfl) rfl ?_
      refine gx_iinc (i := 3) (k := 1) rfl (fun _ => rfl) (by first | decide | omega) rfl ?_
      show en_ex _ _ _ _ (26, [(3, .inl (k + 1)), (0, gx_r 272), (1, .inr (.inl x))], [], t0, n, 0) _
      refine ex_go (S := (2, [(3, .inl (k + 1)), (0, gx_r 272), (1, .inr (.inl x))], [], t0, n, 0)) rfl (fun _ => rfl) rfl ?_
      have z9 : sp_fi (fun i => nq (w i) x) (j + 1) k = sp_fi (fun i => nq (w i) x) j (k + 1) := cif_f (fun z => by have z : (lN (w k)).toInt = (lN x).toInt := z; omega)
      rw [z9]
      exact ih (k + 1) (by first | decide | omega)
theorem pc_find272 (d n : Nat) {c x : Nat} {t0 : en_H} {w : Nat → Nat} (g0 : ai_HG ah_G t0) (k5 : ai_hv t0 272 5 = some (.inl c)) (hc : c ≤ 2) (hn : ∀ i, i < c → ai_hv t0 273 i = some (.inr (.inl (w i)))) : ∃ r, en_u (d + 1) 274 [gx_r 272, .inr (.inl x)] t0 n = some r ∧ ∃ b, r = (some (.inl b), t0, n, 0) ∧ ((sp_fi (fun i => nq (w i) x) c 0 < c ∧ b = sp_fi (fun i => nq (w i) x) c 0) ∨ (sp_fi (fun i => nq (w i) x) c 0 = c ∧ b = 4294967295)) := by
  refine en_u_ex rfl ?_
  show en_ex _ _ _ _ (0, [(0, gx_r 272), (1, .inr (.inl x))], [], t0, n, 0) _
  refine ex_go (S := (1, [(0, gx_r 272), (1, .inr (.inl x))], [.inl 0], t0, n, 0)) rfl (fun _ => rfl) rfl ?_
  refine ex_go (S := (2, [(3, .inl 0), (0, gx_r 272), (1, .inr (.inl x))], [], t0, n, 0)) rfl (fun _ => rfl) rfl ?_
  exact pc_find272_l g0 k5 hc hn c 0 (by first | decide | omega)
theorem pc_crewHere191 (d n : Nat) {t0 : en_H} {a f : Nat} {S S0 : Nat → Nat} {m N m0 N0 : Nat} {υ : Nat → Nat → Nat} (s0 : cS t0 a f) (hT : cT t0 S m N) (ha : a ≤ N) (hP : ai_hv t0 7 1 = some (gx_r 191)) (kq5 : ai_hv t0 206 5 = some (.inl (υ 4 0))) (hn : ∀ i, i < υ 4 0 → ai_hv t0 207 i = some (.inr (.inl (sp_wv S0 m0 (υ 21 i + 1))))) (h3 : W3 S0 m0 N0 υ) (hc : WC S0 m0 N0 υ) : ∃ r, en_u (d + 3) 251 [gx_r 7] t0 n = some r ∧ ∃ v t' a' f', r = (some (.inl v), t', n, 0) ∧ cS t' a' f' ∧ cF t0 t' ∧ (a', f') = fk S m N (tcr S0 m0 υ S m) (a, f) ∧ (a' ≤ N ∧ a ≤ a' ∧ v < 4294967296 ∧ (f ≠ 0 → f' = f ∧ a' = a) ∧ (f' = 0 → f = 0 ∧ a' = a + 1 ∧ v < 2)) ∧ (f' = 0 → crw S0 m0 υ S m a v) := by
  have b0 := s0.2.2.2
  have hN := hT.2.2.2.2.2.2.1
  have h4 : υ 4 0 ≤ 2 := h3.1.1.2.2.1
  refine en_u_ex (d := d + 2) rfl ?_
  show en_ex _ _ _ _ (0, [(0, gx_r 7)], [], t0, n, 0) _
  refine ex_go (S := (1, [(0, gx_r 7)], [gx_r 7], t0, n, 0)) rfl (fun _ => rfl) rfl ?_
  refine gxo_get (a := 7) rfl s0.1 rfl rfl hP rfl ?_
  refine gxo_ref (a := 191) (c := 206) rfl s0.1 rfl rfl rfl rfl rfl ?_
  refine ex_go (S := (8, [(0, gx_r 7)], [gx_r 7, gx_r 206], t0, n, 0)) rfl (fun _ => rfl) rfl ?_
  refine gxo_ref (a := 7) (c := 1) rfl s0.1 rfl rfl rfl rfl rfl ?_
  obtain ⟨_, r101, v101, t101, a101, f101, rfl, s101, e101, q101⟩ := pc_seeName (d) n (s0) hT (by first | decide | omega) 
  have b101 := s101.2.2.2
  refine gx_callo (a := 1) rfl rfl s0.1 rfl rfl rfl r101 rfl ?_
  have k2 : ai_hv t101 7 1 = some (gx_r 191) := (e101 7 1 (by first | decide | omega)).trans hP
  have k3 : ai_hv t101 206 5 = some (.inl (υ 4 0)) := (e101 206 5 (by first | decide | omega)).trans kq5
  show en_ex _ _ _ _ (14, [(0, gx_r 7)], [.inr (.inl v101), gx_r 206], t101, n, 0) _
  obtain ⟨_, r4, b5, rfl, q6⟩ := pc_find206 (d + 1) n (w := fun i => sp_wv S0 m0 (υ 21 i + 1)) (x := v101) s101.1 k3 (by first | decide | omega) (fun i hi => (e101 207 i (by first | decide | omega)).trans (hn i hi))
  rcases q6 with ⟨hfa, hfb⟩ | ⟨hfa, hfb⟩
  · refine gx_callo (a := 206) rfl rfl s101.1 rfl rfl rfl r4 rfl ?_
    show en_ex _ _ _ _ (17, [(0, gx_r 7)], [.inl b5], t101, n, 0) _
    refine ex_go (S := (18, [(1, .inl b5), (0, gx_r 7)], [], t101, n, 0)) rfl (fun _ => rfl) rfl ?_
    refine ex_go (S := (19, [(1, .inl b5), (0, gx_r 7)], [.inl b5], t101, n, 0)) rfl (fun _ => rfl) rfl ?_
    refine ex_go (S := (20, [(1, .inl b5), (0, gx_r 7)], [.inl 4294967295, .inl b5], t101, n, 0)) rfl (fun _ => rfl) rfl ?_
    refine gx_2mt (c := .ne) rfl (by first | decide | omega) rfl rfl ?_
    refine ex_go (S := (32, [(1, .inl b5), (0, gx_r 7)], [gx_r 7], t101, n, 0)) rfl (fun _ => rfl) rfl ?_
    refine gxo_ref (a := 7) (c := 1) rfl s101.1 rfl rfl rfl rfl rfl ?_
    have hT8 := cT_keep (t' := t101) hT (fun c i h => e101 c i (by first | decide | omega))
    obtain ⟨_, r107, t107, a107, f107, rfl, s107, e107, q107⟩ := pc_goOn (d + 1) n (s101) hT8 (by first | decide | omega) 
    have b107 := s107.2.2.2
    refine gx_callo (a := 1) rfl rfl s101.1 rfl rfl rfl r107 rfl ?_
    have k9 : ai_hv t107 7 1 = some (gx_r 191) := (e107 7 1 (by first | decide | omega)).trans k2
    have k10 : ai_hv t107 206 5 = some (.inl (υ 4 0)) := (e107 206 5 (by first | decide | omega)).trans k3
    show en_ex _ _ _ _ (38, [(1, .inl b5), (0, gx_r 7)], [], t107, n, 0) _
    refine ex_go (S := (39, [(1, .inl b5), (0, gx_r 7)], [.inl b5], t107, n, 0)) rfl (fun _ => rfl) rfl ?_
    refine ex_ret (r := (some (.inl b5), t107, n, 0)) rfl (fun _ => rfl) ?_
    by_cases h0 : f = 0
    · rcases q101.2.2 h0 with ⟨hnm, w1, w2, w3⟩ | ⟨hnm, w1⟩
      · have hti := tc_fi (υ := υ) hc hnm.1
        rw [← w2] at hti
        refine ⟨_, rfl, b5, t107, a107, f107, rfl, s107, (fun c i h => (e107 c i (by first | decide | omega)).trans (e101 c i (by first | decide | omega))), ?_, by omega, fun _ => by rw [hfb]; exact crw_fi hc hnm.1 w2 hfa⟩
        rw [h0, fk_yes hnm (hti.mpr hfa)]; exact Prod.ext (by show a107 = a + 1; omega) (by show f107 = 0; omega)
      · refine ⟨_, rfl, b5, t107, a107, f107, rfl, s107, (fun c i h => (e107 c i (by first | decide | omega)).trans (e101 c i (by first | decide | omega))), ?_, by omega, fun h9 => by omega⟩
        rw [h0, fk_1 hnm]; exact Prod.ext (by show a107 = a; omega) (by show f107 = 1 + 16 * sp_st S m a; omega)
    · refine ⟨_, rfl, b5, t107, a107, f107, rfl, s107, (fun c i h => (e107 c i (by first | decide | omega)).trans (e101 c i (by first | decide | omega))), ?_, by omega, fun h9 => by omega⟩
      rw [fk_no h0]; exact Prod.ext (by show a107 = a; omega) (by show f107 = f; omega)
  · subst hfb
    refine gx_callo (a := 206) rfl rfl s101.1 rfl rfl rfl r4 rfl ?_
    show en_ex _ _ _ _ (17, [(0, gx_r 7)], [.inl 4294967295], t101, n, 0) _
    refine ex_go (S := (18, [(1, .inl 4294967295), (0, gx_r 7)], [], t101, n, 0)) rfl (fun _ => rfl) rfl ?_
    refine ex_go (S := (19, [(1, .inl 4294967295), (0, gx_r 7)], [.inl 4294967295], t101, n, 0)) rfl (fun _ => rfl) rfl ?_
    refine ex_go (S := (20, [(1, .inl 4294967295), (0, gx_r 7)], [.inl 4294967295, .inl 4294967295], t101, n, 0)) rfl (fun _ => rfl) rfl ?_
    refine ex_go (S := (23, [(1, .inl 4294967295), (0, gx_r 7)], [], t101, n, 0)) rfl (fun _ => rfl) rfl ?_
    refine ex_go (S := (24, [(1, .inl 4294967295), (0, gx_r 7)], [gx_r 7], t101, n, 0)) rfl (fun _ => rfl) rfl ?_
    refine gxo_ref (a := 7) (c := 1) rfl s101.1 rfl rfl rfl rfl rfl ?_
    refine ex_go (S := (28, [(1, .inl 4294967295), (0, gx_r 7)], [.inl 2, gx_r 1], t101, n, 0)) rfl (fun _ => rfl) rfl ?_
    have hT12 := cT_keep (t' := t101) hT (fun c i h => e101 c i (by first | decide | omega))
    obtain ⟨_, r111, t111, a111, f111, rfl, s111, e111, q111⟩ := pc_wrong (d + 1) n (s101) hT12 (by first | decide | omega) (w := 2) (by first | decide | omega)
    have b111 := s111.2.2.2
    refine gx_callo (a := 1) rfl rfl s101.1 rfl rfl rfl r111 rfl ?_
    have k13 : ai_hv t111 7 1 = some (gx_r 191) := (e111 7 1 (by first | decide | omega)).trans k2
    have k14 : ai_hv t111 206 5 = some (.inl (υ 4 0)) := (e111 206 5 (by first | decide | omega)).trans k3
    show en_ex _ _ _ _ (31, [(1, .inl 4294967295), (0, gx_r 7)], [], t111, n, 0) _
    refine ex_go (S := (32, [(1, .inl 4294967295), (0, gx_r 7)], [gx_r 7], t111, n, 0)) rfl (fun _ => rfl) rfl ?_
    refine gxo_ref (a := 7) (c := 1) rfl s111.1 rfl rfl rfl rfl rfl ?_
    have hT16 := cT_keep (t' := t111) hT (fun c i h => (e111 c i (by first | decide | omega)).trans (e101 c i (by first | decide | omega)))
    obtain ⟨_, r115, t115, a115, f115, rfl, s115, e115, q115⟩ := pc_goOn (d + 1) n (s111) hT16 (by first | decide | omega) 
    have b115 := s115.2.2.2
    refine gx_callo (a := 1) rfl rfl s111.1 rfl rfl rfl r115 rfl ?_
    have k17 : ai_hv t115 7 1 = some (gx_r 191) := (e115 7 1 (by first | decide | omega)).trans k13
    have k18 : ai_hv t115 206 5 = some (.inl (υ 4 0)) := (e115 206 5 (by first | decide | omega)).trans k14
    show en_ex _ _ _ _ (38, [(1, .inl 4294967295), (0, gx_r 7)], [], t115, n, 0) _
    refine ex_go (S := (39, [(1, .inl 4294967295), (0, gx_r 7)], [.inl 4294967295], t115, n, 0)) rfl (fun _ => rfl) rfl ?_
    refine ex_ret (r := (some (.inl 4294967295), t115, n, 0)) rfl (fun _ => rfl) ?_
    by_cases h0 : f = 0
    · rcases q101.2.2 h0 with ⟨hnm, w1, w2, w3⟩ | ⟨hnm, w1⟩
      · have hti := tc_fi (υ := υ) hc hnm.1
        rw [← w2] at hti
        refine ⟨_, rfl, 4294967295, t115, a115, f115, rfl, s115, (fun c i h => (e115 c i (by first | decide | omega)).trans ((e111 c i (by first | decide | omega)).trans (e101 c i (by first | decide | omega)))), ?_, by omega, fun h9 => by omega⟩
        rw [h0, fk_2 hnm (fun z => by have := hti.mp z; omega)]; exact Prod.ext (by show a115 = a; omega) (by have := q101.1; show f115 = 2 + 16 * sp_st S m a; rw [show a = a101 by omega]; omega)
      · refine ⟨_, rfl, 4294967295, t115, a115, f115, rfl, s115, (fun c i h => (e115 c i (by first | decide | omega)).trans ((e111 c i (by first | decide | omega)).trans (e101 c i (by first | decide | omega)))), ?_, by omega, fun h9 => by omega⟩
        rw [h0, fk_1 hnm]; exact Prod.ext (by show a115 = a; omega) (by show f115 = 1 + 16 * sp_st S m a; omega)
    · refine ⟨_, rfl, 4294967295, t115, a115, f115, rfl, s115, (fun c i h => (e115 c i (by first | decide | omega)).trans ((e111 c i (by first | decide | omega)).trans (e101 c i (by first | decide | omega)))), ?_, by omega, fun h9 => by omega⟩
      rw [fk_no h0]; exact Prod.ext (by show a115 = a; omega) (by show f115 = f; omega)
theorem pc_crewHere257 (d n : Nat) {t0 : en_H} {a f : Nat} {S S0 : Nat → Nat} {m N m0 N0 : Nat} {υ : Nat → Nat → Nat} (s0 : cS t0 a f) (hT : cT t0 S m N) (ha : a ≤ N) (hP : ai_hv t0 7 1 = some (gx_r 257)) (kq5 : ai_hv t0 272 5 = some (.inl (υ 4 0))) (hn : ∀ i, i < υ 4 0 → ai_hv t0 273 i = some (.inr (.inl (sp_wv S0 m0 (υ 21 i + 1))))) (h3 : W3 S0 m0 N0 υ) (hc : WC S0 m0 N0 υ) : ∃ r, en_u (d + 3) 251 [gx_r 7] t0 n = some r ∧ ∃ v t' a' f', r = (some (.inl v), t', n, 0) ∧ cS t' a' f' ∧ cF t0 t' ∧ (a', f') = fk S m N (tcr S0 m0 υ S m) (a, f) ∧ (a' ≤ N ∧ a ≤ a' ∧ v < 4294967296 ∧ (f ≠ 0 → f' = f ∧ a' = a) ∧ (f' = 0 → f = 0 ∧ a' = a + 1 ∧ v < 2)) ∧ (f' = 0 → crw S0 m0 υ S m a v) := by
  have b0 := s0.2.2.2
  have hN := hT.2.2.2.2.2.2.1
  have h4 : υ 4 0 ≤ 2 := h3.1.1.2.2.1
  refine en_u_ex (d := d + 2) rfl ?_
  show en_ex _ _ _ _ (0, [(0, gx_r 7)], [], t0, n, 0) _
  refine ex_go (S := (1, [(0, gx_r 7)], [gx_r 7], t0, n, 0)) rfl (fun _ => rfl) rfl ?_
  refine gxo_get (a := 7) rfl s0.1 rfl rfl hP rfl ?_
  refine gxo_ref (a := 257) (c := 272) rfl s0.1 rfl rfl rfl rfl rfl ?_
  refine ex_go (S := (8, [(0, gx_r 7)], [gx_r 7, gx_r 272], t0, n, 0)) rfl (fun _ => rfl) rfl ?_
  refine gxo_ref (a := 7) (c := 1) rfl s0.1 rfl rfl rfl rfl rfl ?_
  obtain ⟨_, r101, v101, t101, a101, f101, rfl, s101, e101, q101⟩ := pc_seeName (d) n (s0) hT (by first | decide | omega) 
  have b101 := s101.2.2.2
  refine gx_callo (a := 1) rfl rfl s0.1 rfl rfl rfl r101 rfl ?_
  have k2 : ai_hv t101 7 1 = some (gx_r 257) := (e101 7 1 (by first | decide | omega)).trans hP
  have k3 : ai_hv t101 272 5 = some (.inl (υ 4 0)) := (e101 272 5 (by first | decide | omega)).trans kq5
  show en_ex _ _ _ _ (14, [(0, gx_r 7)], [.inr (.inl v101), gx_r 272], t101, n, 0) _
  obtain ⟨_, r4, b5, rfl, q6⟩ := pc_find272 (d + 1) n (w := fun i => sp_wv S0 m0 (υ 21 i + 1)) (x := v101) s101.1 k3 (by first | decide | omega) (fun i hi => (e101 273 i (by first | decide | omega)).trans (hn i hi))
  rcases q6 with ⟨hfa, hfb⟩ | ⟨hfa, hfb⟩
  · refine gx_callo (a := 272) rfl rfl s101.1 rfl rfl rfl r4 rfl ?_
    show en_ex _ _ _ _ (17, [(0, gx_r 7)], [.inl b5], t101, n, 0) _
    refine ex_go (S := (18, [(1, .inl b5), (0, gx_r 7)], [], t101, n, 0)) rfl (fun _ => rfl) rfl ?_
    refine ex_go (S := (19, [(1, .inl b5), (0, gx_r 7)], [.inl b5], t101, n, 0)) rfl (fun _ => rfl) rfl ?_
    refine ex_go (S := (20, [(1, .inl b5), (0, gx_r 7)], [.inl 4294967295, .inl b5], t101, n, 0)) rfl (fun _ => rfl) rfl ?_
    refine gx_2mt (c := .ne) rfl (by first | decide | omega) rfl rfl ?_
    refine ex_go (S := (32, [(1, .inl b5), (0, gx_r 7)], [gx_r 7], t101, n, 0)) rfl (fun _ => rfl) rfl ?_
    refine gxo_ref (a := 7) (c := 1) rfl s101.1 rfl rfl rfl rfl rfl ?_
    have hT8 := cT_keep (t' := t101) hT (fun c i h => e101 c i (by first | decide | omega))
    obtain ⟨_, r107, t107, a107, f107, rfl, s107, e107, q107⟩ := pc_goOn (d + 1) n (s101) hT8 (by first | decide | omega) 
    have b107 := s107.2.2.2
    refine gx_callo (a := 1) rfl rfl s101.1 rfl rfl rfl r107 rfl ?_
    have k9 : ai_hv t107 7 1 = some (gx_r 257) := (e107 7 1 (by first | decide | omega)).trans k2
    have k10 : ai_hv t107 272 5 = some (.inl (υ 4 0)) := (e107 272 5 (by first | decide | omega)).trans k3
    show en_ex _ _ _ _ (38, [(1, .inl b5), (0, gx_r 7)], [], t107, n, 0) _
    refine ex_go (S := (39, [(1, .inl b5), (0, gx_r 7)], [.inl b5], t107, n, 0)) rfl (fun _ => rfl) rfl ?_
    refine ex_ret (r := (some (.inl b5), t107, n, 0)) rfl (fun _ => rfl) ?_
    by_cases h0 : f = 0
    · rcases q101.2.2 h0 with ⟨hnm, w1, w2, w3⟩ | ⟨hnm, w1⟩
      · have hti := tc_fi (υ := υ) hc hnm.1
        rw [← w2] at hti
        refine ⟨_, rfl, b5, t107, a107, f107, rfl, s107, (fun c i h => (e107 c i (by first | decide | omega)).trans (e101 c i (by first | decide | omega))), ?_, by omega, fun _ => by rw [hfb]; exact crw_fi hc hnm.1 w2 hfa⟩
        rw [h0, fk_yes hnm (hti.mpr hfa)]; exact Prod.ext (by show a107 = a + 1; omega) (by show f107 = 0; omega)
      · refine ⟨_, rfl, b5, t107, a107, f107, rfl, s107, (fun c i h => (e107 c i (by first | decide | omega)).trans (e101 c i (by first | decide | omega))), ?_, by omega, fun h9 => by omega⟩
        rw [h0, fk_1 hnm]; exact Prod.ext (by show a107 = a; omega) (by show f107 = 1 + 16 * sp_st S m a; omega)
    · refine ⟨_, rfl, b5, t107, a107, f107, rfl, s107, (fun c i h => (e107 c i (by first | decide | omega)).trans (e101 c i (by first | decide | omega))), ?_, by omega, fun h9 => by omega⟩
      rw [fk_no h0]; exact Prod.ext (by show a107 = a; omega) (by show f107 = f; omega)
  · subst hfb
    refine gx_callo (a := 272) rfl rfl s101.1 rfl rfl rfl r4 rfl ?_
    show en_ex _ _ _ _ (17, [(0, gx_r 7)], [.inl 4294967295], t101, n, 0) _
    refine ex_go (S := (18, [(1, .inl 4294967295), (0, gx_r 7)], [], t101, n, 0)) rfl (fun _ => rfl) rfl ?_
    refine ex_go (S := (19, [(1, .inl 4294967295), (0, gx_r 7)], [.inl 4294967295], t101, n, 0)) rfl (fun _ => rfl) rfl ?_
    refine ex_go (S := (20, [(1, .inl 4294967295), (0, gx_r 7)], [.inl 4294967295, .inl 4294967295], t101, n, 0)) rfl (fun _ => rfl) rfl ?_
    refine ex_go (S := (23, [(1, .inl 4294967295), (0, gx_r 7)], [], t101, n, 0)) rfl (fun _ => rfl) rfl ?_
    refine ex_go (S := (24, [(1, .inl 4294967295), (0, gx_r 7)], [gx_r 7], t101, n, 0)) rfl (fun _ => rfl) rfl ?_
    refine gxo_ref (a := 7) (c := 1) rfl s101.1 rfl rfl rfl rfl rfl ?_
    refine ex_go (S := (28, [(1, .inl 4294967295), (0, gx_r 7)], [.inl 2, gx_r 1], t101, n, 0)) rfl (fun _ => rfl) rfl ?_
    have hT12 := cT_keep (t' := t101) hT (fun c i h => e101 c i (by first | decide | omega))
    obtain ⟨_, r111, t111, a111, f111, rfl, s111, e111, q111⟩ := pc_wrong (d + 1) n (s101) hT12 (by first | decide | omega) (w := 2) (by first | decide | omega)
    have b111 := s111.2.2.2
    refine gx_callo (a := 1) rfl rfl s101.1 rfl rfl rfl r111 rfl ?_
    have k13 : ai_hv t111 7 1 = some (gx_r 257) := (e111 7 1 (by first | decide | omega)).trans k2
    have k14 : ai_hv t111 272 5 = some (.inl (υ 4 0)) := (e111 272 5 (by first | decide | omega)).trans k3
    show en_ex _ _ _ _ (31, [(1, .inl 4294967295), (0, gx_r 7)], [], t111, n, 0) _
    refine ex_go (S := (32, [(1, .inl 4294967295), (0, gx_r 7)], [gx_r 7], t111, n, 0)) rfl (fun _ => rfl) rfl ?_
    refine gxo_ref (a := 7) (c := 1) rfl s111.1 rfl rfl rfl rfl rfl ?_
    have hT16 := cT_keep (t' := t111) hT (fun c i h => (e111 c i (by first | decide | omega)).trans (e101 c i (by first | decide | omega)))
    obtain ⟨_, r115, t115, a115, f115, rfl, s115, e115, q115⟩ := pc_goOn (d + 1) n (s111) hT16 (by first | decide | omega) 
    have b115 := s115.2.2.2
    refine gx_callo (a := 1) rfl rfl s111.1 rfl rfl rfl r115 rfl ?_
    have k17 : ai_hv t115 7 1 = some (gx_r 257) := (e115 7 1 (by first | decide | omega)).trans k13
    have k18 : ai_hv t115 272 5 = some (.inl (υ 4 0)) := (e115 272 5 (by first | decide | omega)).trans k14
    show en_ex _ _ _ _ (38, [(1, .inl 4294967295), (0, gx_r 7)], [], t115, n, 0) _
    refine ex_go (S := (39, [(1, .inl 4294967295), (0, gx_r 7)], [.inl 4294967295], t115, n, 0)) rfl (fun _ => rfl) rfl ?_
    refine ex_ret (r := (some (.inl 4294967295), t115, n, 0)) rfl (fun _ => rfl) ?_
    by_cases h0 : f = 0
    · rcases q101.2.2 h0 with ⟨hnm, w1, w2, w3⟩ | ⟨hnm, w1⟩
      · have hti := tc_fi (υ := υ) hc hnm.1
        rw [← w2] at hti
        refine ⟨_, rfl, 4294967295, t115, a115, f115, rfl, s115, (fun c i h => (e115 c i (by first | decide | omega)).trans ((e111 c i (by first | decide | omega)).trans (e101 c i (by first | decide | omega)))), ?_, by omega, fun h9 => by omega⟩
        rw [h0, fk_2 hnm (fun z => by have := hti.mp z; omega)]; exact Prod.ext (by show a115 = a; omega) (by have := q101.1; show f115 = 2 + 16 * sp_st S m a; rw [show a = a101 by omega]; omega)
      · refine ⟨_, rfl, 4294967295, t115, a115, f115, rfl, s115, (fun c i h => (e115 c i (by first | decide | omega)).trans ((e111 c i (by first | decide | omega)).trans (e101 c i (by first | decide | omega)))), ?_, by omega, fun h9 => by omega⟩
        rw [h0, fk_1 hnm]; exact Prod.ext (by show a115 = a; omega) (by show f115 = 1 + 16 * sp_st S m a; omega)
    · refine ⟨_, rfl, 4294967295, t115, a115, f115, rfl, s115, (fun c i h => (e115 c i (by first | decide | omega)).trans ((e111 c i (by first | decide | omega)).trans (e101 c i (by first | decide | omega)))), ?_, by omega, fun h9 => by omega⟩
      rw [fk_no h0]; exact Prod.ext (by show a115 = a; omega) (by show f115 = f; omega)
theorem pc_isFull323 (d n : Nat) {c : Nat} {t0 : en_H} (g0 : ai_HG ah_G t0) (k5 : ai_hv t0 323 5 = some (.inl c)) (hc : c ≤ 24) : ∃ r, en_u (d + 1) 272 [gx_r 323] t0 n = some r ∧ ∃ b, r = (some (.inl b), t0, n, 0) ∧ b ≤ 1 ∧ (b = 1 ↔ c = 24) := by
  refine en_u_ex rfl ?_
  show en_ex _ _ _ _ (0, [(0, gx_r 323)], [], t0, n, 0) _
  refine ex_go (S := (1, [(0, gx_r 323)], [gx_r 323], t0, n, 0)) rfl (fun _ => rfl) rfl ?_
  refine gxo_get (a := 323) rfl g0 rfl rfl k5 rfl ?_
  refine ex_go (S := (5, [(0, gx_r 323)], [gx_r 323, .inl c], t0, n, 0)) rfl (fun _ => rfl) rfl ?_
  refine gxo_ref (a := 323) (c := 324) rfl g0 rfl rfl rfl rfl rfl ?_
  refine gx_alen (a := 324) (m := 24) rfl g0 rfl rfl rfl ?_
  by_cases hc1 : c < 24
  · refine gx_2t (c := .lt) rfl (by first | decide | omega) (by first | decide | omega) hc1 rfl ?_
    refine ex_go (S := (17, [(0, gx_r 323)], [.inl 0], t0, n, 0)) rfl (fun _ => rfl) rfl ?_
    refine ex_ret (r := (some (.inl 0), t0, n, 0)) rfl (fun _ => rfl) ?_
    exact ⟨_, rfl, 0, rfl, by omega⟩
  · refine gx_2f (c := .lt) rfl (by first | decide | omega) (by first | decide | omega) hc1 rfl ?_
    refine ex_go (S := (13, [(0, gx_r 323)], [.inl 1], t0, n, 0)) rfl (fun _ => rfl) rfl ?_
    refine ex_go (S := (17, [(0, gx_r 323)], [.inl 1], t0, n, 0)) rfl (fun _ => rfl) rfl ?_
    refine ex_ret (r := (some (.inl 1), t0, n, 0)) rfl (fun _ => rfl) ?_
    exact ⟨_, rfl, 1, rfl, by omega⟩
theorem pc_add323 (d n : Nat) {c x y1 y2 y3 y4 : Nat} {t0 : en_H} (g0 : ai_HG ah_G t0) (kq5 : ai_hv t0 323 5 = some (.inl c)) (hc : c < 24) (h1 : y1 ≤ 3) (h2 : ai_rh (.inl (2147483647, 2147483649)) (.inl y2)) (h3 : y3 ≤ 999) (h4 : y4 = 0) : ∃ r, en_u (d + 2) 273 [gx_r 323, .inr (.inl x), .inl y1, .inl y2, .inl y3, .inl y4] t0 n = some r ∧ ∃ t', r = (none, t', n, 0) ∧ ai_HG ah_G t' ∧ (∀ c' i, ¬ ((c' = 323 ∧ i = 5) ∨ ((c' = 324 ∨ c' = 325 ∨ c' = 326 ∨ c' = 327 ∨ c' = 328) ∧ i = c)) → ai_hv t' c' i = ai_hv t0 c' i) ∧ ai_hv t' 323 5 = some (.inl (c + 1)) ∧ ai_hv t' 324 c = some (.inr (.inl x)) ∧ ai_hv t' 325 c = some (.inl y1) ∧ ai_hv t' 326 c = some (.inl y2) ∧ ai_hv t' 327 c = some (.inl y3) ∧ ai_hv t' 328 c = some (.inl y4) := by
  refine en_u_ex (d := d + 1) rfl ?_
  show en_ex _ _ _ _ (0, [(0, gx_r 323), (1, .inr (.inl x)), (3, .inl y1), (4, .inl y2), (5, .inl y3), (6, .inl y4)], [], t0, n, 0) _
  refine ex_go (S := (1, [(0, gx_r 323), (1, .inr (.inl x)), (3, .inl y1), (4, .inl y2), (5, .inl y3), (6, .inl y4)], [gx_r 323], t0, n, 0)) rfl (fun _ => rfl) rfl ?_
  obtain ⟨_, r1, b2, rfl, q3⟩ := pc_isFull323 (d) n g0 kq5 (by first | decide | omega)
  refine gx_callo (a := 323) rfl rfl g0 rfl rfl rfl r1 rfl ?_
  show en_ex _ _ _ _ (4, [(0, gx_r 323), (1, .inr (.inl x)), (3, .inl y1), (4, .inl y2), (5, .inl y3), (6, .inl y4)], [.inl b2], t0, n, 0) _
  refine gx_1f (c := .ne) rfl (by first | decide | omega) (show ¬ (b2 ≠ 0) from by omega) rfl ?_
  refine ex_go (S := (8, [(0, gx_r 323), (1, .inr (.inl x)), (3, .inl y1), (4, .inl y2), (5, .inl y3), (6, .inl y4)], [gx_r 323], t0, n, 0)) rfl (fun _ => rfl) rfl ?_
  refine gxo_ref (a := 323) (c := 324) rfl g0 rfl rfl rfl rfl rfl ?_
  refine ex_go (S := (12, [(0, gx_r 323), (1, .inr (.inl x)), (3, .inl y1), (4, .inl y2), (5, .inl y3), (6, .inl y4)], [gx_r 323, gx_r 324], t0, n, 0)) rfl (fun _ => rfl) rfl ?_
  refine gxo_get (a := 323) rfl g0 rfl rfl kq5 rfl ?_
  refine ex_go (S := (16, [(0, gx_r 323), (1, .inr (.inl x)), (3, .inl y1), (4, .inl y2), (5, .inl y3), (6, .inl y4)], [.inr (.inl x), .inl c, gx_r 324], t0, n, 0)) rfl (fun _ => rfl) rfl ?_
  refine gx_apv (d := 1) rfl (fun _ => rfl) g0 rfl rfl rfl (show c < 24 from by omega) (gx_run1 (show c < 24 from hc)) ⟨_, rfl⟩ rfl (fun t104 g104 k104 e104 => ?_)
  have k5 : ai_hv t104 323 5 = some (.inl c) := (e104 323 5 (by first | decide | omega)).trans kq5
  refine ex_go (S := (18, [(0, gx_r 323), (1, .inr (.inl x)), (3, .inl y1), (4, .inl y2), (5, .inl y3), (6, .inl y4)], [gx_r 323], t104, n, 0)) rfl (fun _ => rfl) rfl ?_
  refine gxo_ref (a := 323) (c := 325) rfl g104 rfl rfl rfl rfl rfl ?_
  refine ex_go (S := (22, [(0, gx_r 323), (1, .inr (.inl x)), (3, .inl y1), (4, .inl y2), (5, .inl y3), (6, .inl y4)], [gx_r 323, gx_r 325], t104, n, 0)) rfl (fun _ => rfl) rfl ?_
  refine gxo_get (a := 323) rfl g104 rfl rfl k5 rfl ?_
  refine ex_go (S := (26, [(0, gx_r 323), (1, .inr (.inl x)), (3, .inl y1), (4, .inl y2), (5, .inl y3), (6, .inl y4)], [.inl y1, .inl c, gx_r 325], t104, n, 0)) rfl (fun _ => rfl) rfl ?_
  refine gx_ap rfl (fun _ => rfl) g104 rfl rfl rfl (show c < 24 from by omega) (gx_run1 (show c < 24 from hc)) (ai_in_h (by first | decide | omega) (by first | decide | omega) (by first | decide | omega)) rfl (fun t106 g106 k106 e106 => ?_)
  have k7 : ai_hv t106 323 5 = some (.inl c) := (e106 323 5 (by first | decide | omega)).trans k5
  have k8 : ai_hv t106 324 c = some (.inr (.inl x)) := (e106 324 c (by first | decide | omega)).trans k104
  refine ex_go (S := (28, [(0, gx_r 323), (1, .inr (.inl x)), (3, .inl y1), (4, .inl y2), (5, .inl y3), (6, .inl y4)], [gx_r 323], t106, n, 0)) rfl (fun _ => rfl) rfl ?_
  refine gxo_ref (a := 323) (c := 326) rfl g106 rfl rfl rfl rfl rfl ?_
  refine ex_go (S := (32, [(0, gx_r 323), (1, .inr (.inl x)), (3, .inl y1), (4, .inl y2), (5, .inl y3), (6, .inl y4)], [gx_r 323, gx_r 326], t106, n, 0)) rfl (fun _ => rfl) rfl ?_
  refine gxo_get (a := 323) rfl g106 rfl rfl k7 rfl ?_
  refine ex_go (S := (37, [(0, gx_r 323), (1, .inr (.inl x)), (3, .inl y1), (4, .inl y2), (5, .inl y3), (6, .inl y4)], [.inl y2, .inl c, gx_r 326], t106, n, 0)) rfl (fun _ => rfl) rfl ?_
  refine gx_ap rfl (fun _ => rfl) g106 rfl rfl rfl (show c < 24 from by omega) (gx_run1 (show c < 24 from hc)) h2 rfl (fun t109 g109 k109 e109 => ?_)
  have k10 : ai_hv t109 323 5 = some (.inl c) := (e109 323 5 (by first | decide | omega)).trans k7
  have k11 : ai_hv t109 324 c = some (.inr (.inl x)) := (e109 324 c (by first | decide | omega)).trans k8
  have k12 : ai_hv t109 325 c = some (.inl y1) := (e109 325 c (by first | decide | omega)).trans k106
  refine ex_go (S := (39, [(0, gx_r 323), (1, .inr (.inl x)), (3, .inl y1), (4, .inl y2), (5, .inl y3), (6, .inl y4)], [gx_r 323], t109, n, 0)) rfl (fun _ => rfl) rfl ?_
  refine gxo_ref (a := 323) (c := 327) rfl g109 rfl rfl rfl rfl rfl ?_
  refine ex_go (S := (43, [(0, gx_r 323), (1, .inr (.inl x)), (3, .inl y1), (4, .inl y2), (5, .inl y3), (6, .inl y4)], [gx_r 323, gx_r 327], t109, n, 0)) rfl (fun _ => rfl) rfl ?_
  refine gxo_get (a := 323) rfl g109 rfl rfl k10 rfl ?_
  refine ex_go (S := (48, [(0, gx_r 323), (1, .inr (.inl x)), (3, .inl y1), (4, .inl y2), (5, .inl y3), (6, .inl y4)], [.inl y3, .inl c, gx_r 327], t109, n, 0)) rfl (fun _ => rfl) rfl ?_
  refine gx_ap rfl (fun _ => rfl) g109 rfl rfl rfl (show c < 24 from by omega) (gx_run1 (show c < 24 from hc)) (ai_in_h (by first | decide | omega) (by first | decide | omega) (by first | decide | omega)) rfl (fun t113 g113 k113 e113 => ?_)
  have k14 : ai_hv t113 323 5 = some (.inl c) := (e113 323 5 (by first | decide | omega)).trans k10
  have k15 : ai_hv t113 324 c = some (.inr (.inl x)) := (e113 324 c (by first | decide | omega)).trans k11
  have k16 : ai_hv t113 325 c = some (.inl y1) := (e113 325 c (by first | decide | omega)).trans k12
  have k17 : ai_hv t113 326 c = some (.inl y2) := (e113 326 c (by first | decide | omega)).trans k109
  refine ex_go (S := (50, [(0, gx_r 323), (1, .inr (.inl x)), (3, .inl y1), (4, .inl y2), (5, .inl y3), (6, .inl y4)], [gx_r 323], t113, n, 0)) rfl (fun _ => rfl) rfl ?_
  refine gxo_ref (a := 323) (c := 328) rfl g113 rfl rfl rfl rfl rfl ?_
  refine ex_go (S := (54, [(0, gx_r 323), (1, .inr (.inl x)), (3, .inl y1), (4, .inl y2), (5, .inl y3), (6, .inl y4)], [gx_r 323, gx_r 328], t113, n, 0)) rfl (fun _ => rfl) rfl ?_
  refine gxo_get (a := 323) rfl g113 rfl rfl k14 rfl ?_
  refine ex_go (S := (59, [(0, gx_r 323), (1, .inr (.inl x)), (3, .inl y1), (4, .inl y2), (5, .inl y3), (6, .inl y4)], [.inl y4, .inl c, gx_r 328], t113, n, 0)) rfl (fun _ => rfl) rfl ?_
  refine gx_ap rfl (fun _ => rfl) g113 rfl rfl rfl (show c < 24 from by omega) (gx_run1 (show c < 24 from hc)) (ai_in_h (by first | decide | omega) (by first | decide | omega) (by first | decide | omega)) rfl (fun t118 g118 k118 e118 => ?_)
  have k19 : ai_hv t118 323 5 = some (.inl c) := (e118 323 5 (by first | decide | omega)).trans k14
  have k20 : ai_hv t118 324 c = some (.inr (.inl x)) := (e118 324 c (by first | decide | omega)).trans k15
  have k21 : ai_hv t118 325 c = some (.inl y1) := (e118 325 c (by first | decide | omega)).trans k16
  have k22 : ai_hv t118 326 c = some (.inl y2) := (e118 326 c (by first | decide | omega)).trans k17
  have k23 : ai_hv t118 327 c = some (.inl y3) := (e118 327 c (by first | decide | omega)).trans k113
  refine ex_go (S := (61, [(0, gx_r 323), (1, .inr (.inl x)), (3, .inl y1), (4, .inl y2), (5, .inl y3), (6, .inl y4)], [gx_r 323], t118, n, 0)) rfl (fun _ => rfl) rfl ?_
  refine ex_go (S := (62, [(0, gx_r 323), (1, .inr (.inl x)), (3, .inl y1), (4, .inl y2), (5, .inl y3), (6, .inl y4)], [gx_r 323, gx_r 323], t118, n, 0)) rfl (fun _ => rfl) rfl ?_
  refine gxo_get (a := 323) rfl g118 rfl rfl k19 rfl ?_
  refine ex_go (S := (66, [(0, gx_r 323), (1, .inr (.inl x)), (3, .inl y1), (4, .inl y2), (5, .inl y3), (6, .inl y4)], [.inl 1, .inl c, gx_r 323], t118, n, 0)) rfl (fun _ => rfl) rfl ?_
  refine ex_iadd rfl (by first | decide | omega) rfl ?_
  refine gxo_put (a := 323) rfl g118 rfl rfl rfl (ai_in_h (by first | decide | omega) (by first | decide | omega) (by first | decide | omega)) rfl (fun t124 g124 k124 e124 => ?_)
  have k25 : ai_hv t124 324 c = some (.inr (.inl x)) := (e124 324 c (by first | decide | omega)).trans k20
  have k26 : ai_hv t124 325 c = some (.inl y1) := (e124 325 c (by first | decide | omega)).trans k21
  have k27 : ai_hv t124 326 c = some (.inl y2) := (e124 326 c (by first | decide | omega)).trans k22
  have k28 : ai_hv t124 327 c = some (.inl y3) := (e124 327 c (by first | decide | omega)).trans k23
  have k29 : ai_hv t124 328 c = some (.inl y4) := (e124 328 c (by first | decide | omega)).trans k118
  refine ex_ret (r := (none, t124, n, 0)) rfl (fun _ => rfl) ?_
  exact ⟨_, rfl, t124, rfl, g124, (fun c' i h => (e124 c' i (by first | decide | omega)).trans ((e118 c' i (by first | decide | omega)).trans ((e113 c' i (by first | decide | omega)).trans ((e109 c' i (by first | decide | omega)).trans ((e106 c' i (by first | decide | omega)).trans (e104 c' i (by first | decide | omega))))))), k124, k25, k26, k27, k28, k29⟩
theorem pc_rclear323 (d n : Nat) {t0 : en_H} (g0 : ai_HG ah_G t0) : ∃ r, en_u (d + 1) 11 [gx_r 323] t0 n = some r ∧ ∃ t', r = (none, t', n, 0) ∧ ai_HG ah_G t' ∧ (∀ c i, ¬ (c = 323 ∧ i = 5) → ai_hv t' c i = ai_hv t0 c i) ∧ ai_hv t' 323 5 = some (.inl 0) := by
  refine en_u_ex rfl ?_
  show en_ex _ _ _ _ (0, [(0, gx_r 323)], [], t0, n, 0) _
  refine ex_go (S := (1, [(0, gx_r 323)], [gx_r 323], t0, n, 0)) rfl (fun _ => rfl) rfl ?_
  refine ex_go (S := (2, [(0, gx_r 323)], [.inl 0, gx_r 323], t0, n, 0)) rfl (fun _ => rfl) rfl ?_
  refine gxo_put (a := 323) rfl g0 rfl rfl rfl (ai_in_h (by first | decide | omega) (by first | decide | omega) (by first | decide | omega)) rfl (fun t101 g101 k101 e101 => ?_)
  refine ex_ret (r := (none, t101, n, 0)) rfl (fun _ => rfl) ?_
  exact ⟨_, rfl, t101, rfl, g101, (fun c i h => e101 c i (by first | decide | omega)), k101⟩
theorem pc_startRow323 (d n : Nat) {t0 : en_H} {a c : Nat} {S : Nat → Nat} {m N : Nat} (s0 : cS t0 a 0) (hT : cT t0 S m N) (ha : a < N) (kq5 : ai_hv t0 323 5 = some (.inl c)) (hc : c ≤ 24) : ∃ r, en_u (d + 2) 249 [gx_r 7, gx_r 323] t0 n = some r ∧ ∃ t' a' f', r = (none, t', n, 0) ∧ cS t' a' f' ∧ cF t0 t' ∧ (a', f') = fr S m (c = 24) 5 (a, 0) ∧ (a' ≤ N ∧ a ≤ a' ∧ (f' = 0 → a' = a + 1 ∧ c ≠ 24)) := by
  have b0 := s0.2.2.2
  have hN := hT.2.2.2.2.2.2.1
  refine en_u_ex (d := d + 1) rfl ?_
  show en_ex _ _ _ _ (0, [(0, gx_r 7), (1, gx_r 323)], [], t0, n, 0) _
  refine ex_go (S := (1, [(0, gx_r 7), (1, gx_r 323)], [gx_r 323], t0, n, 0)) rfl (fun _ => rfl) rfl ?_
  obtain ⟨_, r1, b2, rfl, q3⟩ := pc_isFull323 (d) n s0.1 kq5 (by first | decide | omega)
  refine gx_callo (a := 323) rfl rfl s0.1 rfl rfl rfl r1 rfl ?_
  show en_ex _ _ _ _ (4, [(0, gx_r 7), (1, gx_r 323)], [.inl b2], t0, n, 0) _
  by_cases hc4 : b2 = 0
  · refine gx_1t (c := .eq) rfl (by first | decide | omega) hc4 rfl ?_
    refine ex_go (S := (16, [(0, gx_r 7), (1, gx_r 323)], [gx_r 7], t0, n, 0)) rfl (fun _ => rfl) rfl ?_
    refine gxo_ref (a := 7) (c := 1) rfl s0.1 rfl rfl rfl rfl rfl ?_
    obtain ⟨_, r105, t105, a105, f105, rfl, s105, e105, q105⟩ := pc_goOn (d) n (s0) hT (by first | decide | omega) 
    have b105 := s105.2.2.2
    refine gx_callo (a := 1) rfl rfl s0.1 rfl rfl rfl r105 rfl ?_
    have k6 : ai_hv t105 323 5 = some (.inl c) := (e105 323 5 (by first | decide | omega)).trans kq5
    show en_ex _ _ _ _ (22, [(0, gx_r 7), (1, gx_r 323)], [], t105, n, 0) _
    refine ex_ret (r := (none, t105, n, 0)) rfl (fun _ => rfl) ?_
    have hful : ¬ c = 24 := by omega
    refine ⟨_, rfl, t105, a105, f105, rfl, s105, (fun c i h => e105 c i (by first | decide | omega)), ?_, by omega⟩
    rw [fr_yes hful]; exact Prod.ext (by show a105 = a + 1; omega) (by show f105 = 0; omega)
  · refine gx_1f (c := .eq) rfl (by first | decide | omega) hc4 rfl ?_
    refine ex_go (S := (8, [(0, gx_r 7), (1, gx_r 323)], [gx_r 7], t0, n, 0)) rfl (fun _ => rfl) rfl ?_
    refine gxo_ref (a := 7) (c := 1) rfl s0.1 rfl rfl rfl rfl rfl ?_
    refine ex_go (S := (12, [(0, gx_r 7), (1, gx_r 323)], [.inl 5, gx_r 1], t0, n, 0)) rfl (fun _ => rfl) rfl ?_
    obtain ⟨_, r107, t107, a107, f107, rfl, s107, e107, q107⟩ := pc_wrong (d) n (s0) hT (by first | decide | omega) (w := 5) (by first | decide | omega)
    have b107 := s107.2.2.2
    refine gx_callo (a := 1) rfl rfl s0.1 rfl rfl rfl r107 rfl ?_
    have k8 : ai_hv t107 323 5 = some (.inl c) := (e107 323 5 (by first | decide | omega)).trans kq5
    show en_ex _ _ _ _ (15, [(0, gx_r 7), (1, gx_r 323)], [], t107, n, 0) _
    refine ex_go (S := (16, [(0, gx_r 7), (1, gx_r 323)], [gx_r 7], t107, n, 0)) rfl (fun _ => rfl) rfl ?_
    refine gxo_ref (a := 7) (c := 1) rfl s107.1 rfl rfl rfl rfl rfl ?_
    have hT10 := cT_keep (t' := t107) hT (fun c i h => e107 c i (by first | decide | omega))
    obtain ⟨_, r109, t109, a109, f109, rfl, s109, e109, q109⟩ := pc_goOn (d) n (s107) hT10 (by first | decide | omega) 
    have b109 := s109.2.2.2
    refine gx_callo (a := 1) rfl rfl s107.1 rfl rfl rfl r109 rfl ?_
    have k11 : ai_hv t109 323 5 = some (.inl c) := (e109 323 5 (by first | decide | omega)).trans k8
    show en_ex _ _ _ _ (22, [(0, gx_r 7), (1, gx_r 323)], [], t109, n, 0) _
    refine ex_ret (r := (none, t109, n, 0)) rfl (fun _ => rfl) ?_
    have hful : c = 24 := by omega
    refine ⟨_, rfl, t109, a109, f109, rfl, s109, (fun c i h => (e109 c i (by first | decide | omega)).trans (e107 c i (by first | decide | omega))), ?_, by omega⟩
    rw [fr_w hful]; exact Prod.ext (by show a109 = a; omega) (by show f109 = 5 + 16 * sp_st S m a; omega)
theorem pc_endRow323 (d n : Nat) {t0 : en_H} {a f c x y1 y2 y3 y4 : Nat} {S : Nat → Nat} {m N : Nat} (s0 : cS t0 a f) (hT : cT t0 S m N) (ha : a ≤ N) (kq5 : ai_hv t0 323 5 = some (.inl c)) (hr : f = 0 → (c < 24 ∧ y1 ≤ 3 ∧ y3 ≤ 999 ∧ y4 = 0) ∧ ai_rh (.inl (2147483647, 2147483649)) (.inl y2)) : ∃ r, en_u (d + 3) 250 [gx_r 7, gx_r 323, .inr (.inl x), .inl y1, .inl y2, .inl y3, .inl y4] t0 n = some r ∧ ∃ t' a' f', r = (none, t', n, 0) ∧ cS t' a' f' ∧ (∀ c' i, ¬ ((c' = 1 ∧ (i = 1 ∨ i = 8)) ∨ (c' = 323 ∧ i = 5) ∨ ((c' = 324 ∨ c' = 325 ∨ c' = 326 ∨ c' = 327 ∨ c' = 328) ∧ i = c)) → ai_hv t' c' i = ai_hv t0 c' i) ∧ (a', f') = fs S m N 59 (a, f) ∧ (a' ≤ N ∧ a ≤ a' ∧ (f' = 0 → f = 0 ∧ a' = a + 1)) ∧ (f' = 0 → ai_hv t' 323 5 = some (.inl (c + 1)) ∧ ai_hv t' 324 c = some (.inr (.inl x)) ∧ ai_hv t' 325 c = some (.inl y1) ∧ ai_hv t' 326 c = some (.inl y2) ∧ ai_hv t' 327 c = some (.inl y3) ∧ ai_hv t' 328 c = some (.inl y4)) := by
  have b0 := s0.2.2.2
  have hN := hT.2.2.2.2.2.2.1
  refine en_u_ex (d := d + 2) rfl ?_
  show en_ex _ _ _ _ (0, [(0, gx_r 7), (1, gx_r 323), (2, .inr (.inl x)), (4, .inl y1), (5, .inl y2), (6, .inl y3), (7, .inl y4)], [], t0, n, 0) _
  refine ex_go (S := (1, [(0, gx_r 7), (1, gx_r 323), (2, .inr (.inl x)), (4, .inl y1), (5, .inl y2), (6, .inl y3), (7, .inl y4)], [gx_r 7], t0, n, 0)) rfl (fun _ => rfl) rfl ?_
  refine gxo_ref (a := 7) (c := 1) rfl s0.1 rfl rfl rfl rfl rfl ?_
  refine ex_go (S := (6, [(0, gx_r 7), (1, gx_r 323), (2, .inr (.inl x)), (4, .inl y1), (5, .inl y2), (6, .inl y3), (7, .inl y4)], [.inl 59, gx_r 1], t0, n, 0)) rfl (fun _ => rfl) rfl ?_
  obtain ⟨_, r101, t101, a101, f101, rfl, s101, e101, z101, q101⟩ := pc_takeSign (d) n (s0) hT (by first | decide | omega) (w := 59) (by first | decide | omega)
  have b101 := s101.2.2.2
  have y101 := z101.trans (congrArg (fs S m N 59) (rfl : (a, f) = (a, f)))
  refine gx_callo (a := 1) rfl rfl s0.1 rfl rfl rfl r101 rfl ?_
  have k2 : ai_hv t101 323 5 = some (.inl c) := (e101 323 5 (by first | decide | omega)).trans kq5
  show en_ex _ _ _ _ (9, [(0, gx_r 7), (1, gx_r 323), (2, .inr (.inl x)), (4, .inl y1), (5, .inl y2), (6, .inl y3), (7, .inl y4)], [], t101, n, 0) _
  refine ex_go (S := (10, [(0, gx_r 7), (1, gx_r 323), (2, .inr (.inl x)), (4, .inl y1), (5, .inl y2), (6, .inl y3), (7, .inl y4)], [gx_r 7], t101, n, 0)) rfl (fun _ => rfl) rfl ?_
  refine gxo_ref (a := 7) (c := 1) rfl s101.1 rfl rfl rfl rfl rfl ?_
  refine gxo_get (a := 1) rfl s101.1 rfl rfl s101.2.2.1 rfl ?_
  by_cases hc3 : f101 ≠ 0
  · refine gx_1t (c := .ne) rfl (by first | decide | omega) hc3 rfl ?_
    refine ex_ret (r := (none, t101, n, 0)) rfl (fun _ => rfl) ?_
    exact ⟨_, rfl, t101, a101, f101, rfl, s101, (fun c' i h => e101 c' i (by first | decide | omega)), y101, by omega, fun z => by omega⟩
  · refine gx_1f (c := .ne) rfl (by first | decide | omega) hc3 rfl ?_
    refine ex_go (S := (20, [(0, gx_r 7), (1, gx_r 323), (2, .inr (.inl x)), (4, .inl y1), (5, .inl y2), (6, .inl y3), (7, .inl y4)], [gx_r 323], t101, n, 0)) rfl (fun _ => rfl) rfl ?_
    refine ex_go (S := (21, [(0, gx_r 7), (1, gx_r 323), (2, .inr (.inl x)), (4, .inl y1), (5, .inl y2), (6, .inl y3), (7, .inl y4)], [.inr (.inl x), gx_r 323], t101, n, 0)) rfl (fun _ => rfl) rfl ?_
    refine ex_go (S := (23, [(0, gx_r 7), (1, gx_r 323), (2, .inr (.inl x)), (4, .inl y1), (5, .inl y2), (6, .inl y3), (7, .inl y4)], [.inl y1, .inr (.inl x), gx_r 323], t101, n, 0)) rfl (fun _ => rfl) rfl ?_
    refine ex_go (S := (25, [(0, gx_r 7), (1, gx_r 323), (2, .inr (.inl x)), (4, .inl y1), (5, .inl y2), (6, .inl y3), (7, .inl y4)], [.inl y2, .inl y1, .inr (.inl x), gx_r 323], t101, n, 0)) rfl (fun _ => rfl) rfl ?_
    refine ex_go (S := (27, [(0, gx_r 7), (1, gx_r 323), (2, .inr (.inl x)), (4, .inl y1), (5, .inl y2), (6, .inl y3), (7, .inl y4)], [.inl y3, .inl y2, .inl y1, .inr (.inl x), gx_r 323], t101, n, 0)) rfl (fun _ => rfl) rfl ?_
    refine ex_go (S := (29, [(0, gx_r 7), (1, gx_r 323), (2, .inr (.inl x)), (4, .inl y1), (5, .inl y2), (6, .inl y3), (7, .inl y4)], [.inl y4, .inl y3, .inl y2, .inl y1, .inr (.inl x), gx_r 323], t101, n, 0)) rfl (fun _ => rfl) rfl ?_
    obtain ⟨hra, hrb⟩ := hr (by first | decide | omega)
    obtain ⟨_, r104, t104, rfl, g104, e104, ka104, kb104, kc104, kd104, ke104, kf104⟩ := pc_add323 (d) n (x := x) (y1 := y1) (y2 := y2) (y3 := y3) (y4 := y4) s101.1 k2 (by first | decide | omega) (by first | decide | omega) hrb (by first | decide | omega) (by first | decide | omega)
    refine gx_callo (a := 323) rfl rfl s101.1 rfl rfl rfl r104 rfl ?_
    have s104 : cS t104 a101 f101 := ⟨g104, (e104 1 8 (by first | decide | omega)).trans s101.2.1, (e104 1 1 (by first | decide | omega)).trans s101.2.2.1, s101.2.2.2⟩
    show en_ex _ _ _ _ (32, [(0, gx_r 7), (1, gx_r 323), (2, .inr (.inl x)), (4, .inl y1), (5, .inl y2), (6, .inl y3), (7, .inl y4)], [], t104, n, 0) _
    refine ex_ret (r := (none, t104, n, 0)) rfl (fun _ => rfl) ?_
    exact ⟨_, rfl, t104, a101, f101, rfl, s104, (fun c' i h => (e104 c' i (by first | decide | omega)).trans (e101 c' i (by first | decide | omega))), y101, by omega, fun _ => ⟨ka104, kb104, kc104, kd104, ke104, kf104⟩⟩
theorem pc_isFull329 (d n : Nat) {c : Nat} {t0 : en_H} (g0 : ai_HG ah_G t0) (k5 : ai_hv t0 329 5 = some (.inl c)) (hc : c ≤ 24) : ∃ r, en_u (d + 1) 272 [gx_r 329] t0 n = some r ∧ ∃ b, r = (some (.inl b), t0, n, 0) ∧ b ≤ 1 ∧ (b = 1 ↔ c = 24) := by
  refine en_u_ex rfl ?_
  show en_ex _ _ _ _ (0, [(0, gx_r 329)], [], t0, n, 0) _
  refine ex_go (S := (1, [(0, gx_r 329)], [gx_r 329], t0, n, 0)) rfl (fun _ => rfl) rfl ?_
  refine gxo_get (a := 329) rfl g0 rfl rfl k5 rfl ?_
  refine ex_go (S := (5, [(0, gx_r 329)], [gx_r 329, .inl c], t0, n, 0)) rfl (fun _ => rfl) rfl ?_
  refine gxo_ref (a := 329) (c := 330) rfl g0 rfl rfl rfl rfl rfl ?_
  refine gx_alen (a := 330) (m := 24) rfl g0 rfl rfl rfl ?_
  by_cases hc1 : c < 24
  · refine gx_2t (c := .lt) rfl (by first | decide | omega) (by first | decide | omega) hc1 rfl ?_
    refine ex_go (S := (17, [(0, gx_r 329)], [.inl 0], t0, n, 0)) rfl (fun _ => rfl) rfl ?_
    refine ex_ret (r := (some (.inl 0), t0, n, 0)) rfl (fun _ => rfl) ?_
    exact ⟨_, rfl, 0, rfl, by omega⟩
  · refine gx_2f (c := .lt) rfl (by first | decide | omega) (by first | decide | omega) hc1 rfl ?_
    refine ex_go (S := (13, [(0, gx_r 329)], [.inl 1], t0, n, 0)) rfl (fun _ => rfl) rfl ?_
    refine ex_go (S := (17, [(0, gx_r 329)], [.inl 1], t0, n, 0)) rfl (fun _ => rfl) rfl ?_
    refine ex_ret (r := (some (.inl 1), t0, n, 0)) rfl (fun _ => rfl) ?_
    exact ⟨_, rfl, 1, rfl, by omega⟩
theorem pc_add329 (d n : Nat) {c x y1 y2 y3 y4 : Nat} {t0 : en_H} (g0 : ai_HG ah_G t0) (kq5 : ai_hv t0 329 5 = some (.inl c)) (hc : c < 24) (h1 : y1 ≤ 3) (h2 : ai_rh (.inl (2147483647, 2147483649)) (.inl y2)) (h3 : y3 ≤ 999) (h4 : y4 = 0) : ∃ r, en_u (d + 2) 273 [gx_r 329, .inr (.inl x), .inl y1, .inl y2, .inl y3, .inl y4] t0 n = some r ∧ ∃ t', r = (none, t', n, 0) ∧ ai_HG ah_G t' ∧ (∀ c' i, ¬ ((c' = 329 ∧ i = 5) ∨ ((c' = 330 ∨ c' = 331 ∨ c' = 332 ∨ c' = 333 ∨ c' = 334) ∧ i = c)) → ai_hv t' c' i = ai_hv t0 c' i) ∧ ai_hv t' 329 5 = some (.inl (c + 1)) ∧ ai_hv t' 330 c = some (.inr (.inl x)) ∧ ai_hv t' 331 c = some (.inl y1) ∧ ai_hv t' 332 c = some (.inl y2) ∧ ai_hv t' 333 c = some (.inl y3) ∧ ai_hv t' 334 c = some (.inl y4) := by
  refine en_u_ex (d := d + 1) rfl ?_
  show en_ex _ _ _ _ (0, [(0, gx_r 329), (1, .inr (.inl x)), (3, .inl y1), (4, .inl y2), (5, .inl y3), (6, .inl y4)], [], t0, n, 0) _
  refine ex_go (S := (1, [(0, gx_r 329), (1, .inr (.inl x)), (3, .inl y1), (4, .inl y2), (5, .inl y3), (6, .inl y4)], [gx_r 329], t0, n, 0)) rfl (fun _ => rfl) rfl ?_
  obtain ⟨_, r1, b2, rfl, q3⟩ := pc_isFull329 (d) n g0 kq5 (by first | decide | omega)
  refine gx_callo (a := 329) rfl rfl g0 rfl rfl rfl r1 rfl ?_
  show en_ex _ _ _ _ (4, [(0, gx_r 329), (1, .inr (.inl x)), (3, .inl y1), (4, .inl y2), (5, .inl y3), (6, .inl y4)], [.inl b2], t0, n, 0) _
  refine gx_1f (c := .ne) rfl (by first | decide | omega) (show ¬ (b2 ≠ 0) from by omega) rfl ?_
  refine ex_go (S := (8, [(0, gx_r 329), (1, .inr (.inl x)), (3, .inl y1), (4, .inl y2), (5, .inl y3), (6, .inl y4)], [gx_r 329], t0, n, 0)) rfl (fun _ => rfl) rfl ?_
  refine gxo_ref (a := 329) (c := 330) rfl g0 rfl rfl rfl rfl rfl ?_
  refine ex_go (S := (12, [(0, gx_r 329), (1, .inr (.inl x)), (3, .inl y1), (4, .inl y2), (5, .inl y3), (6, .inl y4)], [gx_r 329, gx_r 330], t0, n, 0)) rfl (fun _ => rfl) rfl ?_
  refine gxo_get (a := 329) rfl g0 rfl rfl kq5 rfl ?_
  refine ex_go (S := (16, [(0, gx_r 329), (1, .inr (.inl x)), (3, .inl y1), (4, .inl y2), (5, .inl y3), (6, .inl y4)], [.inr (.inl x), .inl c, gx_r 330], t0, n, 0)) rfl (fun _ => rfl) rfl ?_
  refine gx_apv (d := 1) rfl (fun _ => rfl) g0 rfl rfl rfl (show c < 24 from by omega) (gx_run1 (show c < 24 from hc)) ⟨_, rfl⟩ rfl (fun t104 g104 k104 e104 => ?_)
  have k5 : ai_hv t104 329 5 = some (.inl c) := (e104 329 5 (by first | decide | omega)).trans kq5
  refine ex_go (S := (18, [(0, gx_r 329), (1, .inr (.inl x)), (3, .inl y1), (4, .inl y2), (5, .inl y3), (6, .inl y4)], [gx_r 329], t104, n, 0)) rfl (fun _ => rfl) rfl ?_
  refine gxo_ref (a := 329) (c := 331) rfl g104 rfl rfl rfl rfl rfl ?_
  refine ex_go (S := (22, [(0, gx_r 329), (1, .inr (.inl x)), (3, .inl y1), (4, .inl y2), (5, .inl y3), (6, .inl y4)], [gx_r 329, gx_r 331], t104, n, 0)) rfl (fun _ => rfl) rfl ?_
  refine gxo_get (a := 329) rfl g104 rfl rfl k5 rfl ?_
  refine ex_go (S := (26, [(0, gx_r 329), (1, .inr (.inl x)), (3, .inl y1), (4, .inl y2), (5, .inl y3), (6, .inl y4)], [.inl y1, .inl c, gx_r 331], t104, n, 0)) rfl (fun _ => rfl) rfl ?_
  refine gx_ap rfl (fun _ => rfl) g104 rfl rfl rfl (show c < 24 from by omega) (gx_run1 (show c < 24 from hc)) (ai_in_h (by first | decide | omega) (by first | decide | omega) (by first | decide | omega)) rfl (fun t106 g106 k106 e106 => ?_)
  have k7 : ai_hv t106 329 5 = some (.inl c) := (e106 329 5 (by first | decide | omega)).trans k5
  have k8 : ai_hv t106 330 c = some (.inr (.inl x)) := (e106 330 c (by first | decide | omega)).trans k104
  refine ex_go (S := (28, [(0, gx_r 329), (1, .inr (.inl x)), (3, .inl y1), (4, .inl y2), (5, .inl y3), (6, .inl y4)], [gx_r 329], t106, n, 0)) rfl (fun _ => rfl) rfl ?_
  refine gxo_ref (a := 329) (c := 332) rfl g106 rfl rfl rfl rfl rfl ?_
  refine ex_go (S := (32, [(0, gx_r 329), (1, .inr (.inl x)), (3, .inl y1), (4, .inl y2), (5, .inl y3), (6, .inl y4)], [gx_r 329, gx_r 332], t106, n, 0)) rfl (fun _ => rfl) rfl ?_
  refine gxo_get (a := 329) rfl g106 rfl rfl k7 rfl ?_
  refine ex_go (S := (37, [(0, gx_r 329), (1, .inr (.inl x)), (3, .inl y1), (4, .inl y2), (5, .inl y3), (6, .inl y4)], [.inl y2, .inl c, gx_r 332], t106, n, 0)) rfl (fun _ => rfl) rfl ?_
  refine gx_ap rfl (fun _ => rfl) g106 rfl rfl rfl (show c < 24 from by omega) (gx_run1 (show c < 24 from hc)) h2 rfl (fun t109 g109 k109 e109 => ?_)
  have k10 : ai_hv t109 329 5 = some (.inl c) := (e109 329 5 (by first | decide | omega)).trans k7
  have k11 : ai_hv t109 330 c = some (.inr (.inl x)) := (e109 330 c (by first | decide | omega)).trans k8
  have k12 : ai_hv t109 331 c = some (.inl y1) := (e109 331 c (by first | decide | omega)).trans k106
  refine ex_go (S := (39, [(0, gx_r 329), (1, .inr (.inl x)), (3, .inl y1), (4, .inl y2), (5, .inl y3), (6, .inl y4)], [gx_r 329], t109, n, 0)) rfl (fun _ => rfl) rfl ?_
  refine gxo_ref (a := 329) (c := 333) rfl g109 rfl rfl rfl rfl rfl ?_
  refine ex_go (S := (43, [(0, gx_r 329), (1, .inr (.inl x)), (3, .inl y1), (4, .inl y2), (5, .inl y3), (6, .inl y4)], [gx_r 329, gx_r 333], t109, n, 0)) rfl (fun _ => rfl) rfl ?_
  refine gxo_get (a := 329) rfl g109 rfl rfl k10 rfl ?_
  refine ex_go (S := (48, [(0, gx_r 329), (1, .inr (.inl x)), (3, .inl y1), (4, .inl y2), (5, .inl y3), (6, .inl y4)], [.inl y3, .inl c, gx_r 333], t109, n, 0)) rfl (fun _ => rfl) rfl ?_
  refine gx_ap rfl (fun _ => rfl) g109 rfl rfl rfl (show c < 24 from by omega) (gx_run1 (show c < 24 from hc)) (ai_in_h (by first | decide | omega) (by first | decide | omega) (by first | decide | omega)) rfl (fun t113 g113 k113 e113 => ?_)
  have k14 : ai_hv t113 329 5 = some (.inl c) := (e113 329 5 (by first | decide | omega)).trans k10
  have k15 : ai_hv t113 330 c = some (.inr (.inl x)) := (e113 330 c (by first | decide | omega)).trans k11
  have k16 : ai_hv t113 331 c = some (.inl y1) := (e113 331 c (by first | decide | omega)).trans k12
  have k17 : ai_hv t113 332 c = some (.inl y2) := (e113 332 c (by first | decide | omega)).trans k109
  refine ex_go (S := (50, [(0, gx_r 329), (1, .inr (.inl x)), (3, .inl y1), (4, .inl y2), (5, .inl y3), (6, .inl y4)], [gx_r 329], t113, n, 0)) rfl (fun _ => rfl) rfl ?_
  refine gxo_ref (a := 329) (c := 334) rfl g113 rfl rfl rfl rfl rfl ?_
  refine ex_go (S := (54, [(0, gx_r 329), (1, .inr (.inl x)), (3, .inl y1), (4, .inl y2), (5, .inl y3), (6, .inl y4)], [gx_r 329, gx_r 334], t113, n, 0)) rfl (fun _ => rfl) rfl ?_
  refine gxo_get (a := 329) rfl g113 rfl rfl k14 rfl ?_
  refine ex_go (S := (59, [(0, gx_r 329), (1, .inr (.inl x)), (3, .inl y1), (4, .inl y2), (5, .inl y3), (6, .inl y4)], [.inl y4, .inl c, gx_r 334], t113, n, 0)) rfl (fun _ => rfl) rfl ?_
  refine gx_ap rfl (fun _ => rfl) g113 rfl rfl rfl (show c < 24 from by omega) (gx_run1 (show c < 24 from hc)) (ai_in_h (by first | decide | omega) (by first | decide | omega) (by first | decide | omega)) rfl (fun t118 g118 k118 e118 => ?_)
  have k19 : ai_hv t118 329 5 = some (.inl c) := (e118 329 5 (by first | decide | omega)).trans k14
  have k20 : ai_hv t118 330 c = some (.inr (.inl x)) := (e118 330 c (by first | decide | omega)).trans k15
  have k21 : ai_hv t118 331 c = some (.inl y1) := (e118 331 c (by first | decide | omega)).trans k16
  have k22 : ai_hv t118 332 c = some (.inl y2) := (e118 332 c (by first | decide | omega)).trans k17
  have k23 : ai_hv t118 333 c = some (.inl y3) := (e118 333 c (by first | decide | omega)).trans k113
  refine ex_go (S := (61, [(0, gx_r 329), (1, .inr (.inl x)), (3, .inl y1), (4, .inl y2), (5, .inl y3), (6, .inl y4)], [gx_r 329], t118, n, 0)) rfl (fun _ => rfl) rfl ?_
  refine ex_go (S := (62, [(0, gx_r 329), (1, .inr (.inl x)), (3, .inl y1), (4, .inl y2), (5, .inl y3), (6, .inl y4)], [gx_r 329, gx_r 329], t118, n, 0)) rfl (fun _ => rfl) rfl ?_
  refine gxo_get (a := 329) rfl g118 rfl rfl k19 rfl ?_
  refine ex_go (S := (66, [(0, gx_r 329), (1, .inr (.inl x)), (3, .inl y1), (4, .inl y2), (5, .inl y3), (6, .inl y4)], [.inl 1, .inl c, gx_r 329], t118, n, 0)) rfl (fun _ => rfl) rfl ?_
  refine ex_iadd rfl (by first | decide | omega) rfl ?_
  refine gxo_put (a := 329) rfl g118 rfl rfl rfl (ai_in_h (by first | decide | omega) (by first | decide | omega) (by first | decide | omega)) rfl (fun t124 g124 k124 e124 => ?_)
  have k25 : ai_hv t124 330 c = some (.inr (.inl x)) := (e124 330 c (by first | decide | omega)).trans k20
  have k26 : ai_hv t124 331 c = some (.inl y1) := (e124 331 c (by first | decide | omega)).trans k21
  have k27 : ai_hv t124 332 c = some (.inl y2) := (e124 332 c (by first | decide | omega)).trans k22
  have k28 : ai_hv t124 333 c = some (.inl y3) := (e124 333 c (by first | decide | omega)).trans k23
  have k29 : ai_hv t124 334 c = some (.inl y4) := (e124 334 c (by first | decide | omega)).trans k118
  refine ex_ret (r := (none, t124, n, 0)) rfl (fun _ => rfl) ?_
  exact ⟨_, rfl, t124, rfl, g124, (fun c' i h => (e124 c' i (by first | decide | omega)).trans ((e118 c' i (by first | decide | omega)).trans ((e113 c' i (by first | decide | omega)).trans ((e109 c' i (by first | decide | omega)).trans ((e106 c' i (by first | decide | omega)).trans (e104 c' i (by first | decide | omega))))))), k124, k25, k26, k27, k28, k29⟩
theorem pc_rclear329 (d n : Nat) {t0 : en_H} (g0 : ai_HG ah_G t0) : ∃ r, en_u (d + 1) 11 [gx_r 329] t0 n = some r ∧ ∃ t', r = (none, t', n, 0) ∧ ai_HG ah_G t' ∧ (∀ c i, ¬ (c = 329 ∧ i = 5) → ai_hv t' c i = ai_hv t0 c i) ∧ ai_hv t' 329 5 = some (.inl 0) := by
  refine en_u_ex rfl ?_
  show en_ex _ _ _ _ (0, [(0, gx_r 329)], [], t0, n, 0) _
  refine ex_go (S := (1, [(0, gx_r 329)], [gx_r 329], t0, n, 0)) rfl (fun _ => rfl) rfl ?_
  refine ex_go (S := (2, [(0, gx_r 329)], [.inl 0, gx_r 329], t0, n, 0)) rfl (fun _ => rfl) rfl ?_
  refine gxo_put (a := 329) rfl g0 rfl rfl rfl (ai_in_h (by first | decide | omega) (by first | decide | omega) (by first | decide | omega)) rfl (fun t101 g101 k101 e101 => ?_)
  refine ex_ret (r := (none, t101, n, 0)) rfl (fun _ => rfl) ?_
  exact ⟨_, rfl, t101, rfl, g101, (fun c i h => e101 c i (by first | decide | omega)), k101⟩
theorem pc_startRow329 (d n : Nat) {t0 : en_H} {a c : Nat} {S : Nat → Nat} {m N : Nat} (s0 : cS t0 a 0) (hT : cT t0 S m N) (ha : a < N) (kq5 : ai_hv t0 329 5 = some (.inl c)) (hc : c ≤ 24) : ∃ r, en_u (d + 2) 249 [gx_r 7, gx_r 329] t0 n = some r ∧ ∃ t' a' f', r = (none, t', n, 0) ∧ cS t' a' f' ∧ cF t0 t' ∧ (a', f') = fr S m (c = 24) 5 (a, 0) ∧ (a' ≤ N ∧ a ≤ a' ∧ (f' = 0 → a' = a + 1 ∧ c ≠ 24)) := by
  have b0 := s0.2.2.2
  have hN := hT.2.2.2.2.2.2.1
  refine en_u_ex (d := d + 1) rfl ?_
  show en_ex _ _ _ _ (0, [(0, gx_r 7), (1, gx_r 329)], [], t0, n, 0) _
  refine ex_go (S := (1, [(0, gx_r 7), (1, gx_r 329)], [gx_r 329], t0, n, 0)) rfl (fun _ => rfl) rfl ?_
  obtain ⟨_, r1, b2, rfl, q3⟩ := pc_isFull329 (d) n s0.1 kq5 (by first | decide | omega)
  refine gx_callo (a := 329) rfl rfl s0.1 rfl rfl rfl r1 rfl ?_
  show en_ex _ _ _ _ (4, [(0, gx_r 7), (1, gx_r 329)], [.inl b2], t0, n, 0) _
  by_cases hc4 : b2 = 0
  · refine gx_1t (c := .eq) rfl (by first | decide | omega) hc4 rfl ?_
    refine ex_go (S := (16, [(0, gx_r 7), (1, gx_r 329)], [gx_r 7], t0, n, 0)) rfl (fun _ => rfl) rfl ?_
    refine gxo_ref (a := 7) (c := 1) rfl s0.1 rfl rfl rfl rfl rfl ?_
    obtain ⟨_, r105, t105, a105, f105, rfl, s105, e105, q105⟩ := pc_goOn (d) n (s0) hT (by first | decide | omega) 
    have b105 := s105.2.2.2
    refine gx_callo (a := 1) rfl rfl s0.1 rfl rfl rfl r105 rfl ?_
    have k6 : ai_hv t105 329 5 = some (.inl c) := (e105 329 5 (by first | decide | omega)).trans kq5
    show en_ex _ _ _ _ (22, [(0, gx_r 7), (1, gx_r 329)], [], t105, n, 0) _
    refine ex_ret (r := (none, t105, n, 0)) rfl (fun _ => rfl) ?_
    have hful : ¬ c = 24 := by omega
    refine ⟨_, rfl, t105, a105, f105, rfl, s105, (fun c i h => e105 c i (by first | decide | omega)), ?_, by omega⟩
    rw [fr_yes hful]; exact Prod.ext (by show a105 = a + 1; omega) (by show f105 = 0; omega)
  · refine gx_1f (c := .eq) rfl (by first | decide | omega) hc4 rfl ?_
    refine ex_go (S := (8, [(0, gx_r 7), (1, gx_r 329)], [gx_r 7], t0, n, 0)) rfl (fun _ => rfl) rfl ?_
    refine gxo_ref (a := 7) (c := 1) rfl s0.1 rfl rfl rfl rfl rfl ?_
    refine ex_go (S := (12, [(0, gx_r 7), (1, gx_r 329)], [.inl 5, gx_r 1], t0, n, 0)) rfl (fun _ => rfl) rfl ?_
    obtain ⟨_, r107, t107, a107, f107, rfl, s107, e107, q107⟩ := pc_wrong (d) n (s0) hT (by first | decide | omega) (w := 5) (by first | decide | omega)
    have b107 := s107.2.2.2
    refine gx_callo (a := 1) rfl rfl s0.1 rfl rfl rfl r107 rfl ?_
    have k8 : ai_hv t107 329 5 = some (.inl c) := (e107 329 5 (by first | decide | omega)).trans kq5
    show en_ex _ _ _ _ (15, [(0, gx_r 7), (1, gx_r 329)], [], t107, n, 0) _
    refine ex_go (S := (16, [(0, gx_r 7), (1, gx_r 329)], [gx_r 7], t107, n, 0)) rfl (fun _ => rfl) rfl ?_
    refine gxo_ref (a := 7) (c := 1) rfl s107.1 rfl rfl rfl rfl rfl ?_
    have hT10 := cT_keep (t' := t107) hT (fun c i h => e107 c i (by first | decide | omega))
    obtain ⟨_, r109, t109, a109, f109, rfl, s109, e109, q109⟩ := pc_goOn (d) n (s107) hT10 (by first | decide | omega) 
    have b109 := s109.2.2.2
    refine gx_callo (a := 1) rfl rfl s107.1 rfl rfl rfl r109 rfl ?_
    have k11 : ai_hv t109 329 5 = some (.inl c) := (e109 329 5 (by first | decide | omega)).trans k8
    show en_ex _ _ _ _ (22, [(0, gx_r 7), (1, gx_r 329)], [], t109, n, 0) _
    refine ex_ret (r := (none, t109, n, 0)) rfl (fun _ => rfl) ?_
    have hful : c = 24 := by omega
    refine ⟨_, rfl, t109, a109, f109, rfl, s109, (fun c i h => (e109 c i (by first | decide | omega)).trans (e107 c i (by first | decide | omega))), ?_, by omega⟩
    rw [fr_w hful]; exact Prod.ext (by show a109 = a; omega) (by show f109 = 5 + 16 * sp_st S m a; omega)
theorem pc_endRow329 (d n : Nat) {t0 : en_H} {a f c x y1 y2 y3 y4 : Nat} {S : Nat → Nat} {m N : Nat} (s0 : cS t0 a f) (hT : cT t0 S m N) (ha : a ≤ N) (kq5 : ai_hv t0 329 5 = some (.inl c)) (hr : f = 0 → (c < 24 ∧ y1 ≤ 3 ∧ y3 ≤ 999 ∧ y4 = 0) ∧ ai_rh (.inl (2147483647, 2147483649)) (.inl y2)) : ∃ r, en_u (d + 3) 250 [gx_r 7, gx_r 329, .inr (.inl x), .inl y1, .inl y2, .inl y3, .inl y4] t0 n = some r ∧ ∃ t' a' f', r = (none, t', n, 0) ∧ cS t' a' f' ∧ (∀ c' i, ¬ ((c' = 1 ∧ (i = 1 ∨ i = 8)) ∨ (c' = 329 ∧ i = 5) ∨ ((c' = 330 ∨ c' = 331 ∨ c' = 332 ∨ c' = 333 ∨ c' = 334) ∧ i = c)) → ai_hv t' c' i = ai_hv t0 c' i) ∧ (a', f') = fs S m N 59 (a, f) ∧ (a' ≤ N ∧ a ≤ a' ∧ (f' = 0 → f = 0 ∧ a' = a + 1)) ∧ (f' = 0 → ai_hv t' 329 5 = some (.inl (c + 1)) ∧ ai_hv t' 330 c = some (.inr (.inl x)) ∧ ai_hv t' 331 c = some (.inl y1) ∧ ai_hv t' 332 c = some (.inl y2) ∧ ai_hv t' 333 c = some (.inl y3) ∧ ai_hv t' 334 c = some (.inl y4)) := by
  have b0 := s0.2.2.2
  have hN := hT.2.2.2.2.2.2.1
  refine en_u_ex (d := d + 2) rfl ?_
  show en_ex _ _ _ _ (0, [(0, gx_r 7), (1, gx_r 329), (2, .inr (.inl x)), (4, .inl y1), (5, .inl y2), (6, .inl y3), (7, .inl y4)], [], t0, n, 0) _
  refine ex_go (S := (1, [(0, gx_r 7), (1, gx_r 329), (2, .inr (.inl x)), (4, .inl y1), (5, .inl y2), (6, .inl y3), (7, .inl y4)], [gx_r 7], t0, n, 0)) rfl (fun _ => rfl) rfl ?_
  refine gxo_ref (a := 7) (c := 1) rfl s0.1 rfl rfl rfl rfl rfl ?_
  refine ex_go (S := (6, [(0, gx_r 7), (1, gx_r 329), (2, .inr (.inl x)), (4, .inl y1), (5, .inl y2), (6, .inl y3), (7, .inl y4)], [.inl 59, gx_r 1], t0, n, 0)) rfl (fun _ => rfl) rfl ?_
  obtain ⟨_, r101, t101, a101, f101, rfl, s101, e101, z101, q101⟩ := pc_takeSign (d) n (s0) hT (by first | decide | omega) (w := 59) (by first | decide | omega)
  have b101 := s101.2.2.2
  have y101 := z101.trans (congrArg (fs S m N 59) (rfl : (a, f) = (a, f)))
  refine gx_callo (a := 1) rfl rfl s0.1 rfl rfl rfl r101 rfl ?_
  have k2 : ai_hv t101 329 5 = some (.inl c) := (e101 329 5 (by first | decide | omega)).trans kq5
  show en_ex _ _ _ _ (9, [(0, gx_r 7), (1, gx_r 329), (2, .inr (.inl x)), (4, .inl y1), (5, .inl y2), (6, .inl y3), (7, .inl y4)], [], t101, n, 0) _
  refine ex_go (S := (10, [(0, gx_r 7), (1, gx_r 329), (2, .inr (.inl x)), (4, .inl y1), (5, .inl y2), (6, .inl y3), (7, .inl y4)], [gx_r 7], t101, n, 0)) rfl (fun _ => rfl) rfl ?_
  refine gxo_ref (a := 7) (c := 1) rfl s101.1 rfl rfl rfl rfl rfl ?_
  refine gxo_get (a := 1) rfl s101.1 rfl rfl s101.2.2.1 rfl ?_
  by_cases hc3 : f101 ≠ 0
  · refine gx_1t (c := .ne) rfl (by first | decide | omega) hc3 rfl ?_
    refine ex_ret (r := (none, t101, n, 0)) rfl (fun _ => rfl) ?_
    exact ⟨_, rfl, t101, a101, f101, rfl, s101, (fun c' i h => e101 c' i (by first | decide | omega)), y101, by omega, fun z => by omega⟩
  · refine gx_1f (c := .ne) rfl (by first | decide | omega) hc3 rfl ?_
    refine ex_go (S := (20, [(0, gx_r 7), (1, gx_r 329), (2, .inr (.inl x)), (4, .inl y1), (5, .inl y2), (6, .inl y3), (7, .inl y4)], [gx_r 329], t101, n, 0)) rfl (fun _ => rfl) rfl ?_
    refine ex_go (S := (21, [(0, gx_r 7), (1, gx_r 329), (2, .inr (.inl x)), (4, .inl y1), (5, .inl y2), (6, .inl y3), (7, .inl y4)], [.inr (.inl x), gx_r 329], t101, n, 0)) rfl (fun _ => rfl) rfl ?_
    refine ex_go (S := (23, [(0, gx_r 7), (1, gx_r 329), (2, .inr (.inl x)), (4, .inl y1), (5, .inl y2), (6, .inl y3), (7, .inl y4)], [.inl y1, .inr (.inl x), gx_r 329], t101, n, 0)) rfl (fun _ => rfl) rfl ?_
    refine ex_go (S := (25, [(0, gx_r 7), (1, gx_r 329), (2, .inr (.inl x)), (4, .inl y1), (5, .inl y2), (6, .inl y3), (7, .inl y4)], [.inl y2, .inl y1, .inr (.inl x), gx_r 329], t101, n, 0)) rfl (fun _ => rfl) rfl ?_
    refine ex_go (S := (27, [(0, gx_r 7), (1, gx_r 329), (2, .inr (.inl x)), (4, .inl y1), (5, .inl y2), (6, .inl y3), (7, .inl y4)], [.inl y3, .inl y2, .inl y1, .inr (.inl x), gx_r 329], t101, n, 0)) rfl (fun _ => rfl) rfl ?_
    refine ex_go (S := (29, [(0, gx_r 7), (1, gx_r 329), (2, .inr (.inl x)), (4, .inl y1), (5, .inl y2), (6, .inl y3), (7, .inl y4)], [.inl y4, .inl y3, .inl y2, .inl y1, .inr (.inl x), gx_r 329], t101, n, 0)) rfl (fun _ => rfl) rfl ?_
    obtain ⟨hra, hrb⟩ := hr (by first | decide | omega)
    obtain ⟨_, r104, t104, rfl, g104, e104, ka104, kb104, kc104, kd104, ke104, kf104⟩ := pc_add329 (d) n (x := x) (y1 := y1) (y2 := y2) (y3 := y3) (y4 := y4) s101.1 k2 (by first | decide | omega) (by first | decide | omega) hrb (by first | decide | omega) (by first | decide | omega)
    refine gx_callo (a := 329) rfl rfl s101.1 rfl rfl rfl r104 rfl ?_
    have s104 : cS t104 a101 f101 := ⟨g104, (e104 1 8 (by first | decide | omega)).trans s101.2.1, (e104 1 1 (by first | decide | omega)).trans s101.2.2.1, s101.2.2.2⟩
    show en_ex _ _ _ _ (32, [(0, gx_r 7), (1, gx_r 329), (2, .inr (.inl x)), (4, .inl y1), (5, .inl y2), (6, .inl y3), (7, .inl y4)], [], t104, n, 0) _
    refine ex_ret (r := (none, t104, n, 0)) rfl (fun _ => rfl) ?_
    exact ⟨_, rfl, t104, a101, f101, rfl, s104, (fun c' i h => (e104 c' i (by first | decide | omega)).trans (e101 c' i (by first | decide | omega))), y101, by omega, fun _ => ⟨ka104, kb104, kc104, kd104, ke104, kf104⟩⟩
theorem pc_weekLine191_323_0 (d n : Nat) {t0 : en_H} {a c : Nat} {S S0 : Nat → Nat} {m N m0 N0 : Nat} {υ : Nat → Nat → Nat} (s0 : cS t0 a 0) (hT : cT t0 S m N) (ha : a < N) (hP : ai_hv t0 7 1 = some (gx_r 191)) (kq5 : ai_hv t0 206 5 = some (.inl (υ 4 0))) (hn : ∀ i, i < υ 4 0 → ai_hv t0 207 i = some (.inr (.inl (sp_wv S0 m0 (υ 21 i + 1))))) (h3 : W3 S0 m0 N0 υ) (hc : WC S0 m0 N0 υ) (ko : ai_hv t0 191 0 = some (.inl (υ 0 0))) (kd : ai_hv t0 191 1 = some (.inl (υ 1 0))) (kc : ai_hv t0 323 5 = some (.inl c)) (hcc : c ≤ 24) (hw2 : ∀ w, w < 42 → ¬ sp_wd S m N a w) : ∃ r, en_u (d + 4) 194 [gx_r 7, .inr (.inr (.inl none)), gx_r 323] t0 n = some r ∧ ∃ t' a' f', r = (none, t', n, 0) ∧ cS t' a' f' ∧ cT t' S m N ∧ (∀ c' i, ¬ ((c' = 1 ∧ (i = 1 ∨ i = 8)) ∨ (c' = 323 ∧ i = 5) ∨ ((324 ≤ c' ∧ c' ≤ 328) ∧ i = c)) → ai_hv t' c' i = ai_hv t0 c' i) ∧ (∃ q, wl S m N (υ 0 0) (υ 1 0) c (tcr S0 m0 υ S m) a q ∧ (a', f') = fs S m N 59 q) ∧ (a' ≤ N ∧ (f' = 0 → a < a' ∧ c < 24)) ∧ (f' = 0 → ai_hv t' 323 5 = some (.inl (c + 1)) ∧ LCr S0 m0 υ S m N t' 323 c a) := by
  have b0 := s0.2.2.2
  have hN := hT.2.2.2.2.2.2.1
  have hBB := h3.1.1
  refine en_u_ex (d := d + 3) rfl ?_
  show en_ex _ _ _ _ (0, [(0, gx_r 7), (1, .inr (.inr (.inl none))), (2, gx_r 323)], [], t0, n, 0) _
  refine ex_go (S := (1, [(0, gx_r 7), (1, .inr (.inr (.inl none))), (2, gx_r 323)], [.inr (.inr (.inl none))], t0, n, 0)) rfl (fun _ => rfl) rfl ?_
  refine ex_go (S := (4, [(0, gx_r 7), (1, .inr (.inr (.inl none))), (2, gx_r 323)], [gx_w 1, .inr (.inr (.inl none))], t0, n, 0)) rfl (fun _ => rfl) rfl ?_
  refine ex_go (S := (34, [(0, gx_r 7), (1, .inr (.inr (.inl none))), (2, gx_r 323)], [], t0, n, 0)) rfl (fun _ => rfl) rfl ?_
  refine ex_go (S := (35, [(0, gx_r 7), (1, .inr (.inr (.inl none))), (2, gx_r 323)], [.inr (.inr (.inl none))], t0, n, 0)) rfl (fun _ => rfl) rfl ?_
  refine ex_go (S := (38, [(0, gx_r 7), (1, .inr (.inr (.inl none))), (2, gx_r 323)], [gx_w 23, .inr (.inr (.inl none))], t0, n, 0)) rfl (fun _ => rfl) rfl ?_
  refine ex_go (S := (108, [(0, gx_r 7), (1, .inr (.inr (.inl none))), (2, gx_r 323)], [], t0, n, 0)) rfl (fun _ => rfl) rfl ?_
  refine ex_go (S := (109, [(0, gx_r 7), (1, .inr (.inr (.inl none))), (2, gx_r 323)], [.inr (.inr (.inl none))], t0, n, 0)) rfl (fun _ => rfl) rfl ?_
  refine ex_go (S := (112, [(0, gx_r 7), (1, .inr (.inr (.inl none))), (2, gx_r 323)], [gx_w 24, .inr (.inr (.inl none))], t0, n, 0)) rfl (fun _ => rfl) rfl ?_
  refine ex_go (S := (148, [(0, gx_r 7), (1, .inr (.inr (.inl none))), (2, gx_r 323)], [], t0, n, 0)) rfl (fun _ => rfl) rfl ?_
  refine ex_go (S := (149, [(0, gx_r 7), (1, .inr (.inr (.inl none))), (2, gx_r 323)], [.inr (.inr (.inl none))], t0, n, 0)) rfl (fun _ => rfl) rfl ?_
  refine ex_go (S := (152, [(0, gx_r 7), (1, .inr (.inr (.inl none))), (2, gx_r 323)], [gx_w 25, .inr (.inr (.inl none))], t0, n, 0)) rfl (fun _ => rfl) rfl ?_
  refine ex_go (S := (176, [(0, gx_r 7), (1, .inr (.inr (.inl none))), (2, gx_r 323)], [], t0, n, 0)) rfl (fun _ => rfl) rfl ?_
  refine ex_go (S := (177, [(0, gx_r 7), (1, .inr (.inr (.inl none))), (2, gx_r 323)], [gx_r 7], t0, n, 0)) rfl (fun _ => rfl) rfl ?_
  refine gxo_ref (a := 7) (c := 1) rfl s0.1 rfl rfl rfl rfl rfl ?_
  refine ex_go (S := (181, [(0, gx_r 7), (1, .inr (.inr (.inl none))), (2, gx_r 323)], [.inl 1, gx_r 1], t0, n, 0)) rfl (fun _ => rfl) rfl ?_
  obtain ⟨_, r101, t101, a101, f101, rfl, s101, e101, q101⟩ := pc_wrong (d + 2) n (s0) hT (by first | decide | omega) (w := 1) (by first | decide | omega)
  have b101 := s101.2.2.2
  refine gx_callo (a := 1) rfl rfl s0.1 rfl rfl rfl r101 rfl ?_
  have k2 : ai_hv t101 7 1 = some (gx_r 191) := (e101 7 1 (by first | decide | omega)).trans hP
  have k3 : ai_hv t101 191 0 = some (.inl (υ 0 0)) := (e101 191 0 (by first | decide | omega)).trans ko
  have k4 : ai_hv t101 191 1 = some (.inl (υ 1 0)) := (e101 191 1 (by first | decide | omega)).trans kd
  have k5 : ai_hv t101 323 5 = some (.inl c) := (e101 323 5 (by first | decide | omega)).trans kc
  have k6 : ai_hv t101 206 5 = some (.inl (υ 4 0)) := (e101 206 5 (by first | decide | omega)).trans kq5
  show en_ex _ _ _ _ (184, [(0, gx_r 7), (1, .inr (.inr (.inl none))), (2, gx_r 323)], [], t101, n, 0) _
  refine ex_ret (r := (none, t101, n, 0)) rfl (fun _ => rfl) ?_
  have hno : ∀ w, w = 1 ∨ w = 23 ∨ w = 24 ∨ w = 25 → ¬ sp_wd S m N a w := fun w hw z => hw2 w (by first | decide | omega) z
  have hT7 := cT_keep (t' := t101) hT (fun c i h => e101 c i (by first | decide | omega))
  refine ⟨_, rfl, t101, a101, f101, rfl, s101, hT7, (fun c' i h => e101 c' i (by first | decide | omega)), ⟨fx S m 1 a, Or.inr (Or.inr (Or.inr (Or.inr ⟨hno, rfl⟩))), ?_⟩, by omega, fun h0 => by omega⟩
  unfold fx
  rw [fs_no (by first | decide | omega)]; exact Prod.ext (by show a101 = a; omega) (by show f101 = 1 + 16 * sp_st S m a; omega)
theorem pc_weekLine191_323_1 (d n : Nat) {t0 : en_H} {a c w : Nat} {S S0 : Nat → Nat} {m N m0 N0 : Nat} {υ : Nat → Nat → Nat} (s0 : cS t0 a 0) (hT : cT t0 S m N) (ha : a < N) (hP : ai_hv t0 7 1 = some (gx_r 191)) (kq5 : ai_hv t0 206 5 = some (.inl (υ 4 0))) (hn : ∀ i, i < υ 4 0 → ai_hv t0 207 i = some (.inr (.inl (sp_wv S0 m0 (υ 21 i + 1))))) (h3 : W3 S0 m0 N0 υ) (hc : WC S0 m0 N0 υ) (ko : ai_hv t0 191 0 = some (.inl (υ 0 0))) (kd : ai_hv t0 191 1 = some (.inl (υ 1 0))) (kc : ai_hv t0 323 5 = some (.inl c)) (hcc : c ≤ 24) (hw : w < 42) (hw2 : sp_wd S m N a w) : ∃ r, en_u (d + 4) 194 [gx_r 7, gx_w w, gx_r 323] t0 n = some r ∧ ∃ t' a' f', r = (none, t', n, 0) ∧ cS t' a' f' ∧ cT t' S m N ∧ (∀ c' i, ¬ ((c' = 1 ∧ (i = 1 ∨ i = 8)) ∨ (c' = 323 ∧ i = 5) ∨ ((324 ≤ c' ∧ c' ≤ 328) ∧ i = c)) → ai_hv t' c' i = ai_hv t0 c' i) ∧ (∃ q, wl S m N (υ 0 0) (υ 1 0) c (tcr S0 m0 υ S m) a q ∧ (a', f') = fs S m N 59 q) ∧ (a' ≤ N ∧ (f' = 0 → a < a' ∧ c < 24)) ∧ (f' = 0 → ai_hv t' 323 5 = some (.inl (c + 1)) ∧ LCr S0 m0 υ S m N t' 323 c a) := by
  have b0 := s0.2.2.2
  have hN := hT.2.2.2.2.2.2.1
  have hBB := h3.1.1
  refine en_u_ex (d := d + 3) rfl ?_
  show en_ex _ _ _ _ (0, [(0, gx_r 7), (1, gx_w w), (2, gx_r 323)], [], t0, n, 0) _
  refine ex_go (S := (1, [(0, gx_r 7), (1, gx_w w), (2, gx_r 323)], [gx_w w], t0, n, 0)) rfl (fun _ => rfl) rfl ?_
  refine ex_go (S := (4, [(0, gx_r 7), (1, gx_w w), (2, gx_r 323)], [gx_w 1, gx_w w], t0, n, 0)) rfl (fun _ => rfl) rfl ?_
  by_cases hc1 : w = 1
  · refine gx_acnt rfl (by first | decide | omega) (by first | decide | omega) hc1 rfl ?_
    refine ex_go (S := (8, [(0, gx_r 7), (1, gx_w w), (2, gx_r 323)], [gx_r 7], t0, n, 0)) rfl (fun _ => rfl) rfl ?_
    refine ex_go (S := (9, [(0, gx_r 7), (1, gx_w w), (2, gx_r 323)], [gx_r 323, gx_r 7], t0, n, 0)) rfl (fun _ => rfl) rfl ?_
    obtain ⟨_, r102, t102, a102, f102, rfl, s102, e102, y102, q102⟩ := pc_startRow323 (d + 1) n (s0) hT ha kc (by first | decide | omega)
    have b102 := s102.2.2.2
    refine gx_callo (a := 7) rfl rfl s0.1 rfl rfl rfl r102 rfl ?_
    have k3 : ai_hv t102 7 1 = some (gx_r 191) := (e102 7 1 (by first | decide | omega)).trans hP
    have k4 : ai_hv t102 191 0 = some (.inl (υ 0 0)) := (e102 191 0 (by first | decide | omega)).trans ko
    have k5 : ai_hv t102 191 1 = some (.inl (υ 1 0)) := (e102 191 1 (by first | decide | omega)).trans kd
    have k6 : ai_hv t102 323 5 = some (.inl c) := (e102 323 5 (by first | decide | omega)).trans kc
    have k7 : ai_hv t102 206 5 = some (.inl (υ 4 0)) := (e102 206 5 (by first | decide | omega)).trans kq5
    show en_ex _ _ _ _ (12, [(0, gx_r 7), (1, gx_w w), (2, gx_r 323)], [], t102, n, 0) _
    refine ex_go (S := (13, [(0, gx_r 7), (1, gx_w w), (2, gx_r 323)], [gx_r 7], t102, n, 0)) rfl (fun _ => rfl) rfl ?_
    refine ex_go (S := (14, [(0, gx_r 7), (1, gx_w w), (2, gx_r 323)], [gx_r 323, gx_r 7], t102, n, 0)) rfl (fun _ => rfl) rfl ?_
    refine ex_go (S := (15, [(0, gx_r 7), (1, gx_w w), (2, gx_r 323)], [.inr (.inl 0), gx_r 323, gx_r 7], t102, n, 0)) rfl (fun _ => rfl) rfl ?_
    refine ex_go (S := (16, [(0, gx_r 7), (1, gx_w w), (2, gx_r 323)], [.inl 0, .inr (.inl 0), gx_r 323, gx_r 7], t102, n, 0)) rfl (fun _ => rfl) rfl ?_
    refine ex_go (S := (17, [(0, gx_r 7), (1, gx_w w), (2, gx_r 323)], [.inl 4294967295, .inl 0, .inr (.inl 0), gx_r 323, gx_r 7], t102, n, 0)) rfl (fun _ => rfl) rfl ?_
    refine ex_go (S := (18, [(0, gx_r 7), (1, gx_w w), (2, gx_r 323)], [gx_r 7, .inl 4294967295, .inl 0, .inr (.inl 0), gx_r 323, gx_r 7], t102, n, 0)) rfl (fun _ => rfl) rfl ?_
    refine gxo_ref (a := 7) (c := 1) rfl s102.1 rfl rfl rfl rfl rfl ?_
    refine ex_go (S := (22, [(0, gx_r 7), (1, gx_w w), (2, gx_r 323)], [.inl 1, gx_r 1, .inl 4294967295, .inl 0, .inr (.inl 0), gx_r 323, gx_r 7], t102, n, 0)) rfl (fun _ => rfl) rfl ?_
    refine ex_go (S := (24, [(0, gx_r 7), (1, gx_w w), (2, gx_r 323)], [.inl 30, .inl 1, gx_r 1, .inl 4294967295, .inl 0, .inr (.inl 0), gx_r 323, gx_r 7], t102, n, 0)) rfl (fun _ => rfl) rfl ?_
    have hT9 := cT_keep (t' := t102) hT (fun c i h => e102 c i (by first | decide | omega))
    obtain ⟨_, r108, v108, t108, a108, f108, rfl, s108, e108, z108, q108⟩ := pc_takeNumber (d + 1) n (s102) hT9 (by first | decide | omega) (lo := 1) (hi := 30) (by first | decide | omega) (by first | decide | omega) (by first | decide | omega)
    have b108 := s108.2.2.2
    have y108 := z108.trans (congrArg (fn S m N 1 30) y102)
    refine gx_callo (a := 1) rfl rfl s102.1 rfl rfl rfl r108 rfl ?_
    have k10 : ai_hv t108 7 1 = some (gx_r 191) := (e108 7 1 (by first | decide | omega)).trans k3
    have k11 : ai_hv t108 191 0 = some (.inl (υ 0 0)) := (e108 191 0 (by first | decide | omega)).trans k4
    have k12 : ai_hv t108 191 1 = some (.inl (υ 1 0)) := (e108 191 1 (by first | decide | omega)).trans k5
    have k13 : ai_hv t108 323 5 = some (.inl c) := (e108 323 5 (by first | decide | omega)).trans k6
    have k14 : ai_hv t108 206 5 = some (.inl (υ 4 0)) := (e108 206 5 (by first | decide | omega)).trans k7
    show en_ex _ _ _ _ (27, [(0, gx_r 7), (1, gx_w w), (2, gx_r 323)], [.inl v108, .inl 4294967295, .inl 0, .inr (.inl 0), gx_r 323, gx_r 7], t108, n, 0) _
    refine ex_go (S := (28, [(0, gx_r 7), (1, gx_w w), (2, gx_r 323)], [.inl 0, .inl v108, .inl 4294967295, .inl 0, .inr (.inl 0), gx_r 323, gx_r 7], t108, n, 0)) rfl (fun _ => rfl) rfl ?_
    have hT16 := cT_keep (t' := t108) hT (fun c i h => (e108 c i (by first | decide | omega)).trans (e102 c i (by first | decide | omega)))
    obtain ⟨_, r115, t115, a115, f115, rfl, s115, e115, z115, q115, u115⟩ := pc_endRow323 (d) n (s108) hT16 (by first | decide | omega) (x := 0) (y1 := 0) (y2 := 4294967295) (y3 := v108) (y4 := 0) k13 (fun h0 => ⟨by omega, ⟨_, rfl, by decide, by decide, by decide⟩⟩)
    have b115 := s115.2.2.2
    refine gx_callo (a := 7) rfl rfl s108.1 rfl rfl rfl r115 rfl ?_
    have k17 : ai_hv t115 7 1 = some (gx_r 191) := (e115 7 1 (by first | decide | omega)).trans k10
    have k18 : ai_hv t115 191 0 = some (.inl (υ 0 0)) := (e115 191 0 (by first | decide | omega)).trans k11
    have k19 : ai_hv t115 191 1 = some (.inl (υ 1 0)) := (e115 191 1 (by first | decide | omega)).trans k12
    have k20 : ai_hv t115 206 5 = some (.inl (υ 4 0)) := (e115 206 5 (by first | decide | omega)).trans k14
    show en_ex _ _ _ _ (31, [(0, gx_r 7), (1, gx_w w), (2, gx_r 323)], [], t115, n, 0) _
    refine ex_go (S := (184, [(0, gx_r 7), (1, gx_w w), (2, gx_r 323)], [], t115, n, 0)) rfl (fun _ => rfl) rfl ?_
    refine ex_ret (r := (none, t115, n, 0)) rfl (fun _ => rfl) ?_
    have hwd : sp_wd S m N a 1 := by rw [← hc1]; exact hw2
    have hT21 := cT_keep (t' := t115) hT (fun c i h => (e115 c i (by first | decide | omega)).trans ((e108 c i (by first | decide | omega)).trans (e102 c i (by first | decide | omega))))
    exact ⟨_, rfl, t115, a115, f115, rfl, s115, hT21, (fun c' i h => (e115 c' i (by first | decide | omega)).trans ((e108 c' i (by first | decide | omega)).trans (e102 c' i (by first | decide | omega)))), ⟨(a108, f108), Or.inl ⟨hwd, y108⟩, z115⟩, by omega, fun h0 => ⟨(u115 h0).1, Or.inl ⟨hwd, (u115 h0).2.2.1, (u115 h0).2.2.2.1, (u115 h0).2.2.2.2.1.trans (by rw [show v108 = sp_nv S m (a + 1) by rw [← show a102 = a + 1 by omega]; omega])⟩⟩⟩
  · refine gx_acnf rfl (by first | decide | omega) (by first | decide | omega) hc1 rfl ?_
    refine ex_go (S := (35, [(0, gx_r 7), (1, gx_w w), (2, gx_r 323)], [gx_w w], t0, n, 0)) rfl (fun _ => rfl) rfl ?_
    refine ex_go (S := (38, [(0, gx_r 7), (1, gx_w w), (2, gx_r 323)], [gx_w 23, gx_w w], t0, n, 0)) rfl (fun _ => rfl) rfl ?_
    by_cases hc22 : w = 23
    · refine gx_acnt rfl (by first | decide | omega) (by first | decide | omega) hc22 rfl ?_
      refine ex_go (S := (42, [(0, gx_r 7), (1, gx_w w), (2, gx_r 323)], [gx_r 7], t0, n, 0)) rfl (fun _ => rfl) rfl ?_
      refine ex_go (S := (43, [(0, gx_r 7), (1, gx_w w), (2, gx_r 323)], [gx_r 323, gx_r 7], t0, n, 0)) rfl (fun _ => rfl) rfl ?_
      obtain ⟨_, r123, t123, a123, f123, rfl, s123, e123, y123, q123⟩ := pc_startRow323 (d + 1) n (s0) hT ha kc (by first | decide | omega)
      have b123 := s123.2.2.2
      refine gx_callo (a := 7) rfl rfl s0.1 rfl rfl rfl r123 rfl ?_
      have k24 : ai_hv t123 7 1 = some (gx_r 191) := (e123 7 1 (by first | decide | omega)).trans hP
      have k25 : ai_hv t123 191 0 = some (.inl (υ 0 0)) := (e123 191 0 (by first | decide | omega)).trans ko
      have k26 : ai_hv t123 191 1 = some (.inl (υ 1 0)) := (e123 191 1 (by first | decide | omega)).trans kd
      have k27 : ai_hv t123 323 5 = some (.inl c) := (e123 323 5 (by first | decide | omega)).trans kc
      have k28 : ai_hv t123 206 5 = some (.inl (υ 4 0)) := (e123 206 5 (by first | decide | omega)).trans kq5
      show en_ex _ _ _ _ (46, [(0, gx_r 7), (1, gx_w w), (2, gx_r 323)], [], t123, n, 0) _
      refine ex_go (S := (47, [(0, gx_r 7), (1, gx_w w), (2, gx_r 323)], [gx_r 7], t123, n, 0)) rfl (fun _ => rfl) rfl ?_
      have hT30 := cT_keep (t' := t123) hT (fun c i h => e123 c i (by first | decide | omega))
      obtain ⟨_, r129, v129, t129, a129, f129, rfl, s129, e129, z129, q129, wc129⟩ := pc_crewHere191 (d) n (s123) hT30 (by first | decide | omega) k24 k28 (fun i hi => (e123 207 i (by first | decide | omega)).trans (hn i hi)) h3 hc
      have b129 := s129.2.2.2
      have y129 := z129.trans (congrArg (fk S m N (tcr S0 m0 υ S m)) y123)
      refine gx_callo (a := 7) rfl rfl s123.1 rfl rfl rfl r129 rfl ?_
      have k31 : ai_hv t129 7 1 = some (gx_r 191) := (e129 7 1 (by first | decide | omega)).trans k24
      have k32 : ai_hv t129 191 0 = some (.inl (υ 0 0)) := (e129 191 0 (by first | decide | omega)).trans k25
      have k33 : ai_hv t129 191 1 = some (.inl (υ 1 0)) := (e129 191 1 (by first | decide | omega)).trans k26
      have k34 : ai_hv t129 323 5 = some (.inl c) := (e129 323 5 (by first | decide | omega)).trans k27
      have k35 : ai_hv t129 206 5 = some (.inl (υ 4 0)) := (e129 206 5 (by first | decide | omega)).trans k28
      show en_ex _ _ _ _ (50, [(0, gx_r 7), (1, gx_w w), (2, gx_r 323)], [.inl v129], t129, n, 0) _
      refine ex_go (S := (51, [(3, .inl v129), (0, gx_r 7), (1, gx_w w), (2, gx_r 323)], [], t129, n, 0)) rfl (fun _ => rfl) rfl ?_
      refine ex_go (S := (52, [(3, .inl v129), (0, gx_r 7), (1, gx_w w), (2, gx_r 323)], [gx_r 7], t129, n, 0)) rfl (fun _ => rfl) rfl ?_
      refine gxo_ref (a := 7) (c := 1) rfl s129.1 rfl rfl rfl rfl rfl ?_
      refine ex_go (S := (56, [(3, .inl v129), (0, gx_r 7), (1, gx_w w), (2, gx_r 323)], [.inl 0, gx_r 1], t129, n, 0)) rfl (fun _ => rfl) rfl ?_
      refine ex_go (S := (57, [(3, .inl v129), (0, gx_r 7), (1, gx_w w), (2, gx_r 323)], [gx_r 7, .inl 0, gx_r 1], t129, n, 0)) rfl (fun _ => rfl) rfl ?_
      refine gxo_get (a := 7) rfl s129.1 rfl rfl k31 rfl ?_
      refine gxo_get (a := 191) rfl s129.1 rfl rfl k32 rfl ?_
      refine ex_go (S := (64, [(3, .inl v129), (0, gx_r 7), (1, gx_w w), (2, gx_r 323)], [.inl 1, .inl (υ 0 0), .inl 0, gx_r 1], t129, n, 0)) rfl (fun _ => rfl) rfl ?_
      refine gx_isub rfl (by first | decide | omega) (by first | decide | omega) rfl ?_
      have hT37 := cT_keep (t' := t129) hT (fun c i h => (e129 c i (by first | decide | omega)).trans (e123 c i (by first | decide | omega)))
      obtain ⟨_, r136, v136, t136, a136, f136, rfl, s136, e136, z136, q136⟩ := pc_takeNumber (d + 1) n (s129) hT37 (by first | decide | omega) (lo := 0) (hi := (υ 0 0) - 1) (by first | decide | omega) (by first | decide | omega) (by first | decide | omega)
      have b136 := s136.2.2.2
      have y136 := z136.trans (congrArg (fn S m N 0 ((υ 0 0) - 1)) y129)
      refine gx_callo (a := 1) rfl rfl s129.1 rfl rfl rfl r136 rfl ?_
      have k38 : ai_hv t136 7 1 = some (gx_r 191) := (e136 7 1 (by first | decide | omega)).trans k31
      have k39 : ai_hv t136 191 0 = some (.inl (υ 0 0)) := (e136 191 0 (by first | decide | omega)).trans k32
      have k40 : ai_hv t136 191 1 = some (.inl (υ 1 0)) := (e136 191 1 (by first | decide | omega)).trans k33
      have k41 : ai_hv t136 323 5 = some (.inl c) := (e136 323 5 (by first | decide | omega)).trans k34
      have k42 : ai_hv t136 206 5 = some (.inl (υ 4 0)) := (e136 206 5 (by first | decide | omega)).trans k35
      show en_ex _ _ _ _ (68, [(3, .inl v129), (0, gx_r 7), (1, gx_w w), (2, gx_r 323)], [.inl v136], t136, n, 0) _
      refine ex_go (S := (70, [(4, .inl v136), (3, .inl v129), (0, gx_r 7), (1, gx_w w), (2, gx_r 323)], [], t136, n, 0)) rfl (fun _ => rfl) rfl ?_
      refine ex_go (S := (71, [(4, .inl v136), (3, .inl v129), (0, gx_r 7), (1, gx_w w), (2, gx_r 323)], [gx_r 7], t136, n, 0)) rfl (fun _ => rfl) rfl ?_
      refine gxo_ref (a := 7) (c := 1) rfl s136.1 rfl rfl rfl rfl rfl ?_
      refine ex_go (S := (75, [(4, .inl v136), (3, .inl v129), (0, gx_r 7), (1, gx_w w), (2, gx_r 323)], [.inl 0, gx_r 1], t136, n, 0)) rfl (fun _ => rfl) rfl ?_
      refine ex_go (S := (76, [(4, .inl v136), (3, .inl v129), (0, gx_r 7), (1, gx_w w), (2, gx_r 323)], [gx_r 7, .inl 0, gx_r 1], t136, n, 0)) rfl (fun _ => rfl) rfl ?_
      refine gxo_get (a := 7) rfl s136.1 rfl rfl k38 rfl ?_
      refine gxo_get (a := 191) rfl s136.1 rfl rfl k40 rfl ?_
      refine ex_go (S := (83, [(4, .inl v136), (3, .inl v129), (0, gx_r 7), (1, gx_w w), (2, gx_r 323)], [.inl 1, .inl (υ 1 0), .inl 0, gx_r 1], t136, n, 0)) rfl (fun _ => rfl) rfl ?_
      refine gx_isub rfl (by first | decide | omega) (by first | decide | omega) rfl ?_
      have hT44 := cT_keep (t' := t136) hT (fun c i h => (e136 c i (by first | decide | omega)).trans ((e129 c i (by first | decide | omega)).trans (e123 c i (by first | decide | omega))))
      obtain ⟨_, r143, v143, t143, a143, f143, rfl, s143, e143, z143, q143⟩ := pc_takeNumber (d + 1) n (s136) hT44 (by first | decide | omega) (lo := 0) (hi := (υ 1 0) - 1) (by first | decide | omega) (by first | decide | omega) (by first | decide | omega)
      have b143 := s143.2.2.2
      have y143 := z143.trans (congrArg (fn S m N 0 ((υ 1 0) - 1)) y136)
      refine gx_callo (a := 1) rfl rfl s136.1 rfl rfl rfl r143 rfl ?_
      have k45 : ai_hv t143 7 1 = some (gx_r 191) := (e143 7 1 (by first | decide | omega)).trans k38
      have k46 : ai_hv t143 191 0 = some (.inl (υ 0 0)) := (e143 191 0 (by first | decide | omega)).trans k39
      have k47 : ai_hv t143 191 1 = some (.inl (υ 1 0)) := (e143 191 1 (by first | decide | omega)).trans k40
      have k48 : ai_hv t143 323 5 = some (.inl c) := (e143 323 5 (by first | decide | omega)).trans k41
      have k49 : ai_hv t143 206 5 = some (.inl (υ 4 0)) := (e143 206 5 (by first | decide | omega)).trans k42
      show en_ex _ _ _ _ (87, [(4, .inl v136), (3, .inl v129), (0, gx_r 7), (1, gx_w w), (2, gx_r 323)], [.inl v143], t143, n, 0) _
      refine ex_go (S := (89, [(5, .inl v143), (4, .inl v136), (3, .inl v129), (0, gx_r 7), (1, gx_w w), (2, gx_r 323)], [], t143, n, 0)) rfl (fun _ => rfl) rfl ?_
      refine ex_go (S := (90, [(5, .inl v143), (4, .inl v136), (3, .inl v129), (0, gx_r 7), (1, gx_w w), (2, gx_r 323)], [gx_r 7], t143, n, 0)) rfl (fun _ => rfl) rfl ?_
      refine ex_go (S := (91, [(5, .inl v143), (4, .inl v136), (3, .inl v129), (0, gx_r 7), (1, gx_w w), (2, gx_r 323)], [gx_r 323, gx_r 7], t143, n, 0)) rfl (fun _ => rfl) rfl ?_
      refine ex_go (S := (92, [(5, .inl v143), (4, .inl v136), (3, .inl v129), (0, gx_r 7), (1, gx_w w), (2, gx_r 323)], [.inr (.inl 0), gx_r 323, gx_r 7], t143, n, 0)) rfl (fun _ => rfl) rfl ?_
      refine ex_go (S := (93, [(5, .inl v143), (4, .inl v136), (3, .inl v129), (0, gx_r 7), (1, gx_w w), (2, gx_r 323)], [.inl 1, .inr (.inl 0), gx_r 323, gx_r 7], t143, n, 0)) rfl (fun _ => rfl) rfl ?_
      refine ex_go (S := (94, [(5, .inl v143), (4, .inl v136), (3, .inl v129), (0, gx_r 7), (1, gx_w w), (2, gx_r 323)], [.inl v129, .inl 1, .inr (.inl 0), gx_r 323, gx_r 7], t143, n, 0)) rfl (fun _ => rfl) rfl ?_
      refine ex_go (S := (96, [(5, .inl v143), (4, .inl v136), (3, .inl v129), (0, gx_r 7), (1, gx_w w), (2, gx_r 323)], [.inl v136, .inl v129, .inl 1, .inr (.inl 0), gx_r 323, gx_r 7], t143, n, 0)) rfl (fun _ => rfl) rfl ?_
      refine ex_go (S := (98, [(5, .inl v143), (4, .inl v136), (3, .inl v129), (0, gx_r 7), (1, gx_w w), (2, gx_r 323)], [.inl v143, .inl v136, .inl v129, .inl 1, .inr (.inl 0), gx_r 323, gx_r 7], t143, n, 0)) rfl (fun _ => rfl) rfl ?_
      obtain ⟨_, r50, rfl⟩ := pc_placeOf (d + 2) n (t0 := t143) (x := v136) (y := v143) (by first | decide | omega) (by first | decide | omega)
      refine ex_stat rfl rfl rfl rfl rfl r50 (Nat.le_refl _) rfl ?_
      show en_ex _ _ _ _ (101, [(5, .inl v143), (4, .inl v136), (3, .inl v129), (0, gx_r 7), (1, gx_w w), (2, gx_r 323)], [.inl (v136 + (8 * v143)), .inl v129, .inl 1, .inr (.inl 0), gx_r 323, gx_r 7], t143, n, 0) _
      refine ex_go (S := (102, [(5, .inl v143), (4, .inl v136), (3, .inl v129), (0, gx_r 7), (1, gx_w w), (2, gx_r 323)], [.inl 0, .inl (v136 + (8 * v143)), .inl v129, .inl 1, .inr (.inl 0), gx_r 323, gx_r 7], t143, n, 0)) rfl (fun _ => rfl) rfl ?_
      have hT52 := cT_keep (t' := t143) hT (fun c i h => (e143 c i (by first | decide | omega)).trans ((e136 c i (by first | decide | omega)).trans ((e129 c i (by first | decide | omega)).trans (e123 c i (by first | decide | omega)))))
      obtain ⟨_, r151, t151, a151, f151, rfl, s151, e151, z151, q151, u151⟩ := pc_endRow323 (d) n (s143) hT52 (by first | decide | omega) (x := 0) (y1 := 1) (y2 := v129) (y3 := v136 + (8 * v143)) (y4 := 0) k48 (fun h0 => ⟨by omega, (ai_in_h (by first | decide | omega) (by first | decide | omega) (by first | decide | omega))⟩)
      have b151 := s151.2.2.2
      refine gx_callo (a := 7) rfl rfl s143.1 rfl rfl rfl r151 rfl ?_
      have k53 : ai_hv t151 7 1 = some (gx_r 191) := (e151 7 1 (by first | decide | omega)).trans k45
      have k54 : ai_hv t151 191 0 = some (.inl (υ 0 0)) := (e151 191 0 (by first | decide | omega)).trans k46
      have k55 : ai_hv t151 191 1 = some (.inl (υ 1 0)) := (e151 191 1 (by first | decide | omega)).trans k47
      have k56 : ai_hv t151 206 5 = some (.inl (υ 4 0)) := (e151 206 5 (by first | decide | omega)).trans k49
      show en_ex _ _ _ _ (105, [(5, .inl v143), (4, .inl v136), (3, .inl v129), (0, gx_r 7), (1, gx_w w), (2, gx_r 323)], [], t151, n, 0) _
      refine ex_go (S := (184, [(5, .inl v143), (4, .inl v136), (3, .inl v129), (0, gx_r 7), (1, gx_w w), (2, gx_r 323)], [], t151, n, 0)) rfl (fun _ => rfl) rfl ?_
      refine ex_ret (r := (none, t151, n, 0)) rfl (fun _ => rfl) ?_
      have hcw : f151 = 0 → crw S0 m0 υ S m (a + 1) v129 := fun h9 => by
        have h8 := wc129 (by first | decide | omega)
        rw [show a123 = a + 1 by omega] at h8
        exact h8
      have hwd : sp_wd S m N a 23 := by rw [← hc22]; exact hw2
      have hT57 := cT_keep (t' := t151) hT (fun c i h => (e151 c i (by first | decide | omega)).trans ((e143 c i (by first | decide | omega)).trans ((e136 c i (by first | decide | omega)).trans ((e129 c i (by first | decide | omega)).trans (e123 c i (by first | decide | omega))))))
      exact ⟨_, rfl, t151, a151, f151, rfl, s151, hT57, (fun c' i h => (e151 c' i (by first | decide | omega)).trans ((e143 c' i (by first | decide | omega)).trans ((e136 c' i (by first | decide | omega)).trans ((e129 c' i (by first | decide | omega)).trans (e123 c' i (by first | decide | omega)))))), ⟨(a143, f143), Or.inr (Or.inl ⟨hwd, y143⟩), z151⟩, by omega, fun h0 => ⟨(u151 h0).1, Or.inr (Or.inl ⟨hwd, (u151 h0).2.2.1, ⟨v129, hcw (by first | decide | omega), (u151 h0).2.2.2.1⟩, (u151 h0).2.2.2.2.1.trans (by rw [show v136 = sp_nv S m (a + 2) by rw [← show a129 = a + 2 by omega]; omega, show v143 = sp_nv S m (a + 3) by rw [← show a136 = a + 3 by omega]; omega])⟩)⟩⟩
    · refine gx_acnf rfl (by first | decide | omega) (by first | decide | omega) hc22 rfl ?_
      refine ex_go (S := (109, [(0, gx_r 7), (1, gx_w w), (2, gx_r 323)], [gx_w w], t0, n, 0)) rfl (fun _ => rfl) rfl ?_
      refine ex_go (S := (112, [(0, gx_r 7), (1, gx_w w), (2, gx_r 323)], [gx_w 24, gx_w w], t0, n, 0)) rfl (fun _ => rfl) rfl ?_
      by_cases hc58 : w = 24
      · refine gx_acnt rfl (by first | decide | omega) (by first | decide | omega) hc58 rfl ?_
        refine ex_go (S := (116, [(0, gx_r 7), (1, gx_w w), (2, gx_r 323)], [gx_r 7], t0, n, 0)) rfl (fun _ => rfl) rfl ?_
        refine ex_go (S := (117, [(0, gx_r 7), (1, gx_w w), (2, gx_r 323)], [gx_r 323, gx_r 7], t0, n, 0)) rfl (fun _ => rfl) rfl ?_
        obtain ⟨_, r159, t159, a159, f159, rfl, s159, e159, y159, q159⟩ := pc_startRow323 (d + 1) n (s0) hT ha kc (by first | decide | omega)
        have b159 := s159.2.2.2
        refine gx_callo (a := 7) rfl rfl s0.1 rfl rfl rfl r159 rfl ?_
        have k60 : ai_hv t159 7 1 = some (gx_r 191) := (e159 7 1 (by first | decide | omega)).trans hP
        have k61 : ai_hv t159 191 0 = some (.inl (υ 0 0)) := (e159 191 0 (by first | decide | omega)).trans ko
        have k62 : ai_hv t159 191 1 = some (.inl (υ 1 0)) := (e159 191 1 (by first | decide | omega)).trans kd
        have k63 : ai_hv t159 323 5 = some (.inl c) := (e159 323 5 (by first | decide | omega)).trans kc
        have k64 : ai_hv t159 206 5 = some (.inl (υ 4 0)) := (e159 206 5 (by first | decide | omega)).trans kq5
        show en_ex _ _ _ _ (120, [(0, gx_r 7), (1, gx_w w), (2, gx_r 323)], [], t159, n, 0) _
        refine ex_go (S := (121, [(0, gx_r 7), (1, gx_w w), (2, gx_r 323)], [gx_r 7], t159, n, 0)) rfl (fun _ => rfl) rfl ?_
        have hT66 := cT_keep (t' := t159) hT (fun c i h => e159 c i (by first | decide | omega))
        obtain ⟨_, r165, v165, t165, a165, f165, rfl, s165, e165, z165, q165, wc165⟩ := pc_crewHere191 (d) n (s159) hT66 (by first | decide | omega) k60 k64 (fun i hi => (e159 207 i (by first | decide | omega)).trans (hn i hi)) h3 hc
        have b165 := s165.2.2.2
        have y165 := z165.trans (congrArg (fk S m N (tcr S0 m0 υ S m)) y159)
        refine gx_callo (a := 7) rfl rfl s159.1 rfl rfl rfl r165 rfl ?_
        have k67 : ai_hv t165 7 1 = some (gx_r 191) := (e165 7 1 (by first | decide | omega)).trans k60
        have k68 : ai_hv t165 191 0 = some (.inl (υ 0 0)) := (e165 191 0 (by first | decide | omega)).trans k61
        have k69 : ai_hv t165 191 1 = some (.inl (υ 1 0)) := (e165 191 1 (by first | decide | omega)).trans k62
        have k70 : ai_hv t165 323 5 = some (.inl c) := (e165 323 5 (by first | decide | omega)).trans k63
        have k71 : ai_hv t165 206 5 = some (.inl (υ 4 0)) := (e165 206 5 (by first | decide | omega)).trans k64
        show en_ex _ _ _ _ (124, [(0, gx_r 7), (1, gx_w w), (2, gx_r 323)], [.inl v165], t165, n, 0) _
        refine ex_go (S := (125, [(3, .inl v165), (0, gx_r 7), (1, gx_w w), (2, gx_r 323)], [], t165, n, 0)) rfl (fun _ => rfl) rfl ?_
        refine ex_go (S := (126, [(3, .inl v165), (0, gx_r 7), (1, gx_w w), (2, gx_r 323)], [gx_r 7], t165, n, 0)) rfl (fun _ => rfl) rfl ?_
        refine ex_go (S := (127, [(3, .inl v165), (0, gx_r 7), (1, gx_w w), (2, gx_r 323)], [gx_r 323, gx_r 7], t165, n, 0)) rfl (fun _ => rfl) rfl ?_
        refine ex_go (S := (128, [(3, .inl v165), (0, gx_r 7), (1, gx_w w), (2, gx_r 323)], [.inr (.inl 0), gx_r 323, gx_r 7], t165, n, 0)) rfl (fun _ => rfl) rfl ?_
        refine ex_go (S := (129, [(3, .inl v165), (0, gx_r 7), (1, gx_w w), (2, gx_r 323)], [.inl 2, .inr (.inl 0), gx_r 323, gx_r 7], t165, n, 0)) rfl (fun _ => rfl) rfl ?_
        refine ex_go (S := (130, [(3, .inl v165), (0, gx_r 7), (1, gx_w w), (2, gx_r 323)], [.inl v165, .inl 2, .inr (.inl 0), gx_r 323, gx_r 7], t165, n, 0)) rfl (fun _ => rfl) rfl ?_
        refine ex_go (S := (131, [(3, .inl v165), (0, gx_r 7), (1, gx_w w), (2, gx_r 323)], [gx_r 7, .inl v165, .inl 2, .inr (.inl 0), gx_r 323, gx_r 7], t165, n, 0)) rfl (fun _ => rfl) rfl ?_
        refine gxo_ref (a := 7) (c := 1) rfl s165.1 rfl rfl rfl rfl rfl ?_
        refine ex_go (S := (135, [(3, .inl v165), (0, gx_r 7), (1, gx_w w), (2, gx_r 323)], [.inl 1, gx_r 1, .inl v165, .inl 2, .inr (.inl 0), gx_r 323, gx_r 7], t165, n, 0)) rfl (fun _ => rfl) rfl ?_
        refine ex_go (S := (138, [(3, .inl v165), (0, gx_r 7), (1, gx_w w), (2, gx_r 323)], [.inl 999, .inl 1, gx_r 1, .inl v165, .inl 2, .inr (.inl 0), gx_r 323, gx_r 7], t165, n, 0)) rfl (fun _ => rfl) rfl ?_
        have hT73 := cT_keep (t' := t165) hT (fun c i h => (e165 c i (by first | decide | omega)).trans (e159 c i (by first | decide | omega)))
        obtain ⟨_, r172, v172, t172, a172, f172, rfl, s172, e172, z172, q172⟩ := pc_takeNumber (d + 1) n (s165) hT73 (by first | decide | omega) (lo := 1) (hi := 999) (by first | decide | omega) (by first | decide | omega) (by first | decide | omega)
        have b172 := s172.2.2.2
        have y172 := z172.trans (congrArg (fn S m N 1 999) y165)
        refine gx_callo (a := 1) rfl rfl s165.1 rfl rfl rfl r172 rfl ?_
        have k74 : ai_hv t172 7 1 = some (gx_r 191) := (e172 7 1 (by first | decide | omega)).trans k67
        have k75 : ai_hv t172 191 0 = some (.inl (υ 0 0)) := (e172 191 0 (by first | decide | omega)).trans k68
        have k76 : ai_hv t172 191 1 = some (.inl (υ 1 0)) := (e172 191 1 (by first | decide | omega)).trans k69
        have k77 : ai_hv t172 323 5 = some (.inl c) := (e172 323 5 (by first | decide | omega)).trans k70
        have k78 : ai_hv t172 206 5 = some (.inl (υ 4 0)) := (e172 206 5 (by first | decide | omega)).trans k71
        show en_ex _ _ _ _ (141, [(3, .inl v165), (0, gx_r 7), (1, gx_w w), (2, gx_r 323)], [.inl v172, .inl v165, .inl 2, .inr (.inl 0), gx_r 323, gx_r 7], t172, n, 0) _
        refine ex_go (S := (142, [(3, .inl v165), (0, gx_r 7), (1, gx_w w), (2, gx_r 323)], [.inl 0, .inl v172, .inl v165, .inl 2, .inr (.inl 0), gx_r 323, gx_r 7], t172, n, 0)) rfl (fun _ => rfl) rfl ?_
        have hT80 := cT_keep (t' := t172) hT (fun c i h => (e172 c i (by first | decide | omega)).trans ((e165 c i (by first | decide | omega)).trans (e159 c i (by first | decide | omega))))
        obtain ⟨_, r179, t179, a179, f179, rfl, s179, e179, z179, q179, u179⟩ := pc_endRow323 (d) n (s172) hT80 (by first | decide | omega) (x := 0) (y1 := 2) (y2 := v165) (y3 := v172) (y4 := 0) k77 (fun h0 => ⟨by omega, (ai_in_h (by first | decide | omega) (by first | decide | omega) (by first | decide | omega))⟩)
        have b179 := s179.2.2.2
        refine gx_callo (a := 7) rfl rfl s172.1 rfl rfl rfl r179 rfl ?_
        have k81 : ai_hv t179 7 1 = some (gx_r 191) := (e179 7 1 (by first | decide | omega)).trans k74
        have k82 : ai_hv t179 191 0 = some (.inl (υ 0 0)) := (e179 191 0 (by first | decide | omega)).trans k75
        have k83 : ai_hv t179 191 1 = some (.inl (υ 1 0)) := (e179 191 1 (by first | decide | omega)).trans k76
        have k84 : ai_hv t179 206 5 = some (.inl (υ 4 0)) := (e179 206 5 (by first | decide | omega)).trans k78
        show en_ex _ _ _ _ (145, [(3, .inl v165), (0, gx_r 7), (1, gx_w w), (2, gx_r 323)], [], t179, n, 0) _
        refine ex_go (S := (184, [(3, .inl v165), (0, gx_r 7), (1, gx_w w), (2, gx_r 323)], [], t179, n, 0)) rfl (fun _ => rfl) rfl ?_
        refine ex_ret (r := (none, t179, n, 0)) rfl (fun _ => rfl) ?_
        have hcw : f179 = 0 → crw S0 m0 υ S m (a + 1) v165 := fun h9 => by
          have h8 := wc165 (by first | decide | omega)
          rw [show a159 = a + 1 by omega] at h8
          exact h8
        have hwd : sp_wd S m N a 24 := by rw [← hc58]; exact hw2
        have hT85 := cT_keep (t' := t179) hT (fun c i h => (e179 c i (by first | decide | omega)).trans ((e172 c i (by first | decide | omega)).trans ((e165 c i (by first | decide | omega)).trans (e159 c i (by first | decide | omega)))))
        exact ⟨_, rfl, t179, a179, f179, rfl, s179, hT85, (fun c' i h => (e179 c' i (by first | decide | omega)).trans ((e172 c' i (by first | decide | omega)).trans ((e165 c' i (by first | decide | omega)).trans (e159 c' i (by first | decide | omega))))), ⟨(a172, f172), Or.inr (Or.inr (Or.inl ⟨hwd, y172⟩)), z179⟩, by omega, fun h0 => ⟨(u179 h0).1, Or.inr (Or.inr (Or.inl ⟨hwd, (u179 h0).2.2.1, ⟨v165, hcw (by first | decide | omega), (u179 h0).2.2.2.1⟩, (u179 h0).2.2.2.2.1.trans (by rw [show v172 = sp_nv S m (a + 2) by rw [← show a165 = a + 2 by omega]; omega])⟩))⟩⟩
      · refine gx_acnf rfl (by first | decide | omega) (by first | decide | omega) hc58 rfl ?_
        refine ex_go (S := (149, [(0, gx_r 7), (1, gx_w w), (2, gx_r 323)], [gx_w w], t0, n, 0)) rfl (fun _ => rfl) rfl ?_
        refine ex_go (S := (152, [(0, gx_r 7), (1, gx_w w), (2, gx_r 323)], [gx_w 25, gx_w w], t0, n, 0)) rfl (fun _ => rfl) rfl ?_
        by_cases hc86 : w = 25
        · refine gx_acnt rfl (by first | decide | omega) (by first | decide | omega) hc86 rfl ?_
          refine ex_go (S := (156, [(0, gx_r 7), (1, gx_w w), (2, gx_r 323)], [gx_r 7], t0, n, 0)) rfl (fun _ => rfl) rfl ?_
          refine ex_go (S := (157, [(0, gx_r 7), (1, gx_w w), (2, gx_r 323)], [gx_r 323, gx_r 7], t0, n, 0)) rfl (fun _ => rfl) rfl ?_
          obtain ⟨_, r187, t187, a187, f187, rfl, s187, e187, y187, q187⟩ := pc_startRow323 (d + 1) n (s0) hT ha kc (by first | decide | omega)
          have b187 := s187.2.2.2
          refine gx_callo (a := 7) rfl rfl s0.1 rfl rfl rfl r187 rfl ?_
          have k88 : ai_hv t187 7 1 = some (gx_r 191) := (e187 7 1 (by first | decide | omega)).trans hP
          have k89 : ai_hv t187 191 0 = some (.inl (υ 0 0)) := (e187 191 0 (by first | decide | omega)).trans ko
          have k90 : ai_hv t187 191 1 = some (.inl (υ 1 0)) := (e187 191 1 (by first | decide | omega)).trans kd
          have k91 : ai_hv t187 323 5 = some (.inl c) := (e187 323 5 (by first | decide | omega)).trans kc
          have k92 : ai_hv t187 206 5 = some (.inl (υ 4 0)) := (e187 206 5 (by first | decide | omega)).trans kq5
          show en_ex _ _ _ _ (160, [(0, gx_r 7), (1, gx_w w), (2, gx_r 323)], [], t187, n, 0) _
          refine ex_go (S := (161, [(0, gx_r 7), (1, gx_w w), (2, gx_r 323)], [gx_r 7], t187, n, 0)) rfl (fun _ => rfl) rfl ?_
          refine ex_go (S := (162, [(0, gx_r 7), (1, gx_w w), (2, gx_r 323)], [gx_r 323, gx_r 7], t187, n, 0)) rfl (fun _ => rfl) rfl ?_
          refine ex_go (S := (163, [(0, gx_r 7), (1, gx_w w), (2, gx_r 323)], [.inr (.inl 0), gx_r 323, gx_r 7], t187, n, 0)) rfl (fun _ => rfl) rfl ?_
          refine ex_go (S := (164, [(0, gx_r 7), (1, gx_w w), (2, gx_r 323)], [.inl 3, .inr (.inl 0), gx_r 323, gx_r 7], t187, n, 0)) rfl (fun _ => rfl) rfl ?_
          refine ex_go (S := (165, [(0, gx_r 7), (1, gx_w w), (2, gx_r 323)], [gx_r 7, .inl 3, .inr (.inl 0), gx_r 323, gx_r 7], t187, n, 0)) rfl (fun _ => rfl) rfl ?_
          have hT94 := cT_keep (t' := t187) hT (fun c i h => e187 c i (by first | decide | omega))
          obtain ⟨_, r193, v193, t193, a193, f193, rfl, s193, e193, z193, q193, wc193⟩ := pc_crewHere191 (d) n (s187) hT94 (by first | decide | omega) k88 k92 (fun i hi => (e187 207 i (by first | decide | omega)).trans (hn i hi)) h3 hc
          have b193 := s193.2.2.2
          have y193 := z193.trans (congrArg (fk S m N (tcr S0 m0 υ S m)) y187)
          refine gx_callo (a := 7) rfl rfl s187.1 rfl rfl rfl r193 rfl ?_
          have k95 : ai_hv t193 7 1 = some (gx_r 191) := (e193 7 1 (by first | decide | omega)).trans k88
          have k96 : ai_hv t193 191 0 = some (.inl (υ 0 0)) := (e193 191 0 (by first | decide | omega)).trans k89
          have k97 : ai_hv t193 191 1 = some (.inl (υ 1 0)) := (e193 191 1 (by first | decide | omega)).trans k90
          have k98 : ai_hv t193 323 5 = some (.inl c) := (e193 323 5 (by first | decide | omega)).trans k91
          have k99 : ai_hv t193 206 5 = some (.inl (υ 4 0)) := (e193 206 5 (by first | decide | omega)).trans k92
          show en_ex _ _ _ _ (168, [(0, gx_r 7), (1, gx_w w), (2, gx_r 323)], [.inl v193, .inl 3, .inr (.inl 0), gx_r 323, gx_r 7], t193, n, 0) _
          refine ex_go (S := (169, [(0, gx_r 7), (1, gx_w w), (2, gx_r 323)], [.inl 0, .inl v193, .inl 3, .inr (.inl 0), gx_r 323, gx_r 7], t193, n, 0)) rfl (fun _ => rfl) rfl ?_
          refine ex_go (S := (170, [(0, gx_r 7), (1, gx_w w), (2, gx_r 323)], [.inl 0, .inl 0, .inl v193, .inl 3, .inr (.inl 0), gx_r 323, gx_r 7], t193, n, 0)) rfl (fun _ => rfl) rfl ?_
          have hT101 := cT_keep (t' := t193) hT (fun c i h => (e193 c i (by first | decide | omega)).trans (e187 c i (by first | decide | omega)))
          obtain ⟨_, r200, t200, a200, f200, rfl, s200, e200, z200, q200, u200⟩ := pc_endRow323 (d) n (s193) hT101 (by first | decide | omega) (x := 0) (y1 := 3) (y2 := v193) (y3 := 0) (y4 := 0) k98 (fun h0 => ⟨by omega, (ai_in_h (by first | decide | omega) (by first | decide | omega) (by first | decide | omega))⟩)
          have b200 := s200.2.2.2
          refine gx_callo (a := 7) rfl rfl s193.1 rfl rfl rfl r200 rfl ?_
          have k102 : ai_hv t200 7 1 = some (gx_r 191) := (e200 7 1 (by first | decide | omega)).trans k95
          have k103 : ai_hv t200 191 0 = some (.inl (υ 0 0)) := (e200 191 0 (by first | decide | omega)).trans k96
          have k104 : ai_hv t200 191 1 = some (.inl (υ 1 0)) := (e200 191 1 (by first | decide | omega)).trans k97
          have k105 : ai_hv t200 206 5 = some (.inl (υ 4 0)) := (e200 206 5 (by first | decide | omega)).trans k99
          show en_ex _ _ _ _ (173, [(0, gx_r 7), (1, gx_w w), (2, gx_r 323)], [], t200, n, 0) _
          refine ex_go (S := (184, [(0, gx_r 7), (1, gx_w w), (2, gx_r 323)], [], t200, n, 0)) rfl (fun _ => rfl) rfl ?_
          refine ex_ret (r := (none, t200, n, 0)) rfl (fun _ => rfl) ?_
          have hcw : f200 = 0 → crw S0 m0 υ S m (a + 1) v193 := fun h9 => by
            have h8 := wc193 (by first | decide | omega)
            rw [show a187 = a + 1 by omega] at h8
            exact h8
          have hwd : sp_wd S m N a 25 := by rw [← hc86]; exact hw2
          have hT106 := cT_keep (t' := t200) hT (fun c i h => (e200 c i (by first | decide | omega)).trans ((e193 c i (by first | decide | omega)).trans (e187 c i (by first | decide | omega))))
          exact ⟨_, rfl, t200, a200, f200, rfl, s200, hT106, (fun c' i h => (e200 c' i (by first | decide | omega)).trans ((e193 c' i (by first | decide | omega)).trans (e187 c' i (by first | decide | omega)))), ⟨(a193, f193), Or.inr (Or.inr (Or.inr (Or.inl ⟨hwd, y193⟩))), z200⟩, by omega, fun h0 => ⟨(u200 h0).1, Or.inr (Or.inr (Or.inr ⟨hwd, (u200 h0).2.2.1, (u200 h0).2.2.2.2.1, v193, hcw (by first | decide | omega), (u200 h0).2.2.2.1⟩))⟩⟩
        · refine gx_acnf rfl (by first | decide | omega) (by first | decide | omega) hc86 rfl ?_
          refine ex_go (S := (177, [(0, gx_r 7), (1, gx_w w), (2, gx_r 323)], [gx_r 7], t0, n, 0)) rfl (fun _ => rfl) rfl ?_
          refine gxo_ref (a := 7) (c := 1) rfl s0.1 rfl rfl rfl rfl rfl ?_
          refine ex_go (S := (181, [(0, gx_r 7), (1, gx_w w), (2, gx_r 323)], [.inl 1, gx_r 1], t0, n, 0)) rfl (fun _ => rfl) rfl ?_
          obtain ⟨_, r207, t207, a207, f207, rfl, s207, e207, q207⟩ := pc_wrong (d + 2) n (s0) hT (by first | decide | omega) (w := 1) (by first | decide | omega)
          have b207 := s207.2.2.2
          refine gx_callo (a := 1) rfl rfl s0.1 rfl rfl rfl r207 rfl ?_
          have k108 : ai_hv t207 7 1 = some (gx_r 191) := (e207 7 1 (by first | decide | omega)).trans hP
          have k109 : ai_hv t207 191 0 = some (.inl (υ 0 0)) := (e207 191 0 (by first | decide | omega)).trans ko
          have k110 : ai_hv t207 191 1 = some (.inl (υ 1 0)) := (e207 191 1 (by first | decide | omega)).trans kd
          have k111 : ai_hv t207 323 5 = some (.inl c) := (e207 323 5 (by first | decide | omega)).trans kc
          have k112 : ai_hv t207 206 5 = some (.inl (υ 4 0)) := (e207 206 5 (by first | decide | omega)).trans kq5
          show en_ex _ _ _ _ (184, [(0, gx_r 7), (1, gx_w w), (2, gx_r 323)], [], t207, n, 0) _
          refine ex_ret (r := (none, t207, n, 0)) rfl (fun _ => rfl) ?_
          have hno : ∀ w, w = 1 ∨ w = 23 ∨ w = 24 ∨ w = 25 → ¬ sp_wd S m N a w := fun w' hw z => by
            have h9 := sp_wd_one (by first | decide | omega) (by first | decide | omega) hw2 z
            omega
          have hT113 := cT_keep (t' := t207) hT (fun c i h => e207 c i (by first | decide | omega))
          refine ⟨_, rfl, t207, a207, f207, rfl, s207, hT113, (fun c' i h => e207 c' i (by first | decide | omega)), ⟨fx S m 1 a, Or.inr (Or.inr (Or.inr (Or.inr ⟨hno, rfl⟩))), ?_⟩, by omega, fun h0 => by omega⟩
          unfold fx
          rw [fs_no (by first | decide | omega)]; exact Prod.ext (by show a207 = a; omega) (by show f207 = 1 + 16 * sp_st S m a; omega)
theorem pc_weekLine191_329_0 (d n : Nat) {t0 : en_H} {a c : Nat} {S S0 : Nat → Nat} {m N m0 N0 : Nat} {υ : Nat → Nat → Nat} (s0 : cS t0 a 0) (hT : cT t0 S m N) (ha : a < N) (hP : ai_hv t0 7 1 = some (gx_r 191)) (kq5 : ai_hv t0 206 5 = some (.inl (υ 4 0))) (hn : ∀ i, i < υ 4 0 → ai_hv t0 207 i = some (.inr (.inl (sp_wv S0 m0 (υ 21 i + 1))))) (h3 : W3 S0 m0 N0 υ) (hc : WC S0 m0 N0 υ) (ko : ai_hv t0 191 0 = some (.inl (υ 0 0))) (kd : ai_hv t0 191 1 = some (.inl (υ 1 0))) (kc : ai_hv t0 329 5 = some (.inl c)) (hcc : c ≤ 24) (hw2 : ∀ w, w < 42 → ¬ sp_wd S m N a w) : ∃ r, en_u (d + 4) 194 [gx_r 7, .inr (.inr (.inl none)), gx_r 329] t0 n = some r ∧ ∃ t' a' f', r = (none, t', n, 0) ∧ cS t' a' f' ∧ cT t' S m N ∧ (∀ c' i, ¬ ((c' = 1 ∧ (i = 1 ∨ i = 8)) ∨ (c' = 329 ∧ i = 5) ∨ ((330 ≤ c' ∧ c' ≤ 334) ∧ i = c)) → ai_hv t' c' i = ai_hv t0 c' i) ∧ (∃ q, wl S m N (υ 0 0) (υ 1 0) c (tcr S0 m0 υ S m) a q ∧ (a', f') = fs S m N 59 q) ∧ (a' ≤ N ∧ (f' = 0 → a < a' ∧ c < 24)) ∧ (f' = 0 → ai_hv t' 329 5 = some (.inl (c + 1)) ∧ LCr S0 m0 υ S m N t' 329 c a) := by
  have b0 := s0.2.2.2
  have hN := hT.2.2.2.2.2.2.1
  have hBB := h3.1.1
  refine en_u_ex (d := d + 3) rfl ?_
  show en_ex _ _ _ _ (0, [(0, gx_r 7), (1, .inr (.inr (.inl none))), (2, gx_r 329)], [], t0, n, 0) _
  refine ex_go (S := (1, [(0, gx_r 7), (1, .inr (.inr (.inl none))), (2, gx_r 329)], [.inr (.inr (.inl none))], t0, n, 0)) rfl (fun _ => rfl) rfl ?_
  refine ex_go (S := (4, [(0, gx_r 7), (1, .inr (.inr (.inl none))), (2, gx_r 329)], [gx_w 1, .inr (.inr (.inl none))], t0, n, 0)) rfl (fun _ => rfl) rfl ?_
  refine ex_go (S := (34, [(0, gx_r 7), (1, .inr (.inr (.inl none))), (2, gx_r 329)], [], t0, n, 0)) rfl (fun _ => rfl) rfl ?_
  refine ex_go (S := (35, [(0, gx_r 7), (1, .inr (.inr (.inl none))), (2, gx_r 329)], [.inr (.inr (.inl none))], t0, n, 0)) rfl (fun _ => rfl) rfl ?_
  refine ex_go (S := (38, [(0, gx_r 7), (1, .inr (.inr (.inl none))), (2, gx_r 329)], [gx_w 23, .inr (.inr (.inl none))], t0, n, 0)) rfl (fun _ => rfl) rfl ?_
  refine ex_go (S := (108, [(0, gx_r 7), (1, .inr (.inr (.inl none))), (2, gx_r 329)], [], t0, n, 0)) rfl (fun _ => rfl) rfl ?_
  refine ex_go (S := (109, [(0, gx_r 7), (1, .inr (.inr (.inl none))), (2, gx_r 329)], [.inr (.inr (.inl none))], t0, n, 0)) rfl (fun _ => rfl) rfl ?_
  refine ex_go (S := (112, [(0, gx_r 7), (1, .inr (.inr (.inl none))), (2, gx_r 329)], [gx_w 24, .inr (.inr (.inl none))], t0, n, 0)) rfl (fun _ => rfl) rfl ?_
  refine ex_go (S := (148, [(0, gx_r 7), (1, .inr (.inr (.inl none))), (2, gx_r 329)], [], t0, n, 0)) rfl (fun _ => rfl) rfl ?_
  refine ex_go (S := (149, [(0, gx_r 7), (1, .inr (.inr (.inl none))), (2, gx_r 329)], [.inr (.inr (.inl none))], t0, n, 0)) rfl (fun _ => rfl) rfl ?_
  refine ex_go (S := (152, [(0, gx_r 7), (1, .inr (.inr (.inl none))), (2, gx_r 329)], [gx_w 25, .inr (.inr (.inl none))], t0, n, 0)) rfl (fun _ => rfl) rfl ?_
  refine ex_go (S := (176, [(0, gx_r 7), (1, .inr (.inr (.inl none))), (2, gx_r 329)], [], t0, n, 0)) rfl (fun _ => rfl) rfl ?_
  refine ex_go (S := (177, [(0, gx_r 7), (1, .inr (.inr (.inl none))), (2, gx_r 329)], [gx_r 7], t0, n, 0)) rfl (fun _ => rfl) rfl ?_
  refine gxo_ref (a := 7) (c := 1) rfl s0.1 rfl rfl rfl rfl rfl ?_
  refine ex_go (S := (181, [(0, gx_r 7), (1, .inr (.inr (.inl none))), (2, gx_r 329)], [.inl 1, gx_r 1], t0, n, 0)) rfl (fun _ => rfl) rfl ?_
  obtain ⟨_, r101, t101, a101, f101, rfl, s101, e101, q101⟩ := pc_wrong (d + 2) n (s0) hT (by first | decide | omega) (w := 1) (by first | decide | omega)
  have b101 := s101.2.2.2
  refine gx_callo (a := 1) rfl rfl s0.1 rfl rfl rfl r101 rfl ?_
  have k2 : ai_hv t101 7 1 = some (gx_r 191) := (e101 7 1 (by first | decide | omega)).trans hP
  have k3 : ai_hv t101 191 0 = some (.inl (υ 0 0)) := (e101 191 0 (by first | decide | omega)).trans ko
  have k4 : ai_hv t101 191 1 = some (.inl (υ 1 0)) := (e101 191 1 (by first | decide | omega)).trans kd
  have k5 : ai_hv t101 329 5 = some (.inl c) := (e101 329 5 (by first | decide | omega)).trans kc
  have k6 : ai_hv t101 206 5 = some (.inl (υ 4 0)) := (e101 206 5 (by first | decide | omega)).trans kq5
  show en_ex _ _ _ _ (184, [(0, gx_r 7), (1, .inr (.inr (.inl none))), (2, gx_r 329)], [], t101, n, 0) _
  refine ex_ret (r := (none, t101, n, 0)) rfl (fun _ => rfl) ?_
  have hno : ∀ w, w = 1 ∨ w = 23 ∨ w = 24 ∨ w = 25 → ¬ sp_wd S m N a w := fun w hw z => hw2 w (by first | decide | omega) z
  have hT7 := cT_keep (t' := t101) hT (fun c i h => e101 c i (by first | decide | omega))
  refine ⟨_, rfl, t101, a101, f101, rfl, s101, hT7, (fun c' i h => e101 c' i (by first | decide | omega)), ⟨fx S m 1 a, Or.inr (Or.inr (Or.inr (Or.inr ⟨hno, rfl⟩))), ?_⟩, by omega, fun h0 => by omega⟩
  unfold fx
  rw [fs_no (by first | decide | omega)]; exact Prod.ext (by show a101 = a; omega) (by show f101 = 1 + 16 * sp_st S m a; omega)
theorem pc_weekLine191_329_1 (d n : Nat) {t0 : en_H} {a c w : Nat} {S S0 : Nat → Nat} {m N m0 N0 : Nat} {υ : Nat → Nat → Nat} (s0 : cS t0 a 0) (hT : cT t0 S m N) (ha : a < N) (hP : ai_hv t0 7 1 = some (gx_r 191)) (kq5 : ai_hv t0 206 5 = some (.inl (υ 4 0))) (hn : ∀ i, i < υ 4 0 → ai_hv t0 207 i = some (.inr (.inl (sp_wv S0 m0 (υ 21 i + 1))))) (h3 : W3 S0 m0 N0 υ) (hc : WC S0 m0 N0 υ) (ko : ai_hv t0 191 0 = some (.inl (υ 0 0))) (kd : ai_hv t0 191 1 = some (.inl (υ 1 0))) (kc : ai_hv t0 329 5 = some (.inl c)) (hcc : c ≤ 24) (hw : w < 42) (hw2 : sp_wd S m N a w) : ∃ r, en_u (d + 4) 194 [gx_r 7, gx_w w, gx_r 329] t0 n = some r ∧ ∃ t' a' f', r = (none, t', n, 0) ∧ cS t' a' f' ∧ cT t' S m N ∧ (∀ c' i, ¬ ((c' = 1 ∧ (i = 1 ∨ i = 8)) ∨ (c' = 329 ∧ i = 5) ∨ ((330 ≤ c' ∧ c' ≤ 334) ∧ i = c)) → ai_hv t' c' i = ai_hv t0 c' i) ∧ (∃ q, wl S m N (υ 0 0) (υ 1 0) c (tcr S0 m0 υ S m) a q ∧ (a', f') = fs S m N 59 q) ∧ (a' ≤ N ∧ (f' = 0 → a < a' ∧ c < 24)) ∧ (f' = 0 → ai_hv t' 329 5 = some (.inl (c + 1)) ∧ LCr S0 m0 υ S m N t' 329 c a) := by
  have b0 := s0.2.2.2
  have hN := hT.2.2.2.2.2.2.1
  have hBB := h3.1.1
  refine en_u_ex (d := d + 3) rfl ?_
  show en_ex _ _ _ _ (0, [(0, gx_r 7), (1, gx_w w), (2, gx_r 329)], [], t0, n, 0) _
  refine ex_go (S := (1, [(0, gx_r 7), (1, gx_w w), (2, gx_r 329)], [gx_w w], t0, n, 0)) rfl (fun _ => rfl) rfl ?_
  refine ex_go (S := (4, [(0, gx_r 7), (1, gx_w w), (2, gx_r 329)], [gx_w 1, gx_w w], t0, n, 0)) rfl (fun _ => rfl) rfl ?_
  by_cases hc1 : w = 1
  · refine gx_acnt rfl (by first | decide | omega) (by first | decide | omega) hc1 rfl ?_
    refine ex_go (S := (8, [(0, gx_r 7), (1, gx_w w), (2, gx_r 329)], [gx_r 7], t0, n, 0)) rfl (fun _ => rfl) rfl ?_
    refine ex_go (S := (9, [(0, gx_r 7), (1, gx_w w), (2, gx_r 329)], [gx_r 329, gx_r 7], t0, n, 0)) rfl (fun _ => rfl) rfl ?_
    obtain ⟨_, r102, t102, a102, f102, rfl, s102, e102, y102, q102⟩ := pc_startRow329 (d + 1) n (s0) hT ha kc (by first | decide | omega)
    have b102 := s102.2.2.2
    refine gx_callo (a := 7) rfl rfl s0.1 rfl rfl rfl r102 rfl ?_
    have k3 : ai_hv t102 7 1 = some (gx_r 191) := (e102 7 1 (by first | decide | omega)).trans hP
    have k4 : ai_hv t102 191 0 = some (.inl (υ 0 0)) := (e102 191 0 (by first | decide | omega)).trans ko
    have k5 : ai_hv t102 191 1 = some (.inl (υ 1 0)) := (e102 191 1 (by first | decide | omega)).trans kd
    have k6 : ai_hv t102 329 5 = some (.inl c) := (e102 329 5 (by first | decide | omega)).trans kc
    have k7 : ai_hv t102 206 5 = some (.inl (υ 4 0)) := (e102 206 5 (by first | decide | omega)).trans kq5
    show en_ex _ _ _ _ (12, [(0, gx_r 7), (1, gx_w w), (2, gx_r 329)], [], t102, n, 0) _
    refine ex_go (S := (13, [(0, gx_r 7), (1, gx_w w), (2, gx_r 329)], [gx_r 7], t102, n, 0)) rfl (fun _ => rfl) rfl ?_
    refine ex_go (S := (14, [(0, gx_r 7), (1, gx_w w), (2, gx_r 329)], [gx_r 329, gx_r 7], t102, n, 0)) rfl (fun _ => rfl) rfl ?_
    refine ex_go (S := (15, [(0, gx_r 7), (1, gx_w w), (2, gx_r 329)], [.inr (.inl 0), gx_r 329, gx_r 7], t102, n, 0)) rfl (fun _ => rfl) rfl ?_
    refine ex_go (S := (16, [(0, gx_r 7), (1, gx_w w), (2, gx_r 329)], [.inl 0, .inr (.inl 0), gx_r 329, gx_r 7], t102, n, 0)) rfl (fun _ => rfl) rfl ?_
    refine ex_go (S := (17, [(0, gx_r 7), (1, gx_w w), (2, gx_r 329)], [.inl 4294967295, .inl 0, .inr (.inl 0), gx_r 329, gx_r 7], t102, n, 0)) rfl (fun _ => rfl) rfl ?_
    refine ex_go (S := (18, [(0, gx_r 7), (1, gx_w w), (2, gx_r 329)], [gx_r 7, .inl 4294967295, .inl 0, .inr (.inl 0), gx_r 329, gx_r 7], t102, n, 0)) rfl (fun _ => rfl) rfl ?_
    refine gxo_ref (a := 7) (c := 1) rfl s102.1 rfl rfl rfl rfl rfl ?_
    refine ex_go (S := (22, [(0, gx_r 7), (1, gx_w w), (2, gx_r 329)], [.inl 1, gx_r 1, .inl 4294967295, .inl 0, .inr (.inl 0), gx_r 329, gx_r 7], t102, n, 0)) rfl (fun _ => rfl) rfl ?_
    refine ex_go (S := (24, [(0, gx_r 7), (1, gx_w w), (2, gx_r 329)], [.inl 30, .inl 1, gx_r 1, .inl 4294967295, .inl 0, .inr (.inl 0), gx_r 329, gx_r 7], t102, n, 0)) rfl (fun _ => rfl) rfl ?_
    have hT9 := cT_keep (t' := t102) hT (fun c i h => e102 c i (by first | decide | omega))
    obtain ⟨_, r108, v108, t108, a108, f108, rfl, s108, e108, z108, q108⟩ := pc_takeNumber (d + 1) n (s102) hT9 (by first | decide | omega) (lo := 1) (hi := 30) (by first | decide | omega) (by first | decide | omega) (by first | decide | omega)
    have b108 := s108.2.2.2
    have y108 := z108.trans (congrArg (fn S m N 1 30) y102)
    refine gx_callo (a := 1) rfl rfl s102.1 rfl rfl rfl r108 rfl ?_
    have k10 : ai_hv t108 7 1 = some (gx_r 191) := (e108 7 1 (by first | decide | omega)).trans k3
    have k11 : ai_hv t108 191 0 = some (.inl (υ 0 0)) := (e108 191 0 (by first | decide | omega)).trans k4
    have k12 : ai_hv t108 191 1 = some (.inl (υ 1 0)) := (e108 191 1 (by first | decide | omega)).trans k5
    have k13 : ai_hv t108 329 5 = some (.inl c) := (e108 329 5 (by first | decide | omega)).trans k6
    have k14 : ai_hv t108 206 5 = some (.inl (υ 4 0)) := (e108 206 5 (by first | decide | omega)).trans k7
    show en_ex _ _ _ _ (27, [(0, gx_r 7), (1, gx_w w), (2, gx_r 329)], [.inl v108, .inl 4294967295, .inl 0, .inr (.inl 0), gx_r 329, gx_r 7], t108, n, 0) _
    refine ex_go (S := (28, [(0, gx_r 7), (1, gx_w w), (2, gx_r 329)], [.inl 0, .inl v108, .inl 4294967295, .inl 0, .inr (.inl 0), gx_r 329, gx_r 7], t108, n, 0)) rfl (fun _ => rfl) rfl ?_
    have hT16 := cT_keep (t' := t108) hT (fun c i h => (e108 c i (by first | decide | omega)).trans (e102 c i (by first | decide | omega)))
    obtain ⟨_, r115, t115, a115, f115, rfl, s115, e115, z115, q115, u115⟩ := pc_endRow329 (d) n (s108) hT16 (by first | decide | omega) (x := 0) (y1 := 0) (y2 := 4294967295) (y3 := v108) (y4 := 0) k13 (fun h0 => ⟨by omega, ⟨_, rfl, by decide, by decide, by decide⟩⟩)
    have b115 := s115.2.2.2
    refine gx_callo (a := 7) rfl rfl s108.1 rfl rfl rfl r115 rfl ?_
    have k17 : ai_hv t115 7 1 = some (gx_r 191) := (e115 7 1 (by first | decide | omega)).trans k10
    have k18 : ai_hv t115 191 0 = some (.inl (υ 0 0)) := (e115 191 0 (by first | decide | omega)).trans k11
    have k19 : ai_hv t115 191 1 = some (.inl (υ 1 0)) := (e115 191 1 (by first | decide | omega)).trans k12
    have k20 : ai_hv t115 206 5 = some (.inl (υ 4 0)) := (e115 206 5 (by first | decide | omega)).trans k14
    show en_ex _ _ _ _ (31, [(0, gx_r 7), (1, gx_w w), (2, gx_r 329)], [], t115, n, 0) _
    refine ex_go (S := (184, [(0, gx_r 7), (1, gx_w w), (2, gx_r 329)], [], t115, n, 0)) rfl (fun _ => rfl) rfl ?_
    refine ex_ret (r := (none, t115, n, 0)) rfl (fun _ => rfl) ?_
    have hwd : sp_wd S m N a 1 := by rw [← hc1]; exact hw2
    have hT21 := cT_keep (t' := t115) hT (fun c i h => (e115 c i (by first | decide | omega)).trans ((e108 c i (by first | decide | omega)).trans (e102 c i (by first | decide | omega))))
    exact ⟨_, rfl, t115, a115, f115, rfl, s115, hT21, (fun c' i h => (e115 c' i (by first | decide | omega)).trans ((e108 c' i (by first | decide | omega)).trans (e102 c' i (by first | decide | omega)))), ⟨(a108, f108), Or.inl ⟨hwd, y108⟩, z115⟩, by omega, fun h0 => ⟨(u115 h0).1, Or.inl ⟨hwd, (u115 h0).2.2.1, (u115 h0).2.2.2.1, (u115 h0).2.2.2.2.1.trans (by rw [show v108 = sp_nv S m (a + 1) by rw [← show a102 = a + 1 by omega]; omega])⟩⟩⟩
  · refine gx_acnf rfl (by first | decide | omega) (by first | decide | omega) hc1 rfl ?_
    refine ex_go (S := (35, [(0, gx_r 7), (1, gx_w w), (2, gx_r 329)], [gx_w w], t0, n, 0)) rfl (fun _ => rfl) rfl ?_
    refine ex_go (S := (38, [(0, gx_r 7), (1, gx_w w), (2, gx_r 329)], [gx_w 23, gx_w w], t0, n, 0)) rfl (fun _ => rfl) rfl ?_
    by_cases hc22 : w = 23
    · refine gx_acnt rfl (by first | decide | omega) (by first | decide | omega) hc22 rfl ?_
      refine ex_go (S := (42, [(0, gx_r 7), (1, gx_w w), (2, gx_r 329)], [gx_r 7], t0, n, 0)) rfl (fun _ => rfl) rfl ?_
      refine ex_go (S := (43, [(0, gx_r 7), (1, gx_w w), (2, gx_r 329)], [gx_r 329, gx_r 7], t0, n, 0)) rfl (fun _ => rfl) rfl ?_
      obtain ⟨_, r123, t123, a123, f123, rfl, s123, e123, y123, q123⟩ := pc_startRow329 (d + 1) n (s0) hT ha kc (by first | decide | omega)
      have b123 := s123.2.2.2
      refine gx_callo (a := 7) rfl rfl s0.1 rfl rfl rfl r123 rfl ?_
      have k24 : ai_hv t123 7 1 = some (gx_r 191) := (e123 7 1 (by first | decide | omega)).trans hP
      have k25 : ai_hv t123 191 0 = some (.inl (υ 0 0)) := (e123 191 0 (by first | decide | omega)).trans ko
      have k26 : ai_hv t123 191 1 = some (.inl (υ 1 0)) := (e123 191 1 (by first | decide | omega)).trans kd
      have k27 : ai_hv t123 329 5 = some (.inl c) := (e123 329 5 (by first | decide | omega)).trans kc
      have k28 : ai_hv t123 206 5 = some (.inl (υ 4 0)) := (e123 206 5 (by first | decide | omega)).trans kq5
      show en_ex _ _ _ _ (46, [(0, gx_r 7), (1, gx_w w), (2, gx_r 329)], [], t123, n, 0) _
      refine ex_go (S := (47, [(0, gx_r 7), (1, gx_w w), (2, gx_r 329)], [gx_r 7], t123, n, 0)) rfl (fun _ => rfl) rfl ?_
      have hT30 := cT_keep (t' := t123) hT (fun c i h => e123 c i (by first | decide | omega))
      obtain ⟨_, r129, v129, t129, a129, f129, rfl, s129, e129, z129, q129, wc129⟩ := pc_crewHere191 (d) n (s123) hT30 (by first | decide | omega) k24 k28 (fun i hi => (e123 207 i (by first | decide | omega)).trans (hn i hi)) h3 hc
      have b129 := s129.2.2.2
      have y129 := z129.trans (congrArg (fk S m N (tcr S0 m0 υ S m)) y123)
      refine gx_callo (a := 7) rfl rfl s123.1 rfl rfl rfl r129 rfl ?_
      have k31 : ai_hv t129 7 1 = some (gx_r 191) := (e129 7 1 (by first | decide | omega)).trans k24
      have k32 : ai_hv t129 191 0 = some (.inl (υ 0 0)) := (e129 191 0 (by first | decide | omega)).trans k25
      have k33 : ai_hv t129 191 1 = some (.inl (υ 1 0)) := (e129 191 1 (by first | decide | omega)).trans k26
      have k34 : ai_hv t129 329 5 = some (.inl c) := (e129 329 5 (by first | decide | omega)).trans k27
      have k35 : ai_hv t129 206 5 = some (.inl (υ 4 0)) := (e129 206 5 (by first | decide | omega)).trans k28
      show en_ex _ _ _ _ (50, [(0, gx_r 7), (1, gx_w w), (2, gx_r 329)], [.inl v129], t129, n, 0) _
      refine ex_go (S := (51, [(3, .inl v129), (0, gx_r 7), (1, gx_w w), (2, gx_r 329)], [], t129, n, 0)) rfl (fun _ => rfl) rfl ?_
      refine ex_go (S := (52, [(3, .inl v129), (0, gx_r 7), (1, gx_w w), (2, gx_r 329)], [gx_r 7], t129, n, 0)) rfl (fun _ => rfl) rfl ?_
      refine gxo_ref (a := 7) (c := 1) rfl s129.1 rfl rfl rfl rfl rfl ?_
      refine ex_go (S := (56, [(3, .inl v129), (0, gx_r 7), (1, gx_w w), (2, gx_r 329)], [.inl 0, gx_r 1], t129, n, 0)) rfl (fun _ => rfl) rfl ?_
      refine ex_go (S := (57, [(3, .inl v129), (0, gx_r 7), (1, gx_w w), (2, gx_r 329)], [gx_r 7, .inl 0, gx_r 1], t129, n, 0)) rfl (fun _ => rfl) rfl ?_
      refine gxo_get (a := 7) rfl s129.1 rfl rfl k31 rfl ?_
      refine gxo_get (a := 191) rfl s129.1 rfl rfl k32 rfl ?_
      refine ex_go (S := (64, [(3, .inl v129), (0, gx_r 7), (1, gx_w w), (2, gx_r 329)], [.inl 1, .inl (υ 0 0), .inl 0, gx_r 1], t129, n, 0)) rfl (fun _ => rfl) rfl ?_
      refine gx_isub rfl (by first | decide | omega) (by first | decide | omega) rfl ?_
      have hT37 := cT_keep (t' := t129) hT (fun c i h => (e129 c i (by first | decide | omega)).trans (e123 c i (by first | decide | omega)))
      obtain ⟨_, r136, v136, t136, a136, f136, rfl, s136, e136, z136, q136⟩ := pc_takeNumber (d + 1) n (s129) hT37 (by first | decide | omega) (lo := 0) (hi := (υ 0 0) - 1) (by first | decide | omega) (by first | decide | omega) (by first | decide | omega)
      have b136 := s136.2.2.2
      have y136 := z136.trans (congrArg (fn S m N 0 ((υ 0 0) - 1)) y129)
      refine gx_callo (a := 1) rfl rfl s129.1 rfl rfl rfl r136 rfl ?_
      have k38 : ai_hv t136 7 1 = some (gx_r 191) := (e136 7 1 (by first | decide | omega)).trans k31
      have k39 : ai_hv t136 191 0 = some (.inl (υ 0 0)) := (e136 191 0 (by first | decide | omega)).trans k32
      have k40 : ai_hv t136 191 1 = some (.inl (υ 1 0)) := (e136 191 1 (by first | decide | omega)).trans k33
      have k41 : ai_hv t136 329 5 = some (.inl c) := (e136 329 5 (by first | decide | omega)).trans k34
      have k42 : ai_hv t136 206 5 = some (.inl (υ 4 0)) := (e136 206 5 (by first | decide | omega)).trans k35
      show en_ex _ _ _ _ (68, [(3, .inl v129), (0, gx_r 7), (1, gx_w w), (2, gx_r 329)], [.inl v136], t136, n, 0) _
      refine ex_go (S := (70, [(4, .inl v136), (3, .inl v129), (0, gx_r 7), (1, gx_w w), (2, gx_r 329)], [], t136, n, 0)) rfl (fun _ => rfl) rfl ?_
      refine ex_go (S := (71, [(4, .inl v136), (3, .inl v129), (0, gx_r 7), (1, gx_w w), (2, gx_r 329)], [gx_r 7], t136, n, 0)) rfl (fun _ => rfl) rfl ?_
      refine gxo_ref (a := 7) (c := 1) rfl s136.1 rfl rfl rfl rfl rfl ?_
      refine ex_go (S := (75, [(4, .inl v136), (3, .inl v129), (0, gx_r 7), (1, gx_w w), (2, gx_r 329)], [.inl 0, gx_r 1], t136, n, 0)) rfl (fun _ => rfl) rfl ?_
      refine ex_go (S := (76, [(4, .inl v136), (3, .inl v129), (0, gx_r 7), (1, gx_w w), (2, gx_r 329)], [gx_r 7, .inl 0, gx_r 1], t136, n, 0)) rfl (fun _ => rfl) rfl ?_
      refine gxo_get (a := 7) rfl s136.1 rfl rfl k38 rfl ?_
      refine gxo_get (a := 191) rfl s136.1 rfl rfl k40 rfl ?_
      refine ex_go (S := (83, [(4, .inl v136), (3, .inl v129), (0, gx_r 7), (1, gx_w w), (2, gx_r 329)], [.inl 1, .inl (υ 1 0), .inl 0, gx_r 1], t136, n, 0)) rfl (fun _ => rfl) rfl ?_
      refine gx_isub rfl (by first | decide | omega) (by first | decide | omega) rfl ?_
      have hT44 := cT_keep (t' := t136) hT (fun c i h => (e136 c i (by first | decide | omega)).trans ((e129 c i (by first | decide | omega)).trans (e123 c i (by first | decide | omega))))
      obtain ⟨_, r143, v143, t143, a143, f143, rfl, s143, e143, z143, q143⟩ := pc_takeNumber (d + 1) n (s136) hT44 (by first | decide | omega) (lo := 0) (hi := (υ 1 0) - 1) (by first | decide | omega) (by first | decide | omega) (by first | decide | omega)
      have b143 := s143.2.2.2
      have y143 := z143.trans (congrArg (fn S m N 0 ((υ 1 0) - 1)) y136)
      refine gx_callo (a := 1) rfl rfl s136.1 rfl rfl rfl r143 rfl ?_
      have k45 : ai_hv t143 7 1 = some (gx_r 191) := (e143 7 1 (by first | decide | omega)).trans k38
      have k46 : ai_hv t143 191 0 = some (.inl (υ 0 0)) := (e143 191 0 (by first | decide | omega)).trans k39
      have k47 : ai_hv t143 191 1 = some (.inl (υ 1 0)) := (e143 191 1 (by first | decide | omega)).trans k40
      have k48 : ai_hv t143 329 5 = some (.inl c) := (e143 329 5 (by first | decide | omega)).trans k41
      have k49 : ai_hv t143 206 5 = some (.inl (υ 4 0)) := (e143 206 5 (by first | decide | omega)).trans k42
      show en_ex _ _ _ _ (87, [(4, .inl v136), (3, .inl v129), (0, gx_r 7), (1, gx_w w), (2, gx_r 329)], [.inl v143], t143, n, 0) _
      refine ex_go (S := (89, [(5, .inl v143), (4, .inl v136), (3, .inl v129), (0, gx_r 7), (1, gx_w w), (2, gx_r 329)], [], t143, n, 0)) rfl (fun _ => rfl) rfl ?_
      refine ex_go (S := (90, [(5, .inl v143), (4, .inl v136), (3, .inl v129), (0, gx_r 7), (1, gx_w w), (2, gx_r 329)], [gx_r 7], t143, n, 0)) rfl (fun _ => rfl) rfl ?_
      refine ex_go (S := (91, [(5, .inl v143), (4, .inl v136), (3, .inl v129), (0, gx_r 7), (1, gx_w w), (2, gx_r 329)], [gx_r 329, gx_r 7], t143, n, 0)) rfl (fun _ => rfl) rfl ?_
      refine ex_go (S := (92, [(5, .inl v143), (4, .inl v136), (3, .inl v129), (0, gx_r 7), (1, gx_w w), (2, gx_r 329)], [.inr (.inl 0), gx_r 329, gx_r 7], t143, n, 0)) rfl (fun _ => rfl) rfl ?_
      refine ex_go (S := (93, [(5, .inl v143), (4, .inl v136), (3, .inl v129), (0, gx_r 7), (1, gx_w w), (2, gx_r 329)], [.inl 1, .inr (.inl 0), gx_r 329, gx_r 7], t143, n, 0)) rfl (fun _ => rfl) rfl ?_
      refine ex_go (S := (94, [(5, .inl v143), (4, .inl v136), (3, .inl v129), (0, gx_r 7), (1, gx_w w), (2, gx_r 329)], [.inl v129, .inl 1, .inr (.inl 0), gx_r 329, gx_r 7], t143, n, 0)) rfl (fun _ => rfl) rfl ?_
      refine ex_go (S := (96, [(5, .inl v143), (4, .inl v136), (3, .inl v129), (0, gx_r 7), (1, gx_w w), (2, gx_r 329)], [.inl v136, .inl v129, .inl 1, .inr (.inl 0), gx_r 329, gx_r 7], t143, n, 0)) rfl (fun _ => rfl) rfl ?_
      refine ex_go (S := (98, [(5, .inl v143), (4, .inl v136), (3, .inl v129), (0, gx_r 7), (1, gx_w w), (2, gx_r 329)], [.inl v143, .inl v136, .inl v129, .inl 1, .inr (.inl 0), gx_r 329, gx_r 7], t143, n, 0)) rfl (fun _ => rfl) rfl ?_
      obtain ⟨_, r50, rfl⟩ := pc_placeOf (d + 2) n (t0 := t143) (x := v136) (y := v143) (by first | decide | omega) (by first | decide | omega)
      refine ex_stat rfl rfl rfl rfl rfl r50 (Nat.le_refl _) rfl ?_
      show en_ex _ _ _ _ (101, [(5, .inl v143), (4, .inl v136), (3, .inl v129), (0, gx_r 7), (1, gx_w w), (2, gx_r 329)], [.inl (v136 + (8 * v143)), .inl v129, .inl 1, .inr (.inl 0), gx_r 329, gx_r 7], t143, n, 0) _
      refine ex_go (S := (102, [(5, .inl v143), (4, .inl v136), (3, .inl v129), (0, gx_r 7), (1, gx_w w), (2, gx_r 329)], [.inl 0, .inl (v136 + (8 * v143)), .inl v129, .inl 1, .inr (.inl 0), gx_r 329, gx_r 7], t143, n, 0)) rfl (fun _ => rfl) rfl ?_
      have hT52 := cT_keep (t' := t143) hT (fun c i h => (e143 c i (by first | decide | omega)).trans ((e136 c i (by first | decide | omega)).trans ((e129 c i (by first | decide | omega)).trans (e123 c i (by first | decide | omega)))))
      obtain ⟨_, r151, t151, a151, f151, rfl, s151, e151, z151, q151, u151⟩ := pc_endRow329 (d) n (s143) hT52 (by first | decide | omega) (x := 0) (y1 := 1) (y2 := v129) (y3 := v136 + (8 * v143)) (y4 := 0) k48 (fun h0 => ⟨by omega, (ai_in_h (by first | decide | omega) (by first | decide | omega) (by first | decide | omega))⟩)
      have b151 := s151.2.2.2
      refine gx_callo (a := 7) rfl rfl s143.1 rfl rfl rfl r151 rfl ?_
      have k53 : ai_hv t151 7 1 = some (gx_r 191) := (e151 7 1 (by first | decide | omega)).trans k45
      have k54 : ai_hv t151 191 0 = some (.inl (υ 0 0)) := (e151 191 0 (by first | decide | omega)).trans k46
      have k55 : ai_hv t151 191 1 = some (.inl (υ 1 0)) := (e151 191 1 (by first | decide | omega)).trans k47
      have k56 : ai_hv t151 206 5 = some (.inl (υ 4 0)) := (e151 206 5 (by first | decide | omega)).trans k49
      show en_ex _ _ _ _ (105, [(5, .inl v143), (4, .inl v136), (3, .inl v129), (0, gx_r 7), (1, gx_w w), (2, gx_r 329)], [], t151, n, 0) _
      refine ex_go (S := (184, [(5, .inl v143), (4, .inl v136), (3, .inl v129), (0, gx_r 7), (1, gx_w w), (2, gx_r 329)], [], t151, n, 0)) rfl (fun _ => rfl) rfl ?_
      refine ex_ret (r := (none, t151, n, 0)) rfl (fun _ => rfl) ?_
      have hcw : f151 = 0 → crw S0 m0 υ S m (a + 1) v129 := fun h9 => by
        have h8 := wc129 (by first | decide | omega)
        rw [show a123 = a + 1 by omega] at h8
        exact h8
      have hwd : sp_wd S m N a 23 := by rw [← hc22]; exact hw2
      have hT57 := cT_keep (t' := t151) hT (fun c i h => (e151 c i (by first | decide | omega)).trans ((e143 c i (by first | decide | omega)).trans ((e136 c i (by first | decide | omega)).trans ((e129 c i (by first | decide | omega)).trans (e123 c i (by first | decide | omega))))))
      exact ⟨_, rfl, t151, a151, f151, rfl, s151, hT57, (fun c' i h => (e151 c' i (by first | decide | omega)).trans ((e143 c' i (by first | decide | omega)).trans ((e136 c' i (by first | decide | omega)).trans ((e129 c' i (by first | decide | omega)).trans (e123 c' i (by first | decide | omega)))))), ⟨(a143, f143), Or.inr (Or.inl ⟨hwd, y143⟩), z151⟩, by omega, fun h0 => ⟨(u151 h0).1, Or.inr (Or.inl ⟨hwd, (u151 h0).2.2.1, ⟨v129, hcw (by first | decide | omega), (u151 h0).2.2.2.1⟩, (u151 h0).2.2.2.2.1.trans (by rw [show v136 = sp_nv S m (a + 2) by rw [← show a129 = a + 2 by omega]; omega, show v143 = sp_nv S m (a + 3) by rw [← show a136 = a + 3 by omega]; omega])⟩)⟩⟩
    · refine gx_acnf rfl (by first | decide | omega) (by first | decide | omega) hc22 rfl ?_
      refine ex_go (S := (109, [(0, gx_r 7), (1, gx_w w), (2, gx_r 329)], [gx_w w], t0, n, 0)) rfl (fun _ => rfl) rfl ?_
      refine ex_go (S := (112, [(0, gx_r 7), (1, gx_w w), (2, gx_r 329)], [gx_w 24, gx_w w], t0, n, 0)) rfl (fun _ => rfl) rfl ?_
      by_cases hc58 : w = 24
      · refine gx_acnt rfl (by first | decide | omega) (by first | decide | omega) hc58 rfl ?_
        refine ex_go (S := (116, [(0, gx_r 7), (1, gx_w w), (2, gx_r 329)], [gx_r 7], t0, n, 0)) rfl (fun _ => rfl) rfl ?_
        refine ex_go (S := (117, [(0, gx_r 7), (1, gx_w w), (2, gx_r 329)], [gx_r 329, gx_r 7], t0, n, 0)) rfl (fun _ => rfl) rfl ?_
        obtain ⟨_, r159, t159, a159, f159, rfl, s159, e159, y159, q159⟩ := pc_startRow329 (d + 1) n (s0) hT ha kc (by first | decide | omega)
        have b159 := s159.2.2.2
        refine gx_callo (a := 7) rfl rfl s0.1 rfl rfl rfl r159 rfl ?_
        have k60 : ai_hv t159 7 1 = some (gx_r 191) := (e159 7 1 (by first | decide | omega)).trans hP
        have k61 : ai_hv t159 191 0 = some (.inl (υ 0 0)) := (e159 191 0 (by first | decide | omega)).trans ko
        have k62 : ai_hv t159 191 1 = some (.inl (υ 1 0)) := (e159 191 1 (by first | decide | omega)).trans kd
        have k63 : ai_hv t159 329 5 = some (.inl c) := (e159 329 5 (by first | decide | omega)).trans kc
        have k64 : ai_hv t159 206 5 = some (.inl (υ 4 0)) := (e159 206 5 (by first | decide | omega)).trans kq5
        show en_ex _ _ _ _ (120, [(0, gx_r 7), (1, gx_w w), (2, gx_r 329)], [], t159, n, 0) _
        refine ex_go (S := (121, [(0, gx_r 7), (1, gx_w w), (2, gx_r 329)], [gx_r 7], t159, n, 0)) rfl (fun _ => rfl) rfl ?_
        have hT66 := cT_keep (t' := t159) hT (fun c i h => e159 c i (by first | decide | omega))
        obtain ⟨_, r165, v165, t165, a165, f165, rfl, s165, e165, z165, q165, wc165⟩ := pc_crewHere191 (d) n (s159) hT66 (by first | decide | omega) k60 k64 (fun i hi => (e159 207 i (by first | decide | omega)).trans (hn i hi)) h3 hc
        have b165 := s165.2.2.2
        have y165 := z165.trans (congrArg (fk S m N (tcr S0 m0 υ S m)) y159)
        refine gx_callo (a := 7) rfl rfl s159.1 rfl rfl rfl r165 rfl ?_
        have k67 : ai_hv t165 7 1 = some (gx_r 191) := (e165 7 1 (by first | decide | omega)).trans k60
        have k68 : ai_hv t165 191 0 = some (.inl (υ 0 0)) := (e165 191 0 (by first | decide | omega)).trans k61
        have k69 : ai_hv t165 191 1 = some (.inl (υ 1 0)) := (e165 191 1 (by first | decide | omega)).trans k62
        have k70 : ai_hv t165 329 5 = some (.inl c) := (e165 329 5 (by first | decide | omega)).trans k63
        have k71 : ai_hv t165 206 5 = some (.inl (υ 4 0)) := (e165 206 5 (by first | decide | omega)).trans k64
        show en_ex _ _ _ _ (124, [(0, gx_r 7), (1, gx_w w), (2, gx_r 329)], [.inl v165], t165, n, 0) _
        refine ex_go (S := (125, [(3, .inl v165), (0, gx_r 7), (1, gx_w w), (2, gx_r 329)], [], t165, n, 0)) rfl (fun _ => rfl) rfl ?_
        refine ex_go (S := (126, [(3, .inl v165), (0, gx_r 7), (1, gx_w w), (2, gx_r 329)], [gx_r 7], t165, n, 0)) rfl (fun _ => rfl) rfl ?_
        refine ex_go (S := (127, [(3, .inl v165), (0, gx_r 7), (1, gx_w w), (2, gx_r 329)], [gx_r 329, gx_r 7], t165, n, 0)) rfl (fun _ => rfl) rfl ?_
        refine ex_go (S := (128, [(3, .inl v165), (0, gx_r 7), (1, gx_w w), (2, gx_r 329)], [.inr (.inl 0), gx_r 329, gx_r 7], t165, n, 0)) rfl (fun _ => rfl) rfl ?_
        refine ex_go (S := (129, [(3, .inl v165), (0, gx_r 7), (1, gx_w w), (2, gx_r 329)], [.inl 2, .inr (.inl 0), gx_r 329, gx_r 7], t165, n, 0)) rfl (fun _ => rfl) rfl ?_
        refine ex_go (S := (130, [(3, .inl v165), (0, gx_r 7), (1, gx_w w), (2, gx_r 329)], [.inl v165, .inl 2, .inr (.inl 0), gx_r 329, gx_r 7], t165, n, 0)) rfl (fun _ => rfl) rfl ?_
        refine ex_go (S := (131, [(3, .inl v165), (0, gx_r 7), (1, gx_w w), (2, gx_r 329)], [gx_r 7, .inl v165, .inl 2, .inr (.inl 0), gx_r 329, gx_r 7], t165, n, 0)) rfl (fun _ => rfl) rfl ?_
        refine gxo_ref (a := 7) (c := 1) rfl s165.1 rfl rfl rfl rfl rfl ?_
        refine ex_go (S := (135, [(3, .inl v165), (0, gx_r 7), (1, gx_w w), (2, gx_r 329)], [.inl 1, gx_r 1, .inl v165, .inl 2, .inr (.inl 0), gx_r 329, gx_r 7], t165, n, 0)) rfl (fun _ => rfl) rfl ?_
        refine ex_go (S := (138, [(3, .inl v165), (0, gx_r 7), (1, gx_w w), (2, gx_r 329)], [.inl 999, .inl 1, gx_r 1, .inl v165, .inl 2, .inr (.inl 0), gx_r 329, gx_r 7], t165, n, 0)) rfl (fun _ => rfl) rfl ?_
        have hT73 := cT_keep (t' := t165) hT (fun c i h => (e165 c i (by first | decide | omega)).trans (e159 c i (by first | decide | omega)))
        obtain ⟨_, r172, v172, t172, a172, f172, rfl, s172, e172, z172, q172⟩ := pc_takeNumber (d + 1) n (s165) hT73 (by first | decide | omega) (lo := 1) (hi := 999) (by first | decide | omega) (by first | decide | omega) (by first | decide | omega)
        have b172 := s172.2.2.2
        have y172 := z172.trans (congrArg (fn S m N 1 999) y165)
        refine gx_callo (a := 1) rfl rfl s165.1 rfl rfl rfl r172 rfl ?_
        have k74 : ai_hv t172 7 1 = some (gx_r 191) := (e172 7 1 (by first | decide | omega)).trans k67
        have k75 : ai_hv t172 191 0 = some (.inl (υ 0 0)) := (e172 191 0 (by first | decide | omega)).trans k68
        have k76 : ai_hv t172 191 1 = some (.inl (υ 1 0)) := (e172 191 1 (by first | decide | omega)).trans k69
        have k77 : ai_hv t172 329 5 = some (.inl c) := (e172 329 5 (by first | decide | omega)).trans k70
        have k78 : ai_hv t172 206 5 = some (.inl (υ 4 0)) := (e172 206 5 (by first | decide | omega)).trans k71
        show en_ex _ _ _ _ (141, [(3, .inl v165), (0, gx_r 7), (1, gx_w w), (2, gx_r 329)], [.inl v172, .inl v165, .inl 2, .inr (.inl 0), gx_r 329, gx_r 7], t172, n, 0) _
        refine ex_go (S := (142, [(3, .inl v165), (0, gx_r 7), (1, gx_w w), (2, gx_r 329)], [.inl 0, .inl v172, .inl v165, .inl 2, .inr (.inl 0), gx_r 329, gx_r 7], t172, n, 0)) rfl (fun _ => rfl) rfl ?_
        have hT80 := cT_keep (t' := t172) hT (fun c i h => (e172 c i (by first | decide | omega)).trans ((e165 c i (by first | decide | omega)).trans (e159 c i (by first | decide | omega))))
        obtain ⟨_, r179, t179, a179, f179, rfl, s179, e179, z179, q179, u179⟩ := pc_endRow329 (d) n (s172) hT80 (by first | decide | omega) (x := 0) (y1 := 2) (y2 := v165) (y3 := v172) (y4 := 0) k77 (fun h0 => ⟨by omega, (ai_in_h (by first | decide | omega) (by first | decide | omega) (by first | decide | omega))⟩)
        have b179 := s179.2.2.2
        refine gx_callo (a := 7) rfl rfl s172.1 rfl rfl rfl r179 rfl ?_
        have k81 : ai_hv t179 7 1 = some (gx_r 191) := (e179 7 1 (by first | decide | omega)).trans k74
        have k82 : ai_hv t179 191 0 = some (.inl (υ 0 0)) := (e179 191 0 (by first | decide | omega)).trans k75
        have k83 : ai_hv t179 191 1 = some (.inl (υ 1 0)) := (e179 191 1 (by first | decide | omega)).trans k76
        have k84 : ai_hv t179 206 5 = some (.inl (υ 4 0)) := (e179 206 5 (by first | decide | omega)).trans k78
        show en_ex _ _ _ _ (145, [(3, .inl v165), (0, gx_r 7), (1, gx_w w), (2, gx_r 329)], [], t179, n, 0) _
        refine ex_go (S := (184, [(3, .inl v165), (0, gx_r 7), (1, gx_w w), (2, gx_r 329)], [], t179, n, 0)) rfl (fun _ => rfl) rfl ?_
        refine ex_ret (r := (none, t179, n, 0)) rfl (fun _ => rfl) ?_
        have hcw : f179 = 0 → crw S0 m0 υ S m (a + 1) v165 := fun h9 => by
          have h8 := wc165 (by first | decide | omega)
          rw [show a159 = a + 1 by omega] at h8
          exact h8
        have hwd : sp_wd S m N a 24 := by rw [← hc58]; exact hw2
        have hT85 := cT_keep (t' := t179) hT (fun c i h => (e179 c i (by first | decide | omega)).trans ((e172 c i (by first | decide | omega)).trans ((e165 c i (by first | decide | omega)).trans (e159 c i (by first | decide | omega)))))
        exact ⟨_, rfl, t179, a179, f179, rfl, s179, hT85, (fun c' i h => (e179 c' i (by first | decide | omega)).trans ((e172 c' i (by first | decide | omega)).trans ((e165 c' i (by first | decide | omega)).trans (e159 c' i (by first | decide | omega))))), ⟨(a172, f172), Or.inr (Or.inr (Or.inl ⟨hwd, y172⟩)), z179⟩, by omega, fun h0 => ⟨(u179 h0).1, Or.inr (Or.inr (Or.inl ⟨hwd, (u179 h0).2.2.1, ⟨v165, hcw (by first | decide | omega), (u179 h0).2.2.2.1⟩, (u179 h0).2.2.2.2.1.trans (by rw [show v172 = sp_nv S m (a + 2) by rw [← show a165 = a + 2 by omega]; omega])⟩))⟩⟩
      · refine gx_acnf rfl (by first | decide | omega) (by first | decide | omega) hc58 rfl ?_
        refine ex_go (S := (149, [(0, gx_r 7), (1, gx_w w), (2, gx_r 329)], [gx_w w], t0, n, 0)) rfl (fun _ => rfl) rfl ?_
        refine ex_go (S := (152, [(0, gx_r 7), (1, gx_w w), (2, gx_r 329)], [gx_w 25, gx_w w], t0, n, 0)) rfl (fun _ => rfl) rfl ?_
        by_cases hc86 : w = 25
        · refine gx_acnt rfl (by first | decide | omega) (by first | decide | omega) hc86 rfl ?_
          refine ex_go (S := (156, [(0, gx_r 7), (1, gx_w w), (2, gx_r 329)], [gx_r 7], t0, n, 0)) rfl (fun _ => rfl) rfl ?_
          refine ex_go (S := (157, [(0, gx_r 7), (1, gx_w w), (2, gx_r 329)], [gx_r 329, gx_r 7], t0, n, 0)) rfl (fun _ => rfl) rfl ?_
          obtain ⟨_, r187, t187, a187, f187, rfl, s187, e187, y187, q187⟩ := pc_startRow329 (d + 1) n (s0) hT ha kc (by first | decide | omega)
          have b187 := s187.2.2.2
          refine gx_callo (a := 7) rfl rfl s0.1 rfl rfl rfl r187 rfl ?_
          have k88 : ai_hv t187 7 1 = some (gx_r 191) := (e187 7 1 (by first | decide | omega)).trans hP
          have k89 : ai_hv t187 191 0 = some (.inl (υ 0 0)) := (e187 191 0 (by first | decide | omega)).trans ko
          have k90 : ai_hv t187 191 1 = some (.inl (υ 1 0)) := (e187 191 1 (by first | decide | omega)).trans kd
          have k91 : ai_hv t187 329 5 = some (.inl c) := (e187 329 5 (by first | decide | omega)).trans kc
          have k92 : ai_hv t187 206 5 = some (.inl (υ 4 0)) := (e187 206 5 (by first | decide | omega)).trans kq5
          show en_ex _ _ _ _ (160, [(0, gx_r 7), (1, gx_w w), (2, gx_r 329)], [], t187, n, 0) _
          refine ex_go (S := (161, [(0, gx_r 7), (1, gx_w w), (2, gx_r 329)], [gx_r 7], t187, n, 0)) rfl (fun _ => rfl) rfl ?_
          refine ex_go (S := (162, [(0, gx_r 7), (1, gx_w w), (2, gx_r 329)], [gx_r 329, gx_r 7], t187, n, 0)) rfl (fun _ => rfl) rfl ?_
          refine ex_go (S := (163, [(0, gx_r 7), (1, gx_w w), (2, gx_r 329)], [.inr (.inl 0), gx_r 329, gx_r 7], t187, n, 0)) rfl (fun _ => rfl) rfl ?_
          refine ex_go (S := (164, [(0, gx_r 7), (1, gx_w w), (2, gx_r 329)], [.inl 3, .inr (.inl 0), gx_r 329, gx_r 7], t187, n, 0)) rfl (fun _ => rfl) rfl ?_
          refine ex_go (S := (165, [(0, gx_r 7), (1, gx_w w), (2, gx_r 329)], [gx_r 7, .inl 3, .inr (.inl 0), gx_r 329, gx_r 7], t187, n, 0)) rfl (fun _ => rfl) rfl ?_
          have hT94 := cT_keep (t' := t187) hT (fun c i h => e187 c i (by first | decide | omega))
          obtain ⟨_, r193, v193, t193, a193, f193, rfl, s193, e193, z193, q193, wc193⟩ := pc_crewHere191 (d) n (s187) hT94 (by first | decide | omega) k88 k92 (fun i hi => (e187 207 i (by first | decide | omega)).trans (hn i hi)) h3 hc
          have b193 := s193.2.2.2
          have y193 := z193.trans (congrArg (fk S m N (tcr S0 m0 υ S m)) y187)
          refine gx_callo (a := 7) rfl rfl s187.1 rfl rfl rfl r193 rfl ?_
          have k95 : ai_hv t193 7 1 = some (gx_r 191) := (e193 7 1 (by first | decide | omega)).trans k88
          have k96 : ai_hv t193 191 0 = some (.inl (υ 0 0)) := (e193 191 0 (by first | decide | omega)).trans k89
          have k97 : ai_hv t193 191 1 = some (.inl (υ 1 0)) := (e193 191 1 (by first | decide | omega)).trans k90
          have k98 : ai_hv t193 329 5 = some (.inl c) := (e193 329 5 (by first | decide | omega)).trans k91
          have k99 : ai_hv t193 206 5 = some (.inl (υ 4 0)) := (e193 206 5 (by first | decide | omega)).trans k92
          show en_ex _ _ _ _ (168, [(0, gx_r 7), (1, gx_w w), (2, gx_r 329)], [.inl v193, .inl 3, .inr (.inl 0), gx_r 329, gx_r 7], t193, n, 0) _
          refine ex_go (S := (169, [(0, gx_r 7), (1, gx_w w), (2, gx_r 329)], [.inl 0, .inl v193, .inl 3, .inr (.inl 0), gx_r 329, gx_r 7], t193, n, 0)) rfl (fun _ => rfl) rfl ?_
          refine ex_go (S := (170, [(0, gx_r 7), (1, gx_w w), (2, gx_r 329)], [.inl 0, .inl 0, .inl v193, .inl 3, .inr (.inl 0), gx_r 329, gx_r 7], t193, n, 0)) rfl (fun _ => rfl) rfl ?_
          have hT101 := cT_keep (t' := t193) hT (fun c i h => (e193 c i (by first | decide | omega)).trans (e187 c i (by first | decide | omega)))
          obtain ⟨_, r200, t200, a200, f200, rfl, s200, e200, z200, q200, u200⟩ := pc_endRow329 (d) n (s193) hT101 (by first | decide | omega) (x := 0) (y1 := 3) (y2 := v193) (y3 := 0) (y4 := 0) k98 (fun h0 => ⟨by omega, (ai_in_h (by first | decide | omega) (by first | decide | omega) (by first | decide | omega))⟩)
          have b200 := s200.2.2.2
          refine gx_callo (a := 7) rfl rfl s193.1 rfl rfl rfl r200 rfl ?_
          have k102 : ai_hv t200 7 1 = some (gx_r 191) := (e200 7 1 (by first | decide | omega)).trans k95
          have k103 : ai_hv t200 191 0 = some (.inl (υ 0 0)) := (e200 191 0 (by first | decide | omega)).trans k96
          have k104 : ai_hv t200 191 1 = some (.inl (υ 1 0)) := (e200 191 1 (by first | decide | omega)).trans k97
          have k105 : ai_hv t200 206 5 = some (.inl (υ 4 0)) := (e200 206 5 (by first | decide | omega)).trans k99
          show en_ex _ _ _ _ (173, [(0, gx_r 7), (1, gx_w w), (2, gx_r 329)], [], t200, n, 0) _
          refine ex_go (S := (184, [(0, gx_r 7), (1, gx_w w), (2, gx_r 329)], [], t200, n, 0)) rfl (fun _ => rfl) rfl ?_
          refine ex_ret (r := (none, t200, n, 0)) rfl (fun _ => rfl) ?_
          have hcw : f200 = 0 → crw S0 m0 υ S m (a + 1) v193 := fun h9 => by
            have h8 := wc193 (by first | decide | omega)
            rw [show a187 = a + 1 by omega] at h8
            exact h8
          have hwd : sp_wd S m N a 25 := by rw [← hc86]; exact hw2
          have hT106 := cT_keep (t' := t200) hT (fun c i h => (e200 c i (by first | decide | omega)).trans ((e193 c i (by first | decide | omega)).trans (e187 c i (by first | decide | omega))))
          exact ⟨_, rfl, t200, a200, f200, rfl, s200, hT106, (fun c' i h => (e200 c' i (by first | decide | omega)).trans ((e193 c' i (by first | decide | omega)).trans (e187 c' i (by first | decide | omega)))), ⟨(a193, f193), Or.inr (Or.inr (Or.inr (Or.inl ⟨hwd, y193⟩))), z200⟩, by omega, fun h0 => ⟨(u200 h0).1, Or.inr (Or.inr (Or.inr ⟨hwd, (u200 h0).2.2.1, (u200 h0).2.2.2.2.1, v193, hcw (by first | decide | omega), (u200 h0).2.2.2.1⟩))⟩⟩
        · refine gx_acnf rfl (by first | decide | omega) (by first | decide | omega) hc86 rfl ?_
          refine ex_go (S := (177, [(0, gx_r 7), (1, gx_w w), (2, gx_r 329)], [gx_r 7], t0, n, 0)) rfl (fun _ => rfl) rfl ?_
          refine gxo_ref (a := 7) (c := 1) rfl s0.1 rfl rfl rfl rfl rfl ?_
          refine ex_go (S := (181, [(0, gx_r 7), (1, gx_w w), (2, gx_r 329)], [.inl 1, gx_r 1], t0, n, 0)) rfl (fun _ => rfl) rfl ?_
          obtain ⟨_, r207, t207, a207, f207, rfl, s207, e207, q207⟩ := pc_wrong (d + 2) n (s0) hT (by first | decide | omega) (w := 1) (by first | decide | omega)
          have b207 := s207.2.2.2
          refine gx_callo (a := 1) rfl rfl s0.1 rfl rfl rfl r207 rfl ?_
          have k108 : ai_hv t207 7 1 = some (gx_r 191) := (e207 7 1 (by first | decide | omega)).trans hP
          have k109 : ai_hv t207 191 0 = some (.inl (υ 0 0)) := (e207 191 0 (by first | decide | omega)).trans ko
          have k110 : ai_hv t207 191 1 = some (.inl (υ 1 0)) := (e207 191 1 (by first | decide | omega)).trans kd
          have k111 : ai_hv t207 329 5 = some (.inl c) := (e207 329 5 (by first | decide | omega)).trans kc
          have k112 : ai_hv t207 206 5 = some (.inl (υ 4 0)) := (e207 206 5 (by first | decide | omega)).trans kq5
          show en_ex _ _ _ _ (184, [(0, gx_r 7), (1, gx_w w), (2, gx_r 329)], [], t207, n, 0) _
          refine ex_ret (r := (none, t207, n, 0)) rfl (fun _ => rfl) ?_
          have hno : ∀ w, w = 1 ∨ w = 23 ∨ w = 24 ∨ w = 25 → ¬ sp_wd S m N a w := fun w' hw z => by
            have h9 := sp_wd_one (by first | decide | omega) (by first | decide | omega) hw2 z
            omega
          have hT113 := cT_keep (t' := t207) hT (fun c i h => e207 c i (by first | decide | omega))
          refine ⟨_, rfl, t207, a207, f207, rfl, s207, hT113, (fun c' i h => e207 c' i (by first | decide | omega)), ⟨fx S m 1 a, Or.inr (Or.inr (Or.inr (Or.inr ⟨hno, rfl⟩))), ?_⟩, by omega, fun h0 => by omega⟩
          unfold fx
          rw [fs_no (by first | decide | omega)]; exact Prod.ext (by show a207 = a; omega) (by show f207 = 1 + 16 * sp_st S m a; omega)
theorem pc_weekLine257_323_0 (d n : Nat) {t0 : en_H} {a c : Nat} {S S0 : Nat → Nat} {m N m0 N0 : Nat} {υ : Nat → Nat → Nat} (s0 : cS t0 a 0) (hT : cT t0 S m N) (ha : a < N) (hP : ai_hv t0 7 1 = some (gx_r 257)) (kq5 : ai_hv t0 272 5 = some (.inl (υ 4 0))) (hn : ∀ i, i < υ 4 0 → ai_hv t0 273 i = some (.inr (.inl (sp_wv S0 m0 (υ 21 i + 1))))) (h3 : W3 S0 m0 N0 υ) (hc : WC S0 m0 N0 υ) (ko : ai_hv t0 257 0 = some (.inl (υ 0 0))) (kd : ai_hv t0 257 1 = some (.inl (υ 1 0))) (kc : ai_hv t0 323 5 = some (.inl c)) (hcc : c ≤ 24) (hw2 : ∀ w, w < 42 → ¬ sp_wd S m N a w) : ∃ r, en_u (d + 4) 194 [gx_r 7, .inr (.inr (.inl none)), gx_r 323] t0 n = some r ∧ ∃ t' a' f', r = (none, t', n, 0) ∧ cS t' a' f' ∧ cT t' S m N ∧ (∀ c' i, ¬ ((c' = 1 ∧ (i = 1 ∨ i = 8)) ∨ (c' = 323 ∧ i = 5) ∨ ((324 ≤ c' ∧ c' ≤ 328) ∧ i = c)) → ai_hv t' c' i = ai_hv t0 c' i) ∧ (∃ q, wl S m N (υ 0 0) (υ 1 0) c (tcr S0 m0 υ S m) a q ∧ (a', f') = fs S m N 59 q) ∧ (a' ≤ N ∧ (f' = 0 → a < a' ∧ c < 24)) ∧ (f' = 0 → ai_hv t' 323 5 = some (.inl (c + 1)) ∧ LCr S0 m0 υ S m N t' 323 c a) := by
  have b0 := s0.2.2.2
  have hN := hT.2.2.2.2.2.2.1
  have hBB := h3.1.1
  refine en_u_ex (d := d + 3) rfl ?_
  show en_ex _ _ _ _ (0, [(0, gx_r 7), (1, .inr (.inr (.inl none))), (2, gx_r 323)], [], t0, n, 0) _
  refine ex_go (S := (1, [(0, gx_r 7), (1, .inr (.inr (.inl none))), (2, gx_r 323)], [.inr (.inr (.inl none))], t0, n, 0)) rfl (fun _ => rfl) rfl ?_
  refine ex_go (S := (4, [(0, gx_r 7), (1, .inr (.inr (.inl none))), (2, gx_r 323)], [gx_w 1, .inr (.inr (.inl none))], t0, n, 0)) rfl (fun _ => rfl) rfl ?_
  refine ex_go (S := (34, [(0, gx_r 7), (1, .inr (.inr (.inl none))), (2, gx_r 323)], [], t0, n, 0)) rfl (fun _ => rfl) rfl ?_
  refine ex_go (S := (35, [(0, gx_r 7), (1, .inr (.inr (.inl none))), (2, gx_r 323)], [.inr (.inr (.inl none))], t0, n, 0)) rfl (fun _ => rfl) rfl ?_
  refine ex_go (S := (38, [(0, gx_r 7), (1, .inr (.inr (.inl none))), (2, gx_r 323)], [gx_w 23, .inr (.inr (.inl none))], t0, n, 0)) rfl (fun _ => rfl) rfl ?_
  refine ex_go (S := (108, [(0, gx_r 7), (1, .inr (.inr (.inl none))), (2, gx_r 323)], [], t0, n, 0)) rfl (fun _ => rfl) rfl ?_
  refine ex_go (S := (109, [(0, gx_r 7), (1, .inr (.inr (.inl none))), (2, gx_r 323)], [.inr (.inr (.inl none))], t0, n, 0)) rfl (fun _ => rfl) rfl ?_
  refine ex_go (S := (112, [(0, gx_r 7), (1, .inr (.inr (.inl none))), (2, gx_r 323)], [gx_w 24, .inr (.inr (.inl none))], t0, n, 0)) rfl (fun _ => rfl) rfl ?_
  refine ex_go (S := (148, [(0, gx_r 7), (1, .inr (.inr (.inl none))), (2, gx_r 323)], [], t0, n, 0)) rfl (fun _ => rfl) rfl ?_
  refine ex_go (S := (149, [(0, gx_r 7), (1, .inr (.inr (.inl none))), (2, gx_r 323)], [.inr (.inr (.inl none))], t0, n, 0)) rfl (fun _ => rfl) rfl ?_
  refine ex_go (S := (152, [(0, gx_r 7), (1, .inr (.inr (.inl none))), (2, gx_r 323)], [gx_w 25, .inr (.inr (.inl none))], t0, n, 0)) rfl (fun _ => rfl) rfl ?_
  refine ex_go (S := (176, [(0, gx_r 7), (1, .inr (.inr (.inl none))), (2, gx_r 323)], [], t0, n, 0)) rfl (fun _ => rfl) rfl ?_
  refine ex_go (S := (177, [(0, gx_r 7), (1, .inr (.inr (.inl none))), (2, gx_r 323)], [gx_r 7], t0, n, 0)) rfl (fun _ => rfl) rfl ?_
  refine gxo_ref (a := 7) (c := 1) rfl s0.1 rfl rfl rfl rfl rfl ?_
  refine ex_go (S := (181, [(0, gx_r 7), (1, .inr (.inr (.inl none))), (2, gx_r 323)], [.inl 1, gx_r 1], t0, n, 0)) rfl (fun _ => rfl) rfl ?_
  obtain ⟨_, r101, t101, a101, f101, rfl, s101, e101, q101⟩ := pc_wrong (d + 2) n (s0) hT (by first | decide | omega) (w := 1) (by first | decide | omega)
  have b101 := s101.2.2.2
  refine gx_callo (a := 1) rfl rfl s0.1 rfl rfl rfl r101 rfl ?_
  have k2 : ai_hv t101 7 1 = some (gx_r 257) := (e101 7 1 (by first | decide | omega)).trans hP
  have k3 : ai_hv t101 257 0 = some (.inl (υ 0 0)) := (e101 257 0 (by first | decide | omega)).trans ko
  have k4 : ai_hv t101 257 1 = some (.inl (υ 1 0)) := (e101 257 1 (by first | decide | omega)).trans kd
  have k5 : ai_hv t101 323 5 = some (.inl c) := (e101 323 5 (by first | decide | omega)).trans kc
  have k6 : ai_hv t101 272 5 = some (.inl (υ 4 0)) := (e101 272 5 (by first | decide | omega)).trans kq5
  show en_ex _ _ _ _ (184, [(0, gx_r 7), (1, .inr (.inr (.inl none))), (2, gx_r 323)], [], t101, n, 0) _
  refine ex_ret (r := (none, t101, n, 0)) rfl (fun _ => rfl) ?_
  have hno : ∀ w, w = 1 ∨ w = 23 ∨ w = 24 ∨ w = 25 → ¬ sp_wd S m N a w := fun w hw z => hw2 w (by first | decide | omega) z
  have hT7 := cT_keep (t' := t101) hT (fun c i h => e101 c i (by first | decide | omega))
  refine ⟨_, rfl, t101, a101, f101, rfl, s101, hT7, (fun c' i h => e101 c' i (by first | decide | omega)), ⟨fx S m 1 a, Or.inr (Or.inr (Or.inr (Or.inr ⟨hno, rfl⟩))), ?_⟩, by omega, fun h0 => by omega⟩
  unfold fx
  rw [fs_no (by first | decide | omega)]; exact Prod.ext (by show a101 = a; omega) (by show f101 = 1 + 16 * sp_st S m a; omega)
theorem pc_weekLine257_323_1 (d n : Nat) {t0 : en_H} {a c w : Nat} {S S0 : Nat → Nat} {m N m0 N0 : Nat} {υ : Nat → Nat → Nat} (s0 : cS t0 a 0) (hT : cT t0 S m N) (ha : a < N) (hP : ai_hv t0 7 1 = some (gx_r 257)) (kq5 : ai_hv t0 272 5 = some (.inl (υ 4 0))) (hn : ∀ i, i < υ 4 0 → ai_hv t0 273 i = some (.inr (.inl (sp_wv S0 m0 (υ 21 i + 1))))) (h3 : W3 S0 m0 N0 υ) (hc : WC S0 m0 N0 υ) (ko : ai_hv t0 257 0 = some (.inl (υ 0 0))) (kd : ai_hv t0 257 1 = some (.inl (υ 1 0))) (kc : ai_hv t0 323 5 = some (.inl c)) (hcc : c ≤ 24) (hw : w < 42) (hw2 : sp_wd S m N a w) : ∃ r, en_u (d + 4) 194 [gx_r 7, gx_w w, gx_r 323] t0 n = some r ∧ ∃ t' a' f', r = (none, t', n, 0) ∧ cS t' a' f' ∧ cT t' S m N ∧ (∀ c' i, ¬ ((c' = 1 ∧ (i = 1 ∨ i = 8)) ∨ (c' = 323 ∧ i = 5) ∨ ((324 ≤ c' ∧ c' ≤ 328) ∧ i = c)) → ai_hv t' c' i = ai_hv t0 c' i) ∧ (∃ q, wl S m N (υ 0 0) (υ 1 0) c (tcr S0 m0 υ S m) a q ∧ (a', f') = fs S m N 59 q) ∧ (a' ≤ N ∧ (f' = 0 → a < a' ∧ c < 24)) ∧ (f' = 0 → ai_hv t' 323 5 = some (.inl (c + 1)) ∧ LCr S0 m0 υ S m N t' 323 c a) := by
  have b0 := s0.2.2.2
  have hN := hT.2.2.2.2.2.2.1
  have hBB := h3.1.1
  refine en_u_ex (d := d + 3) rfl ?_
  show en_ex _ _ _ _ (0, [(0, gx_r 7), (1, gx_w w), (2, gx_r 323)], [], t0, n, 0) _
  refine ex_go (S := (1, [(0, gx_r 7), (1, gx_w w), (2, gx_r 323)], [gx_w w], t0, n, 0)) rfl (fun _ => rfl) rfl ?_
  refine ex_go (S := (4, [(0, gx_r 7), (1, gx_w w), (2, gx_r 323)], [gx_w 1, gx_w w], t0, n, 0)) rfl (fun _ => rfl) rfl ?_
  by_cases hc1 : w = 1
  · refine gx_acnt rfl (by first | decide | omega) (by first | decide | omega) hc1 rfl ?_
    refine ex_go (S := (8, [(0, gx_r 7), (1, gx_w w), (2, gx_r 323)], [gx_r 7], t0, n, 0)) rfl (fun _ => rfl) rfl ?_
    refine ex_go (S := (9, [(0, gx_r 7), (1, gx_w w), (2, gx_r 323)], [gx_r 323, gx_r 7], t0, n, 0)) rfl (fun _ => rfl) rfl ?_
    obtain ⟨_, r102, t102, a102, f102, rfl, s102, e102, y102, q102⟩ := pc_startRow323 (d + 1) n (s0) hT ha kc (by first | decide | omega)
    have b102 := s102.2.2.2
    refine gx_callo (a := 7) rfl rfl s0.1 rfl rfl rfl r102 rfl ?_
    have k3 : ai_hv t102 7 1 = some (gx_r 257) := (e102 7 1 (by first | decide | omega)).trans hP
    have k4 : ai_hv t102 257 0 = some (.inl (υ 0 0)) := (e102 257 0 (by first | decide | omega)).trans ko
    have k5 : ai_hv t102 257 1 = some (.inl (υ 1 0)) := (e102 257 1 (by first | decide | omega)).trans kd
    have k6 : ai_hv t102 323 5 = some (.inl c) := (e102 323 5 (by first | decide | omega)).trans kc
    have k7 : ai_hv t102 272 5 = some (.inl (υ 4 0)) := (e102 272 5 (by first | decide | omega)).trans kq5
    show en_ex _ _ _ _ (12, [(0, gx_r 7), (1, gx_w w), (2, gx_r 323)], [], t102, n, 0) _
    refine ex_go (S := (13, [(0, gx_r 7), (1, gx_w w), (2, gx_r 323)], [gx_r 7], t102, n, 0)) rfl (fun _ => rfl) rfl ?_
    refine ex_go (S := (14, [(0, gx_r 7), (1, gx_w w), (2, gx_r 323)], [gx_r 323, gx_r 7], t102, n, 0)) rfl (fun _ => rfl) rfl ?_
    refine ex_go (S := (15, [(0, gx_r 7), (1, gx_w w), (2, gx_r 323)], [.inr (.inl 0), gx_r 323, gx_r 7], t102, n, 0)) rfl (fun _ => rfl) rfl ?_
    refine ex_go (S := (16, [(0, gx_r 7), (1, gx_w w), (2, gx_r 323)], [.inl 0, .inr (.inl 0), gx_r 323, gx_r 7], t102, n, 0)) rfl (fun _ => rfl) rfl ?_
    refine ex_go (S := (17, [(0, gx_r 7), (1, gx_w w), (2, gx_r 323)], [.inl 4294967295, .inl 0, .inr (.inl 0), gx_r 323, gx_r 7], t102, n, 0)) rfl (fun _ => rfl) rfl ?_
    refine ex_go (S := (18, [(0, gx_r 7), (1, gx_w w), (2, gx_r 323)], [gx_r 7, .inl 4294967295, .inl 0, .inr (.inl 0), gx_r 323, gx_r 7], t102, n, 0)) rfl (fun _ => rfl) rfl ?_
    refine gxo_ref (a := 7) (c := 1) rfl s102.1 rfl rfl rfl rfl rfl ?_
    refine ex_go (S := (22, [(0, gx_r 7), (1, gx_w w), (2, gx_r 323)], [.inl 1, gx_r 1, .inl 4294967295, .inl 0, .inr (.inl 0), gx_r 323, gx_r 7], t102, n, 0)) rfl (fun _ => rfl) rfl ?_
    refine ex_go (S := (24, [(0, gx_r 7), (1, gx_w w), (2, gx_r 323)], [.inl 30, .inl 1, gx_r 1, .inl 4294967295, .inl 0, .inr (.inl 0), gx_r 323, gx_r 7], t102, n, 0)) rfl (fun _ => rfl) rfl ?_
    have hT9 := cT_keep (t' := t102) hT (fun c i h => e102 c i (by first | decide | omega))
    obtain ⟨_, r108, v108, t108, a108, f108, rfl, s108, e108, z108, q108⟩ := pc_takeNumber (d + 1) n (s102) hT9 (by first | decide | omega) (lo := 1) (hi := 30) (by first | decide | omega) (by first | decide | omega) (by first | decide | omega)
    have b108 := s108.2.2.2
    have y108 := z108.trans (congrArg (fn S m N 1 30) y102)
    refine gx_callo (a := 1) rfl rfl s102.1 rfl rfl rfl r108 rfl ?_
    have k10 : ai_hv t108 7 1 = some (gx_r 257) := (e108 7 1 (by first | decide | omega)).trans k3
    have k11 : ai_hv t108 257 0 = some (.inl (υ 0 0)) := (e108 257 0 (by first | decide | omega)).trans k4
    have k12 : ai_hv t108 257 1 = some (.inl (υ 1 0)) := (e108 257 1 (by first | decide | omega)).trans k5
    have k13 : ai_hv t108 323 5 = some (.inl c) := (e108 323 5 (by first | decide | omega)).trans k6
    have k14 : ai_hv t108 272 5 = some (.inl (υ 4 0)) := (e108 272 5 (by first | decide | omega)).trans k7
    show en_ex _ _ _ _ (27, [(0, gx_r 7), (1, gx_w w), (2, gx_r 323)], [.inl v108, .inl 4294967295, .inl 0, .inr (.inl 0), gx_r 323, gx_r 7], t108, n, 0) _
    refine ex_go (S := (28, [(0, gx_r 7), (1, gx_w w), (2, gx_r 323)], [.inl 0, .inl v108, .inl 4294967295, .inl 0, .inr (.inl 0), gx_r 323, gx_r 7], t108, n, 0)) rfl (fun _ => rfl) rfl ?_
    have hT16 := cT_keep (t' := t108) hT (fun c i h => (e108 c i (by first | decide | omega)).trans (e102 c i (by first | decide | omega)))
    obtain ⟨_, r115, t115, a115, f115, rfl, s115, e115, z115, q115, u115⟩ := pc_endRow323 (d) n (s108) hT16 (by first | decide | omega) (x := 0) (y1 := 0) (y2 := 4294967295) (y3 := v108) (y4 := 0) k13 (fun h0 => ⟨by omega, ⟨_, rfl, by decide, by decide, by decide⟩⟩)
    have b115 := s115.2.2.2
    refine gx_callo (a := 7) rfl rfl s108.1 rfl rfl rfl r115 rfl ?_
    have k17 : ai_hv t115 7 1 = some (gx_r 257) := (e115 7 1 (by first | decide | omega)).trans k10
    have k18 : ai_hv t115 257 0 = some (.inl (υ 0 0)) := (e115 257 0 (by first | decide | omega)).trans k11
    have k19 : ai_hv t115 257 1 = some (.inl (υ 1 0)) := (e115 257 1 (by first | decide | omega)).trans k12
    have k20 : ai_hv t115 272 5 = some (.inl (υ 4 0)) := (e115 272 5 (by first | decide | omega)).trans k14
    show en_ex _ _ _ _ (31, [(0, gx_r 7), (1, gx_w w), (2, gx_r 323)], [], t115, n, 0) _
    refine ex_go (S := (184, [(0, gx_r 7), (1, gx_w w), (2, gx_r 323)], [], t115, n, 0)) rfl (fun _ => rfl) rfl ?_
    refine ex_ret (r := (none, t115, n, 0)) rfl (fun _ => rfl) ?_
    have hwd : sp_wd S m N a 1 := by rw [← hc1]; exact hw2
    have hT21 := cT_keep (t' := t115) hT (fun c i h => (e115 c i (by first | decide | omega)).trans ((e108 c i (by first | decide | omega)).trans (e102 c i (by first | decide | omega))))
    exact ⟨_, rfl, t115, a115, f115, rfl, s115, hT21, (fun c' i h => (e115 c' i (by first | decide | omega)).trans ((e108 c' i (by first | decide | omega)).trans (e102 c' i (by first | decide | omega)))), ⟨(a108, f108), Or.inl ⟨hwd, y108⟩, z115⟩, by omega, fun h0 => ⟨(u115 h0).1, Or.inl ⟨hwd, (u115 h0).2.2.1, (u115 h0).2.2.2.1, (u115 h0).2.2.2.2.1.trans (by rw [show v108 = sp_nv S m (a + 1) by rw [← show a102 = a + 1 by omega]; omega])⟩⟩⟩
  · refine gx_acnf rfl (by first | decide | omega) (by first | decide | omega) hc1 rfl ?_
    refine ex_go (S := (35, [(0, gx_r 7), (1, gx_w w), (2, gx_r 323)], [gx_w w], t0, n, 0)) rfl (fun _ => rfl) rfl ?_
    refine ex_go (S := (38, [(0, gx_r 7), (1, gx_w w), (2, gx_r 323)], [gx_w 23, gx_w w], t0, n, 0)) rfl (fun _ => rfl) rfl ?_
    by_cases hc22 : w = 23
    · refine gx_acnt rfl (by first | decide | omega) (by first | decide | omega) hc22 rfl ?_
      refine ex_go (S := (42, [(0, gx_r 7), (1, gx_w w), (2, gx_r 323)], [gx_r 7], t0, n, 0)) rfl (fun _ => rfl) rfl ?_
      refine ex_go (S := (43, [(0, gx_r 7), (1, gx_w w), (2, gx_r 323)], [gx_r 323, gx_r 7], t0, n, 0)) rfl (fun _ => rfl) rfl ?_
      obtain ⟨_, r123, t123, a123, f123, rfl, s123, e123, y123, q123⟩ := pc_startRow323 (d + 1) n (s0) hT ha kc (by first | decide | omega)
      have b123 := s123.2.2.2
      refine gx_callo (a := 7) rfl rfl s0.1 rfl rfl rfl r123 rfl ?_
      have k24 : ai_hv t123 7 1 = some (gx_r 257) := (e123 7 1 (by first | decide | omega)).trans hP
      have k25 : ai_hv t123 257 0 = some (.inl (υ 0 0)) := (e123 257 0 (by first | decide | omega)).trans ko
      have k26 : ai_hv t123 257 1 = some (.inl (υ 1 0)) := (e123 257 1 (by first | decide | omega)).trans kd
      have k27 : ai_hv t123 323 5 = some (.inl c) := (e123 323 5 (by first | decide | omega)).trans kc
      have k28 : ai_hv t123 272 5 = some (.inl (υ 4 0)) := (e123 272 5 (by first | decide | omega)).trans kq5
      show en_ex _ _ _ _ (46, [(0, gx_r 7), (1, gx_w w), (2, gx_r 323)], [], t123, n, 0) _
      refine ex_go (S := (47, [(0, gx_r 7), (1, gx_w w), (2, gx_r 323)], [gx_r 7], t123, n, 0)) rfl (fun _ => rfl) rfl ?_
      have hT30 := cT_keep (t' := t123) hT (fun c i h => e123 c i (by first | decide | omega))
      obtain ⟨_, r129, v129, t129, a129, f129, rfl, s129, e129, z129, q129, wc129⟩ := pc_crewHere257 (d) n (s123) hT30 (by first | decide | omega) k24 k28 (fun i hi => (e123 273 i (by first | decide | omega)).trans (hn i hi)) h3 hc
      have b129 := s129.2.2.2
      have y129 := z129.trans (congrArg (fk S m N (tcr S0 m0 υ S m)) y123)
      refine gx_callo (a := 7) rfl rfl s123.1 rfl rfl rfl r129 rfl ?_
      have k31 : ai_hv t129 7 1 = some (gx_r 257) := (e129 7 1 (by first | decide | omega)).trans k24
      have k32 : ai_hv t129 257 0 = some (.inl (υ 0 0)) := (e129 257 0 (by first | decide | omega)).trans k25
      have k33 : ai_hv t129 257 1 = some (.inl (υ 1 0)) := (e129 257 1 (by first | decide | omega)).trans k26
      have k34 : ai_hv t129 323 5 = some (.inl c) := (e129 323 5 (by first | decide | omega)).trans k27
      have k35 : ai_hv t129 272 5 = some (.inl (υ 4 0)) := (e129 272 5 (by first | decide | omega)).trans k28
      show en_ex _ _ _ _ (50, [(0, gx_r 7), (1, gx_w w), (2, gx_r 323)], [.inl v129], t129, n, 0) _
      refine ex_go (S := (51, [(3, .inl v129), (0, gx_r 7), (1, gx_w w), (2, gx_r 323)], [], t129, n, 0)) rfl (fun _ => rfl) rfl ?_
      refine ex_go (S := (52, [(3, .inl v129), (0, gx_r 7), (1, gx_w w), (2, gx_r 323)], [gx_r 7], t129, n, 0)) rfl (fun _ => rfl) rfl ?_
      refine gxo_ref (a := 7) (c := 1) rfl s129.1 rfl rfl rfl rfl rfl ?_
      refine ex_go (S := (56, [(3, .inl v129), (0, gx_r 7), (1, gx_w w), (2, gx_r 323)], [.inl 0, gx_r 1], t129, n, 0)) rfl (fun _ => rfl) rfl ?_
      refine ex_go (S := (57, [(3, .inl v129), (0, gx_r 7), (1, gx_w w), (2, gx_r 323)], [gx_r 7, .inl 0, gx_r 1], t129, n, 0)) rfl (fun _ => rfl) rfl ?_
      refine gxo_get (a := 7) rfl s129.1 rfl rfl k31 rfl ?_
      refine gxo_get (a := 257) rfl s129.1 rfl rfl k32 rfl ?_
      refine ex_go (S := (64, [(3, .inl v129), (0, gx_r 7), (1, gx_w w), (2, gx_r 323)], [.inl 1, .inl (υ 0 0), .inl 0, gx_r 1], t129, n, 0)) rfl (fun _ => rfl) rfl ?_
      refine gx_isub rfl (by first | decide | omega) (by first | decide | omega) rfl ?_
      have hT37 := cT_keep (t' := t129) hT (fun c i h => (e129 c i (by first | decide | omega)).trans (e123 c i (by first | decide | omega)))
      obtain ⟨_, r136, v136, t136, a136, f136, rfl, s136, e136, z136, q136⟩ := pc_takeNumber (d + 1) n (s129) hT37 (by first | decide | omega) (lo := 0) (hi := (υ 0 0) - 1) (by first | decide | omega) (by first | decide | omega) (by first | decide | omega)
      have b136 := s136.2.2.2
      have y136 := z136.trans (congrArg (fn S m N 0 ((υ 0 0) - 1)) y129)
      refine gx_callo (a := 1) rfl rfl s129.1 rfl rfl rfl r136 rfl ?_
      have k38 : ai_hv t136 7 1 = some (gx_r 257) := (e136 7 1 (by first | decide | omega)).trans k31
      have k39 : ai_hv t136 257 0 = some (.inl (υ 0 0)) := (e136 257 0 (by first | decide | omega)).trans k32
      have k40 : ai_hv t136 257 1 = some (.inl (υ 1 0)) := (e136 257 1 (by first | decide | omega)).trans k33
      have k41 : ai_hv t136 323 5 = some (.inl c) := (e136 323 5 (by first | decide | omega)).trans k34
      have k42 : ai_hv t136 272 5 = some (.inl (υ 4 0)) := (e136 272 5 (by first | decide | omega)).trans k35
      show en_ex _ _ _ _ (68, [(3, .inl v129), (0, gx_r 7), (1, gx_w w), (2, gx_r 323)], [.inl v136], t136, n, 0) _
      refine ex_go (S := (70, [(4, .inl v136), (3, .inl v129), (0, gx_r 7), (1, gx_w w), (2, gx_r 323)], [], t136, n, 0)) rfl (fun _ => rfl) rfl ?_
      refine ex_go (S := (71, [(4, .inl v136), (3, .inl v129), (0, gx_r 7), (1, gx_w w), (2, gx_r 323)], [gx_r 7], t136, n, 0)) rfl (fun _ => rfl) rfl ?_
      refine gxo_ref (a := 7) (c := 1) rfl s136.1 rfl rfl rfl rfl rfl ?_
      refine ex_go (S := (75, [(4, .inl v136), (3, .inl v129), (0, gx_r 7), (1, gx_w w), (2, gx_r 323)], [.inl 0, gx_r 1], t136, n, 0)) rfl (fun _ => rfl) rfl ?_
      refine ex_go (S := (76, [(4, .inl v136), (3, .inl v129), (0, gx_r 7), (1, gx_w w), (2, gx_r 323)], [gx_r 7, .inl 0, gx_r 1], t136, n, 0)) rfl (fun _ => rfl) rfl ?_
      refine gxo_get (a := 7) rfl s136.1 rfl rfl k38 rfl ?_
      refine gxo_get (a := 257) rfl s136.1 rfl rfl k40 rfl ?_
      refine ex_go (S := (83, [(4, .inl v136), (3, .inl v129), (0, gx_r 7), (1, gx_w w), (2, gx_r 323)], [.inl 1, .inl (υ 1 0), .inl 0, gx_r 1], t136, n, 0)) rfl (fun _ => rfl) rfl ?_
      refine gx_isub rfl (by first | decide | omega) (by first | decide | omega) rfl ?_
      have hT44 := cT_keep (t' := t136) hT (fun c i h => (e136 c i (by first | decide | omega)).trans ((e129 c i (by first | decide | omega)).trans (e123 c i (by first | decide | omega))))
      obtain ⟨_, r143, v143, t143, a143, f143, rfl, s143, e143, z143, q143⟩ := pc_takeNumber (d + 1) n (s136) hT44 (by first | decide | omega) (lo := 0) (hi := (υ 1 0) - 1) (by first | decide | omega) (by first | decide | omega) (by first | decide | omega)
      have b143 := s143.2.2.2
      have y143 := z143.trans (congrArg (fn S m N 0 ((υ 1 0) - 1)) y136)
      refine gx_callo (a := 1) rfl rfl s136.1 rfl rfl rfl r143 rfl ?_
      have k45 : ai_hv t143 7 1 = some (gx_r 257) := (e143 7 1 (by first | decide | omega)).trans k38
      have k46 : ai_hv t143 257 0 = some (.inl (υ 0 0)) := (e143 257 0 (by first | decide | omega)).trans k39
      have k47 : ai_hv t143 257 1 = some (.inl (υ 1 0)) := (e143 257 1 (by first | decide | omega)).trans k40
      have k48 : ai_hv t143 323 5 = some (.inl c) := (e143 323 5 (by first | decide | omega)).trans k41
      have k49 : ai_hv t143 272 5 = some (.inl (υ 4 0)) := (e143 272 5 (by first | decide | omega)).trans k42
      show en_ex _ _ _ _ (87, [(4, .inl v136), (3, .inl v129), (0, gx_r 7), (1, gx_w w), (2, gx_r 323)], [.inl v143], t143, n, 0) _
      refine ex_go (S := (89, [(5, .inl v143), (4, .inl v136), (3, .inl v129), (0, gx_r 7), (1, gx_w w), (2, gx_r 323)], [], t143, n, 0)) rfl (fun _ => rfl) rfl ?_
      refine ex_go (S := (90, [(5, .inl v143), (4, .inl v136), (3, .inl v129), (0, gx_r 7), (1, gx_w w), (2, gx_r 323)], [gx_r 7], t143, n, 0)) rfl (fun _ => rfl) rfl ?_
      refine ex_go (S := (91, [(5, .inl v143), (4, .inl v136), (3, .inl v129), (0, gx_r 7), (1, gx_w w), (2, gx_r 323)], [gx_r 323, gx_r 7], t143, n, 0)) rfl (fun _ => rfl) rfl ?_
      refine ex_go (S := (92, [(5, .inl v143), (4, .inl v136), (3, .inl v129), (0, gx_r 7), (1, gx_w w), (2, gx_r 323)], [.inr (.inl 0), gx_r 323, gx_r 7], t143, n, 0)) rfl (fun _ => rfl) rfl ?_
      refine ex_go (S := (93, [(5, .inl v143), (4, .inl v136), (3, .inl v129), (0, gx_r 7), (1, gx_w w), (2, gx_r 323)], [.inl 1, .inr (.inl 0), gx_r 323, gx_r 7], t143, n, 0)) rfl (fun _ => rfl) rfl ?_
      refine ex_go (S := (94, [(5, .inl v143), (4, .inl v136), (3, .inl v129), (0, gx_r 7), (1, gx_w w), (2, gx_r 323)], [.inl v129, .inl 1, .inr (.inl 0), gx_r 323, gx_r 7], t143, n, 0)) rfl (fun _ => rfl) rfl ?_
      refine ex_go (S := (96, [(5, .inl v143), (4, .inl v136), (3, .inl v129), (0, gx_r 7), (1, gx_w w), (2, gx_r 323)], [.inl v136, .inl v129, .inl 1, .inr (.inl 0), gx_r 323, gx_r 7], t143, n, 0)) rfl (fun _ => rfl) rfl ?_
      refine ex_go (S := (98, [(5, .inl v143), (4, .inl v136), (3, .inl v129), (0, gx_r 7), (1, gx_w w), (2, gx_r 323)], [.inl v143, .inl v136, .inl v129, .inl 1, .inr (.inl 0), gx_r 323, gx_r 7], t143, n, 0)) rfl (fun _ => rfl) rfl ?_
      obtain ⟨_, r50, rfl⟩ := pc_placeOf (d + 2) n (t0 := t143) (x := v136) (y := v143) (by first | decide | omega) (by first | decide | omega)
      refine ex_stat rfl rfl rfl rfl rfl r50 (Nat.le_refl _) rfl ?_
      show en_ex _ _ _ _ (101, [(5, .inl v143), (4, .inl v136), (3, .inl v129), (0, gx_r 7), (1, gx_w w), (2, gx_r 323)], [.inl (v136 + (8 * v143)), .inl v129, .inl 1, .inr (.inl 0), gx_r 323, gx_r 7], t143, n, 0) _
      refine ex_go (S := (102, [(5, .inl v143), (4, .inl v136), (3, .inl v129), (0, gx_r 7), (1, gx_w w), (2, gx_r 323)], [.inl 0, .inl (v136 + (8 * v143)), .inl v129, .inl 1, .inr (.inl 0), gx_r 323, gx_r 7], t143, n, 0)) rfl (fun _ => rfl) rfl ?_
      have hT52 := cT_keep (t' := t143) hT (fun c i h => (e143 c i (by first | decide | omega)).trans ((e136 c i (by first | decide | omega)).trans ((e129 c i (by first | decide | omega)).trans (e123 c i (by first | decide | omega)))))
      obtain ⟨_, r151, t151, a151, f151, rfl, s151, e151, z151, q151, u151⟩ := pc_endRow323 (d) n (s143) hT52 (by first | decide | omega) (x := 0) (y1 := 1) (y2 := v129) (y3 := v136 + (8 * v143)) (y4 := 0) k48 (fun h0 => ⟨by omega, (ai_in_h (by first | decide | omega) (by first | decide | omega) (by first | decide | omega))⟩)
      have b151 := s151.2.2.2
      refine gx_callo (a := 7) rfl rfl s143.1 rfl rfl rfl r151 rfl ?_
      have k53 : ai_hv t151 7 1 = some (gx_r 257) := (e151 7 1 (by first | decide | omega)).trans k45
      have k54 : ai_hv t151 257 0 = some (.inl (υ 0 0)) := (e151 257 0 (by first | decide | omega)).trans k46
      have k55 : ai_hv t151 257 1 = some (.inl (υ 1 0)) := (e151 257 1 (by first | decide | omega)).trans k47
      have k56 : ai_hv t151 272 5 = some (.inl (υ 4 0)) := (e151 272 5 (by first | decide | omega)).trans k49
      show en_ex _ _ _ _ (105, [(5, .inl v143), (4, .inl v136), (3, .inl v129), (0, gx_r 7), (1, gx_w w), (2, gx_r 323)], [], t151, n, 0) _
      refine ex_go (S := (184, [(5, .inl v143), (4, .inl v136), (3, .inl v129), (0, gx_r 7), (1, gx_w w), (2, gx_r 323)], [], t151, n, 0)) rfl (fun _ => rfl) rfl ?_
      refine ex_ret (r := (none, t151, n, 0)) rfl (fun _ => rfl) ?_
      have hcw : f151 = 0 → crw S0 m0 υ S m (a + 1) v129 := fun h9 => by
        have h8 := wc129 (by first | decide | omega)
        rw [show a123 = a + 1 by omega] at h8
        exact h8
      have hwd : sp_wd S m N a 23 := by rw [← hc22]; exact hw2
      have hT57 := cT_keep (t' := t151) hT (fun c i h => (e151 c i (by first | decide | omega)).trans ((e143 c i (by first | decide | omega)).trans ((e136 c i (by first | decide | omega)).trans ((e129 c i (by first | decide | omega)).trans (e123 c i (by first | decide | omega))))))
      exact ⟨_, rfl, t151, a151, f151, rfl, s151, hT57, (fun c' i h => (e151 c' i (by first | decide | omega)).trans ((e143 c' i (by first | decide | omega)).trans ((e136 c' i (by first | decide | omega)).trans ((e129 c' i (by first | decide | omega)).trans (e123 c' i (by first | decide | omega)))))), ⟨(a143, f143), Or.inr (Or.inl ⟨hwd, y143⟩), z151⟩, by omega, fun h0 => ⟨(u151 h0).1, Or.inr (Or.inl ⟨hwd, (u151 h0).2.2.1, ⟨v129, hcw (by first | decide | omega), (u151 h0).2.2.2.1⟩, (u151 h0).2.2.2.2.1.trans (by rw [show v136 = sp_nv S m (a + 2) by rw [← show a129 = a + 2 by omega]; omega, show v143 = sp_nv S m (a + 3) by rw [← show a136 = a + 3 by omega]; omega])⟩)⟩⟩
    · refine gx_acnf rfl (by first | decide | omega) (by first | decide | omega) hc22 rfl ?_
      refine ex_go (S := (109, [(0, gx_r 7), (1, gx_w w), (2, gx_r 323)], [gx_w w], t0, n, 0)) rfl (fun _ => rfl) rfl ?_
      refine ex_go (S := (112, [(0, gx_r 7), (1, gx_w w), (2, gx_r 323)], [gx_w 24, gx_w w], t0, n, 0)) rfl (fun _ => rfl) rfl ?_
      by_cases hc58 : w = 24
      · refine gx_acnt rfl (by first | decide | omega) (by first | decide | omega) hc58 rfl ?_
        refine ex_go (S := (116, [(0, gx_r 7), (1, gx_w w), (2, gx_r 323)], [gx_r 7], t0, n, 0)) rfl (fun _ => rfl) rfl ?_
        refine ex_go (S := (117, [(0, gx_r 7), (1, gx_w w), (2, gx_r 323)], [gx_r 323, gx_r 7], t0, n, 0)) rfl (fun _ => rfl) rfl ?_
        obtain ⟨_, r159, t159, a159, f159, rfl, s159, e159, y159, q159⟩ := pc_startRow323 (d + 1) n (s0) hT ha kc (by first | decide | omega)
        have b159 := s159.2.2.2
        refine gx_callo (a := 7) rfl rfl s0.1 rfl rfl rfl r159 rfl ?_
        have k60 : ai_hv t159 7 1 = some (gx_r 257) := (e159 7 1 (by first | decide | omega)).trans hP
        have k61 : ai_hv t159 257 0 = some (.inl (υ 0 0)) := (e159 257 0 (by first | decide | omega)).trans ko
        have k62 : ai_hv t159 257 1 = some (.inl (υ 1 0)) := (e159 257 1 (by first | decide | omega)).trans kd
        have k63 : ai_hv t159 323 5 = some (.inl c) := (e159 323 5 (by first | decide | omega)).trans kc
        have k64 : ai_hv t159 272 5 = some (.inl (υ 4 0)) := (e159 272 5 (by first | decide | omega)).trans kq5
        show en_ex _ _ _ _ (120, [(0, gx_r 7), (1, gx_w w), (2, gx_r 323)], [], t159, n, 0) _
        refine ex_go (S := (121, [(0, gx_r 7), (1, gx_w w), (2, gx_r 323)], [gx_r 7], t159, n, 0)) rfl (fun _ => rfl) rfl ?_
        have hT66 := cT_keep (t' := t159) hT (fun c i h => e159 c i (by first | decide | omega))
        obtain ⟨_, r165, v165, t165, a165, f165, rfl, s165, e165, z165, q165, wc165⟩ := pc_crewHere257 (d) n (s159) hT66 (by first | decide | omega) k60 k64 (fun i hi => (e159 273 i (by first | decide | omega)).trans (hn i hi)) h3 hc
        have b165 := s165.2.2.2
        have y165 := z165.trans (congrArg (fk S m N (tcr S0 m0 υ S m)) y159)
        refine gx_callo (a := 7) rfl rfl s159.1 rfl rfl rfl r165 rfl ?_
        have k67 : ai_hv t165 7 1 = some (gx_r 257) := (e165 7 1 (by first | decide | omega)).trans k60
        have k68 : ai_hv t165 257 0 = some (.inl (υ 0 0)) := (e165 257 0 (by first | decide | omega)).trans k61
        have k69 : ai_hv t165 257 1 = some (.inl (υ 1 0)) := (e165 257 1 (by first | decide | omega)).trans k62
        have k70 : ai_hv t165 323 5 = some (.inl c) := (e165 323 5 (by first | decide | omega)).trans k63
        have k71 : ai_hv t165 272 5 = some (.inl (υ 4 0)) := (e165 272 5 (by first | decide | omega)).trans k64
        show en_ex _ _ _ _ (124, [(0, gx_r 7), (1, gx_w w), (2, gx_r 323)], [.inl v165], t165, n, 0) _
        refine ex_go (S := (125, [(3, .inl v165), (0, gx_r 7), (1, gx_w w), (2, gx_r 323)], [], t165, n, 0)) rfl (fun _ => rfl) rfl ?_
        refine ex_go (S := (126, [(3, .inl v165), (0, gx_r 7), (1, gx_w w), (2, gx_r 323)], [gx_r 7], t165, n, 0)) rfl (fun _ => rfl) rfl ?_
        refine ex_go (S := (127, [(3, .inl v165), (0, gx_r 7), (1, gx_w w), (2, gx_r 323)], [gx_r 323, gx_r 7], t165, n, 0)) rfl (fun _ => rfl) rfl ?_
        refine ex_go (S := (128, [(3, .inl v165), (0, gx_r 7), (1, gx_w w), (2, gx_r 323)], [.inr (.inl 0), gx_r 323, gx_r 7], t165, n, 0)) rfl (fun _ => rfl) rfl ?_
        refine ex_go (S := (129, [(3, .inl v165), (0, gx_r 7), (1, gx_w w), (2, gx_r 323)], [.inl 2, .inr (.inl 0), gx_r 323, gx_r 7], t165, n, 0)) rfl (fun _ => rfl) rfl ?_
        refine ex_go (S := (130, [(3, .inl v165), (0, gx_r 7), (1, gx_w w), (2, gx_r 323)], [.inl v165, .inl 2, .inr (.inl 0), gx_r 323, gx_r 7], t165, n, 0)) rfl (fun _ => rfl) rfl ?_
        refine ex_go (S := (131, [(3, .inl v165), (0, gx_r 7), (1, gx_w w), (2, gx_r 323)], [gx_r 7, .inl v165, .inl 2, .inr (.inl 0), gx_r 323, gx_r 7], t165, n, 0)) rfl (fun _ => rfl) rfl ?_
        refine gxo_ref (a := 7) (c := 1) rfl s165.1 rfl rfl rfl rfl rfl ?_
        refine ex_go (S := (135, [(3, .inl v165), (0, gx_r 7), (1, gx_w w), (2, gx_r 323)], [.inl 1, gx_r 1, .inl v165, .inl 2, .inr (.inl 0), gx_r 323, gx_r 7], t165, n, 0)) rfl (fun _ => rfl) rfl ?_
        refine ex_go (S := (138, [(3, .inl v165), (0, gx_r 7), (1, gx_w w), (2, gx_r 323)], [.inl 999, .inl 1, gx_r 1, .inl v165, .inl 2, .inr (.inl 0), gx_r 323, gx_r 7], t165, n, 0)) rfl (fun _ => rfl) rfl ?_
        have hT73 := cT_keep (t' := t165) hT (fun c i h => (e165 c i (by first | decide | omega)).trans (e159 c i (by first | decide | omega)))
        obtain ⟨_, r172, v172, t172, a172, f172, rfl, s172, e172, z172, q172⟩ := pc_takeNumber (d + 1) n (s165) hT73 (by first | decide | omega) (lo := 1) (hi := 999) (by first | decide | omega) (by first | decide | omega) (by first | decide | omega)
        have b172 := s172.2.2.2
        have y172 := z172.trans (congrArg (fn S m N 1 999) y165)
        refine gx_callo (a := 1) rfl rfl s165.1 rfl rfl rfl r172 rfl ?_
        have k74 : ai_hv t172 7 1 = some (gx_r 257) := (e172 7 1 (by first | decide | omega)).trans k67
        have k75 : ai_hv t172 257 0 = some (.inl (υ 0 0)) := (e172 257 0 (by first | decide | omega)).trans k68
        have k76 : ai_hv t172 257 1 = some (.inl (υ 1 0)) := (e172 257 1 (by first | decide | omega)).trans k69
        have k77 : ai_hv t172 323 5 = some (.inl c) := (e172 323 5 (by first | decide | omega)).trans k70
        have k78 : ai_hv t172 272 5 = some (.inl (υ 4 0)) := (e172 272 5 (by first | decide | omega)).trans k71
        show en_ex _ _ _ _ (141, [(3, .inl v165), (0, gx_r 7), (1, gx_w w), (2, gx_r 323)], [.inl v172, .inl v165, .inl 2, .inr (.inl 0), gx_r 323, gx_r 7], t172, n, 0) _
        refine ex_go (S := (142, [(3, .inl v165), (0, gx_r 7), (1, gx_w w), (2, gx_r 323)], [.inl 0, .inl v172, .inl v165, .inl 2, .inr (.inl 0), gx_r 323, gx_r 7], t172, n, 0)) rfl (fun _ => rfl) rfl ?_
        have hT80 := cT_keep (t' := t172) hT (fun c i h => (e172 c i (by first | decide | omega)).trans ((e165 c i (by first | decide | omega)).trans (e159 c i (by first | decide | omega))))
        obtain ⟨_, r179, t179, a179, f179, rfl, s179, e179, z179, q179, u179⟩ := pc_endRow323 (d) n (s172) hT80 (by first | decide | omega) (x := 0) (y1 := 2) (y2 := v165) (y3 := v172) (y4 := 0) k77 (fun h0 => ⟨by omega, (ai_in_h (by first | decide | omega) (by first | decide | omega) (by first | decide | omega))⟩)
        have b179 := s179.2.2.2
        refine gx_callo (a := 7) rfl rfl s172.1 rfl rfl rfl r179 rfl ?_
        have k81 : ai_hv t179 7 1 = some (gx_r 257) := (e179 7 1 (by first | decide | omega)).trans k74
        have k82 : ai_hv t179 257 0 = some (.inl (υ 0 0)) := (e179 257 0 (by first | decide | omega)).trans k75
        have k83 : ai_hv t179 257 1 = some (.inl (υ 1 0)) := (e179 257 1 (by first | decide | omega)).trans k76
        have k84 : ai_hv t179 272 5 = some (.inl (υ 4 0)) := (e179 272 5 (by first | decide | omega)).trans k78
        show en_ex _ _ _ _ (145, [(3, .inl v165), (0, gx_r 7), (1, gx_w w), (2, gx_r 323)], [], t179, n, 0) _
        refine ex_go (S := (184, [(3, .inl v165), (0, gx_r 7), (1, gx_w w), (2, gx_r 323)], [], t179, n, 0)) rfl (fun _ => rfl) rfl ?_
        refine ex_ret (r := (none, t179, n, 0)) rfl (fun _ => rfl) ?_
        have hcw : f179 = 0 → crw S0 m0 υ S m (a + 1) v165 := fun h9 => by
          have h8 := wc165 (by first | decide | omega)
          rw [show a159 = a + 1 by omega] at h8
          exact h8
        have hwd : sp_wd S m N a 24 := by rw [← hc58]; exact hw2
        have hT85 := cT_keep (t' := t179) hT (fun c i h => (e179 c i (by first | decide | omega)).trans ((e172 c i (by first | decide | omega)).trans ((e165 c i (by first | decide | omega)).trans (e159 c i (by first | decide | omega)))))
        exact ⟨_, rfl, t179, a179, f179, rfl, s179, hT85, (fun c' i h => (e179 c' i (by first | decide | omega)).trans ((e172 c' i (by first | decide | omega)).trans ((e165 c' i (by first | decide | omega)).trans (e159 c' i (by first | decide | omega))))), ⟨(a172, f172), Or.inr (Or.inr (Or.inl ⟨hwd, y172⟩)), z179⟩, by omega, fun h0 => ⟨(u179 h0).1, Or.inr (Or.inr (Or.inl ⟨hwd, (u179 h0).2.2.1, ⟨v165, hcw (by first | decide | omega), (u179 h0).2.2.2.1⟩, (u179 h0).2.2.2.2.1.trans (by rw [show v172 = sp_nv S m (a + 2) by rw [← show a165 = a + 2 by omega]; omega])⟩))⟩⟩
      · refine gx_acnf rfl (by first | decide | omega) (by first | decide | omega) hc58 rfl ?_
        refine ex_go (S := (149, [(0, gx_r 7), (1, gx_w w), (2, gx_r 323)], [gx_w w], t0, n, 0)) rfl (fun _ => rfl) rfl ?_
        refine ex_go (S := (152, [(0, gx_r 7), (1, gx_w w), (2, gx_r 323)], [gx_w 25, gx_w w], t0, n, 0)) rfl (fun _ => rfl) rfl ?_
        by_cases hc86 : w = 25
        · refine gx_acnt rfl (by first | decide | omega) (by first | decide | omega) hc86 rfl ?_
          refine ex_go (S := (156, [(0, gx_r 7), (1, gx_w w), (2, gx_r 323)], [gx_r 7], t0, n, 0)) rfl (fun _ => rfl) rfl ?_
          refine ex_go (S := (157, [(0, gx_r 7), (1, gx_w w), (2, gx_r 323)], [gx_r 323, gx_r 7], t0, n, 0)) rfl (fun _ => rfl) rfl ?_
          obtain ⟨_, r187, t187, a187, f187, rfl, s187, e187, y187, q187⟩ := pc_startRow323 (d + 1) n (s0) hT ha kc (by first | decide | omega)
          have b187 := s187.2.2.2
          refine gx_callo (a := 7) rfl rfl s0.1 rfl rfl rfl r187 rfl ?_
          have k88 : ai_hv t187 7 1 = some (gx_r 257) := (e187 7 1 (by first | decide | omega)).trans hP
          have k89 : ai_hv t187 257 0 = some (.inl (υ 0 0)) := (e187 257 0 (by first | decide | omega)).trans ko
          have k90 : ai_hv t187 257 1 = some (.inl (υ 1 0)) := (e187 257 1 (by first | decide | omega)).trans kd
          have k91 : ai_hv t187 323 5 = some (.inl c) := (e187 323 5 (by first | decide | omega)).trans kc
          have k92 : ai_hv t187 272 5 = some (.inl (υ 4 0)) := (e187 272 5 (by first | decide | omega)).trans kq5
          show en_ex _ _ _ _ (160, [(0, gx_r 7), (1, gx_w w), (2, gx_r 323)], [], t187, n, 0) _
          refine ex_go (S := (161, [(0, gx_r 7), (1, gx_w w), (2, gx_r 323)], [gx_r 7], t187, n, 0)) rfl (fun _ => rfl) rfl ?_
          refine ex_go (S := (162, [(0, gx_r 7), (1, gx_w w), (2, gx_r 323)], [gx_r 323, gx_r 7], t187, n, 0)) rfl (fun _ => rfl) rfl ?_
          refine ex_go (S := (163, [(0, gx_r 7), (1, gx_w w), (2, gx_r 323)], [.inr (.inl 0), gx_r 323, gx_r 7], t187, n, 0)) rfl (fun _ => rfl) rfl ?_
          refine ex_go (S := (164, [(0, gx_r 7), (1, gx_w w), (2, gx_r 323)], [.inl 3, .inr (.inl 0), gx_r 323, gx_r 7], t187, n, 0)) rfl (fun _ => rfl) rfl ?_
          refine ex_go (S := (165, [(0, gx_r 7), (1, gx_w w), (2, gx_r 323)], [gx_r 7, .inl 3, .inr (.inl 0), gx_r 323, gx_r 7], t187, n, 0)) rfl (fun _ => rfl) rfl ?_
          have hT94 := cT_keep (t' := t187) hT (fun c i h => e187 c i (by first | decide | omega))
          obtain ⟨_, r193, v193, t193, a193, f193, rfl, s193, e193, z193, q193, wc193⟩ := pc_crewHere257 (d) n (s187) hT94 (by first | decide | omega) k88 k92 (fun i hi => (e187 273 i (by first | decide | omega)).trans (hn i hi)) h3 hc
          have b193 := s193.2.2.2
          have y193 := z193.trans (congrArg (fk S m N (tcr S0 m0 υ S m)) y187)
          refine gx_callo (a := 7) rfl rfl s187.1 rfl rfl rfl r193 rfl ?_
          have k95 : ai_hv t193 7 1 = some (gx_r 257) := (e193 7 1 (by first | decide | omega)).trans k88
          have k96 : ai_hv t193 257 0 = some (.inl (υ 0 0)) := (e193 257 0 (by first | decide | omega)).trans k89
          have k97 : ai_hv t193 257 1 = some (.inl (υ 1 0)) := (e193 257 1 (by first | decide | omega)).trans k90
          have k98 : ai_hv t193 323 5 = some (.inl c) := (e193 323 5 (by first | decide | omega)).trans k91
          have k99 : ai_hv t193 272 5 = some (.inl (υ 4 0)) := (e193 272 5 (by first | decide | omega)).trans k92
          show en_ex _ _ _ _ (168, [(0, gx_r 7), (1, gx_w w), (2, gx_r 323)], [.inl v193, .inl 3, .inr (.inl 0), gx_r 323, gx_r 7], t193, n, 0) _
          refine ex_go (S := (169, [(0, gx_r 7), (1, gx_w w), (2, gx_r 323)], [.inl 0, .inl v193, .inl 3, .inr (.inl 0), gx_r 323, gx_r 7], t193, n, 0)) rfl (fun _ => rfl) rfl ?_
          refine ex_go (S := (170, [(0, gx_r 7), (1, gx_w w), (2, gx_r 323)], [.inl 0, .inl 0, .inl v193, .inl 3, .inr (.inl 0), gx_r 323, gx_r 7], t193, n, 0)) rfl (fun _ => rfl) rfl ?_
          have hT101 := cT_keep (t' := t193) hT (fun c i h => (e193 c i (by first | decide | omega)).trans (e187 c i (by first | decide | omega)))
          obtain ⟨_, r200, t200, a200, f200, rfl, s200, e200, z200, q200, u200⟩ := pc_endRow323 (d) n (s193) hT101 (by first | decide | omega) (x := 0) (y1 := 3) (y2 := v193) (y3 := 0) (y4 := 0) k98 (fun h0 => ⟨by omega, (ai_in_h (by first | decide | omega) (by first | decide | omega) (by first | decide | omega))⟩)
          have b200 := s200.2.2.2
          refine gx_callo (a := 7) rfl rfl s193.1 rfl rfl rfl r200 rfl ?_
          have k102 : ai_hv t200 7 1 = some (gx_r 257) := (e200 7 1 (by first | decide | omega)).trans k95
          have k103 : ai_hv t200 257 0 = some (.inl (υ 0 0)) := (e200 257 0 (by first | decide | omega)).trans k96
          have k104 : ai_hv t200 257 1 = some (.inl (υ 1 0)) := (e200 257 1 (by first | decide | omega)).trans k97
          have k105 : ai_hv t200 272 5 = some (.inl (υ 4 0)) := (e200 272 5 (by first | decide | omega)).trans k99
          show en_ex _ _ _ _ (173, [(0, gx_r 7), (1, gx_w w), (2, gx_r 323)], [], t200, n, 0) _
          refine ex_go (S := (184, [(0, gx_r 7), (1, gx_w w), (2, gx_r 323)], [], t200, n, 0)) rfl (fun _ => rfl) rfl ?_
          refine ex_ret (r := (none, t200, n, 0)) rfl (fun _ => rfl) ?_
          have hcw : f200 = 0 → crw S0 m0 υ S m (a + 1) v193 := fun h9 => by
            have h8 := wc193 (by first | decide | omega)
            rw [show a187 = a + 1 by omega] at h8
            exact h8
          have hwd : sp_wd S m N a 25 := by rw [← hc86]; exact hw2
          have hT106 := cT_keep (t' := t200) hT (fun c i h => (e200 c i (by first | decide | omega)).trans ((e193 c i (by first | decide | omega)).trans (e187 c i (by first | decide | omega))))
          exact ⟨_, rfl, t200, a200, f200, rfl, s200, hT106, (fun c' i h => (e200 c' i (by first | decide | omega)).trans ((e193 c' i (by first | decide | omega)).trans (e187 c' i (by first | decide | omega)))), ⟨(a193, f193), Or.inr (Or.inr (Or.inr (Or.inl ⟨hwd, y193⟩))), z200⟩, by omega, fun h0 => ⟨(u200 h0).1, Or.inr (Or.inr (Or.inr ⟨hwd, (u200 h0).2.2.1, (u200 h0).2.2.2.2.1, v193, hcw (by first | decide | omega), (u200 h0).2.2.2.1⟩))⟩⟩
        · refine gx_acnf rfl (by first | decide | omega) (by first | decide | omega) hc86 rfl ?_
          refine ex_go (S := (177, [(0, gx_r 7), (1, gx_w w), (2, gx_r 323)], [gx_r 7], t0, n, 0)) rfl (fun _ => rfl) rfl ?_
          refine gxo_ref (a := 7) (c := 1) rfl s0.1 rfl rfl rfl rfl rfl ?_
          refine ex_go (S := (181, [(0, gx_r 7), (1, gx_w w), (2, gx_r 323)], [.inl 1, gx_r 1], t0, n, 0)) rfl (fun _ => rfl) rfl ?_
          obtain ⟨_, r207, t207, a207, f207, rfl, s207, e207, q207⟩ := pc_wrong (d + 2) n (s0) hT (by first | decide | omega) (w := 1) (by first | decide | omega)
          have b207 := s207.2.2.2
          refine gx_callo (a := 1) rfl rfl s0.1 rfl rfl rfl r207 rfl ?_
          have k108 : ai_hv t207 7 1 = some (gx_r 257) := (e207 7 1 (by first | decide | omega)).trans hP
          have k109 : ai_hv t207 257 0 = some (.inl (υ 0 0)) := (e207 257 0 (by first | decide | omega)).trans ko
          have k110 : ai_hv t207 257 1 = some (.inl (υ 1 0)) := (e207 257 1 (by first | decide | omega)).trans kd
          have k111 : ai_hv t207 323 5 = some (.inl c) := (e207 323 5 (by first | decide | omega)).trans kc
          have k112 : ai_hv t207 272 5 = some (.inl (υ 4 0)) := (e207 272 5 (by first | decide | omega)).trans kq5
          show en_ex _ _ _ _ (184, [(0, gx_r 7), (1, gx_w w), (2, gx_r 323)], [], t207, n, 0) _
          refine ex_ret (r := (none, t207, n, 0)) rfl (fun _ => rfl) ?_
          have hno : ∀ w, w = 1 ∨ w = 23 ∨ w = 24 ∨ w = 25 → ¬ sp_wd S m N a w := fun w' hw z => by
            have h9 := sp_wd_one (by first | decide | omega) (by first | decide | omega) hw2 z
            omega
          have hT113 := cT_keep (t' := t207) hT (fun c i h => e207 c i (by first | decide | omega))
          refine ⟨_, rfl, t207, a207, f207, rfl, s207, hT113, (fun c' i h => e207 c' i (by first | decide | omega)), ⟨fx S m 1 a, Or.inr (Or.inr (Or.inr (Or.inr ⟨hno, rfl⟩))), ?_⟩, by omega, fun h0 => by omega⟩
          unfold fx
          rw [fs_no (by first | decide | omega)]; exact Prod.ext (by show a207 = a; omega) (by show f207 = 1 + 16 * sp_st S m a; omega)
theorem pc_weekLine257_329_0 (d n : Nat) {t0 : en_H} {a c : Nat} {S S0 : Nat → Nat} {m N m0 N0 : Nat} {υ : Nat → Nat → Nat} (s0 : cS t0 a 0) (hT : cT t0 S m N) (ha : a < N) (hP : ai_hv t0 7 1 = some (gx_r 257)) (kq5 : ai_hv t0 272 5 = some (.inl (υ 4 0))) (hn : ∀ i, i < υ 4 0 → ai_hv t0 273 i = some (.inr (.inl (sp_wv S0 m0 (υ 21 i + 1))))) (h3 : W3 S0 m0 N0 υ) (hc : WC S0 m0 N0 υ) (ko : ai_hv t0 257 0 = some (.inl (υ 0 0))) (kd : ai_hv t0 257 1 = some (.inl (υ 1 0))) (kc : ai_hv t0 329 5 = some (.inl c)) (hcc : c ≤ 24) (hw2 : ∀ w, w < 42 → ¬ sp_wd S m N a w) : ∃ r, en_u (d + 4) 194 [gx_r 7, .inr (.inr (.inl none)), gx_r 329] t0 n = some r ∧ ∃ t' a' f', r = (none, t', n, 0) ∧ cS t' a' f' ∧ cT t' S m N ∧ (∀ c' i, ¬ ((c' = 1 ∧ (i = 1 ∨ i = 8)) ∨ (c' = 329 ∧ i = 5) ∨ ((330 ≤ c' ∧ c' ≤ 334) ∧ i = c)) → ai_hv t' c' i = ai_hv t0 c' i) ∧ (∃ q, wl S m N (υ 0 0) (υ 1 0) c (tcr S0 m0 υ S m) a q ∧ (a', f') = fs S m N 59 q) ∧ (a' ≤ N ∧ (f' = 0 → a < a' ∧ c < 24)) ∧ (f' = 0 → ai_hv t' 329 5 = some (.inl (c + 1)) ∧ LCr S0 m0 υ S m N t' 329 c a) := by
  have b0 := s0.2.2.2
  have hN := hT.2.2.2.2.2.2.1
  have hBB := h3.1.1
  refine en_u_ex (d := d + 3) rfl ?_
  show en_ex _ _ _ _ (0, [(0, gx_r 7), (1, .inr (.inr (.inl none))), (2, gx_r 329)], [], t0, n, 0) _
  refine ex_go (S := (1, [(0, gx_r 7), (1, .inr (.inr (.inl none))), (2, gx_r 329)], [.inr (.inr (.inl none))], t0, n, 0)) rfl (fun _ => rfl) rfl ?_
  refine ex_go (S := (4, [(0, gx_r 7), (1, .inr (.inr (.inl none))), (2, gx_r 329)], [gx_w 1, .inr (.inr (.inl none))], t0, n, 0)) rfl (fun _ => rfl) rfl ?_
  refine ex_go (S := (34, [(0, gx_r 7), (1, .inr (.inr (.inl none))), (2, gx_r 329)], [], t0, n, 0)) rfl (fun _ => rfl) rfl ?_
  refine ex_go (S := (35, [(0, gx_r 7), (1, .inr (.inr (.inl none))), (2, gx_r 329)], [.inr (.inr (.inl none))], t0, n, 0)) rfl (fun _ => rfl) rfl ?_
  refine ex_go (S := (38, [(0, gx_r 7), (1, .inr (.inr (.inl none))), (2, gx_r 329)], [gx_w 23, .inr (.inr (.inl none))], t0, n, 0)) rfl (fun _ => rfl) rfl ?_
  refine ex_go (S := (108, [(0, gx_r 7), (1, .inr (.inr (.inl none))), (2, gx_r 329)], [], t0, n, 0)) rfl (fun _ => rfl) rfl ?_
  refine ex_go (S := (109, [(0, gx_r 7), (1, .inr (.inr (.inl none))), (2, gx_r 329)], [.inr (.inr (.inl none))], t0, n, 0)) rfl (fun _ => rfl) rfl ?_
  refine ex_go (S := (112, [(0, gx_r 7), (1, .inr (.inr (.inl none))), (2, gx_r 329)], [gx_w 24, .inr (.inr (.inl none))], t0, n, 0)) rfl (fun _ => rfl) rfl ?_
  refine ex_go (S := (148, [(0, gx_r 7), (1, .inr (.inr (.inl none))), (2, gx_r 329)], [], t0, n, 0)) rfl (fun _ => rfl) rfl ?_
  refine ex_go (S := (149, [(0, gx_r 7), (1, .inr (.inr (.inl none))), (2, gx_r 329)], [.inr (.inr (.inl none))], t0, n, 0)) rfl (fun _ => rfl) rfl ?_
  refine ex_go (S := (152, [(0, gx_r 7), (1, .inr (.inr (.inl none))), (2, gx_r 329)], [gx_w 25, .inr (.inr (.inl none))], t0, n, 0)) rfl (fun _ => rfl) rfl ?_
  refine ex_go (S := (176, [(0, gx_r 7), (1, .inr (.inr (.inl none))), (2, gx_r 329)], [], t0, n, 0)) rfl (fun _ => rfl) rfl ?_
  refine ex_go (S := (177, [(0, gx_r 7), (1, .inr (.inr (.inl none))), (2, gx_r 329)], [gx_r 7], t0, n, 0)) rfl (fun _ => rfl) rfl ?_
  refine gxo_ref (a := 7) (c := 1) rfl s0.1 rfl rfl rfl rfl rfl ?_
  refine ex_go (S := (181, [(0, gx_r 7), (1, .inr (.inr (.inl none))), (2, gx_r 329)], [.inl 1, gx_r 1], t0, n, 0)) rfl (fun _ => rfl) rfl ?_
  obtain ⟨_, r101, t101, a101, f101, rfl, s101, e101, q101⟩ := pc_wrong (d + 2) n (s0) hT (by first | decide | omega) (w := 1) (by first | decide | omega)
  have b101 := s101.2.2.2
  refine gx_callo (a := 1) rfl rfl s0.1 rfl rfl rfl r101 rfl ?_
  have k2 : ai_hv t101 7 1 = some (gx_r 257) := (e101 7 1 (by first | decide | omega)).trans hP
  have k3 : ai_hv t101 257 0 = some (.inl (υ 0 0)) := (e101 257 0 (by first | decide | omega)).trans ko
  have k4 : ai_hv t101 257 1 = some (.inl (υ 1 0)) := (e101 257 1 (by first | decide | omega)).trans kd
  have k5 : ai_hv t101 329 5 = some (.inl c) := (e101 329 5 (by first | decide | omega)).trans kc
  have k6 : ai_hv t101 272 5 = some (.inl (υ 4 0)) := (e101 272 5 (by first | decide | omega)).trans kq5
  show en_ex _ _ _ _ (184, [(0, gx_r 7), (1, .inr (.inr (.inl none))), (2, gx_r 329)], [], t101, n, 0) _
  refine ex_ret (r := (none, t101, n, 0)) rfl (fun _ => rfl) ?_
  have hno : ∀ w, w = 1 ∨ w = 23 ∨ w = 24 ∨ w = 25 → ¬ sp_wd S m N a w := fun w hw z => hw2 w (by first | decide | omega) z
  have hT7 := cT_keep (t' := t101) hT (fun c i h => e101 c i (by first | decide | omega))
  refine ⟨_, rfl, t101, a101, f101, rfl, s101, hT7, (fun c' i h => e101 c' i (by first | decide | omega)), ⟨fx S m 1 a, Or.inr (Or.inr (Or.inr (Or.inr ⟨hno, rfl⟩))), ?_⟩, by omega, fun h0 => by omega⟩
  unfold fx
  rw [fs_no (by first | decide | omega)]; exact Prod.ext (by show a101 = a; omega) (by show f101 = 1 + 16 * sp_st S m a; omega)
theorem pc_weekLine257_329_1 (d n : Nat) {t0 : en_H} {a c w : Nat} {S S0 : Nat → Nat} {m N m0 N0 : Nat} {υ : Nat → Nat → Nat} (s0 : cS t0 a 0) (hT : cT t0 S m N) (ha : a < N) (hP : ai_hv t0 7 1 = some (gx_r 257)) (kq5 : ai_hv t0 272 5 = some (.inl (υ 4 0))) (hn : ∀ i, i < υ 4 0 → ai_hv t0 273 i = some (.inr (.inl (sp_wv S0 m0 (υ 21 i + 1))))) (h3 : W3 S0 m0 N0 υ) (hc : WC S0 m0 N0 υ) (ko : ai_hv t0 257 0 = some (.inl (υ 0 0))) (kd : ai_hv t0 257 1 = some (.inl (υ 1 0))) (kc : ai_hv t0 329 5 = some (.inl c)) (hcc : c ≤ 24) (hw : w < 42) (hw2 : sp_wd S m N a w) : ∃ r, en_u (d + 4) 194 [gx_r 7, gx_w w, gx_r 329] t0 n = some r ∧ ∃ t' a' f', r = (none, t', n, 0) ∧ cS t' a' f' ∧ cT t' S m N ∧ (∀ c' i, ¬ ((c' = 1 ∧ (i = 1 ∨ i = 8)) ∨ (c' = 329 ∧ i = 5) ∨ ((330 ≤ c' ∧ c' ≤ 334) ∧ i = c)) → ai_hv t' c' i = ai_hv t0 c' i) ∧ (∃ q, wl S m N (υ 0 0) (υ 1 0) c (tcr S0 m0 υ S m) a q ∧ (a', f') = fs S m N 59 q) ∧ (a' ≤ N ∧ (f' = 0 → a < a' ∧ c < 24)) ∧ (f' = 0 → ai_hv t' 329 5 = some (.inl (c + 1)) ∧ LCr S0 m0 υ S m N t' 329 c a) := by
  have b0 := s0.2.2.2
  have hN := hT.2.2.2.2.2.2.1
  have hBB := h3.1.1
  refine en_u_ex (d := d + 3) rfl ?_
  show en_ex _ _ _ _ (0, [(0, gx_r 7), (1, gx_w w), (2, gx_r 329)], [], t0, n, 0) _
  refine ex_go (S := (1, [(0, gx_r 7), (1, gx_w w), (2, gx_r 329)], [gx_w w], t0, n, 0)) rfl (fun _ => rfl) rfl ?_
  refine ex_go (S := (4, [(0, gx_r 7), (1, gx_w w), (2, gx_r 329)], [gx_w 1, gx_w w], t0, n, 0)) rfl (fun _ => rfl) rfl ?_
  by_cases hc1 : w = 1
  · refine gx_acnt rfl (by first | decide | omega) (by first | decide | omega) hc1 rfl ?_
    refine ex_go (S := (8, [(0, gx_r 7), (1, gx_w w), (2, gx_r 329)], [gx_r 7], t0, n, 0)) rfl (fun _ => rfl) rfl ?_
    refine ex_go (S := (9, [(0, gx_r 7), (1, gx_w w), (2, gx_r 329)], [gx_r 329, gx_r 7], t0, n, 0)) rfl (fun _ => rfl) rfl ?_
    obtain ⟨_, r102, t102, a102, f102, rfl, s102, e102, y102, q102⟩ := pc_startRow329 (d + 1) n (s0) hT ha kc (by first | decide | omega)
    have b102 := s102.2.2.2
    refine gx_callo (a := 7) rfl rfl s0.1 rfl rfl rfl r102 rfl ?_
    have k3 : ai_hv t102 7 1 = some (gx_r 257) := (e102 7 1 (by first | decide | omega)).trans hP
    have k4 : ai_hv t102 257 0 = some (.inl (υ 0 0)) := (e102 257 0 (by first | decide | omega)).trans ko
    have k5 : ai_hv t102 257 1 = some (.inl (υ 1 0)) := (e102 257 1 (by first | decide | omega)).trans kd
    have k6 : ai_hv t102 329 5 = some (.inl c) := (e102 329 5 (by first | decide | omega)).trans kc
    have k7 : ai_hv t102 272 5 = some (.inl (υ 4 0)) := (e102 272 5 (by first | decide | omega)).trans kq5
    show en_ex _ _ _ _ (12, [(0, gx_r 7), (1, gx_w w), (2, gx_r 329)], [], t102, n, 0) _
    refine ex_go (S := (13, [(0, gx_r 7), (1, gx_w w), (2, gx_r 329)], [gx_r 7], t102, n, 0)) rfl (fun _ => rfl) rfl ?_
    refine ex_go (S := (14, [(0, gx_r 7), (1, gx_w w), (2, gx_r 329)], [gx_r 329, gx_r 7], t102, n, 0)) rfl (fun _ => rfl) rfl ?_
    refine ex_go (S := (15, [(0, gx_r 7), (1, gx_w w), (2, gx_r 329)], [.inr (.inl 0), gx_r 329, gx_r 7], t102, n, 0)) rfl (fun _ => rfl) rfl ?_
    refine ex_go (S := (16, [(0, gx_r 7), (1, gx_w w), (2, gx_r 329)], [.inl 0, .inr (.inl 0), gx_r 329, gx_r 7], t102, n, 0)) rfl (fun _ => rfl) rfl ?_
    refine ex_go (S := (17, [(0, gx_r 7), (1, gx_w w), (2, gx_r 329)], [.inl 4294967295, .inl 0, .inr (.inl 0), gx_r 329, gx_r 7], t102, n, 0)) rfl (fun _ => rfl) rfl ?_
    refine ex_go (S := (18, [(0, gx_r 7), (1, gx_w w), (2, gx_r 329)], [gx_r 7, .inl 4294967295, .inl 0, .inr (.inl 0), gx_r 329, gx_r 7], t102, n, 0)) rfl (fun _ => rfl) rfl ?_
    refine gxo_ref (a := 7) (c := 1) rfl s102.1 rfl rfl rfl rfl rfl ?_
    refine ex_go (S := (22, [(0, gx_r 7), (1, gx_w w), (2, gx_r 329)], [.inl 1, gx_r 1, .inl 4294967295, .inl 0, .inr (.inl 0), gx_r 329, gx_r 7], t102, n, 0)) rfl (fun _ => rfl) rfl ?_
    refine ex_go (S := (24, [(0, gx_r 7), (1, gx_w w), (2, gx_r 329)], [.inl 30, .inl 1, gx_r 1, .inl 4294967295, .inl 0, .inr (.inl 0), gx_r 329, gx_r 7], t102, n, 0)) rfl (fun _ => rfl) rfl ?_
    have hT9 := cT_keep (t' := t102) hT (fun c i h => e102 c i (by first | decide | omega))
    obtain ⟨_, r108, v108, t108, a108, f108, rfl, s108, e108, z108, q108⟩ := pc_takeNumber (d + 1) n (s102) hT9 (by first | decide | omega) (lo := 1) (hi := 30) (by first | decide | omega) (by first | decide | omega) (by first | decide | omega)
    have b108 := s108.2.2.2
    have y108 := z108.trans (congrArg (fn S m N 1 30) y102)
    refine gx_callo (a := 1) rfl rfl s102.1 rfl rfl rfl r108 rfl ?_
    have k10 : ai_hv t108 7 1 = some (gx_r 257) := (e108 7 1 (by first | decide | omega)).trans k3
    have k11 : ai_hv t108 257 0 = some (.inl (υ 0 0)) := (e108 257 0 (by first | decide | omega)).trans k4
    have k12 : ai_hv t108 257 1 = some (.inl (υ 1 0)) := (e108 257 1 (by first | decide | omega)).trans k5
    have k13 : ai_hv t108 329 5 = some (.inl c) := (e108 329 5 (by first | decide | omega)).trans k6
    have k14 : ai_hv t108 272 5 = some (.inl (υ 4 0)) := (e108 272 5 (by first | decide | omega)).trans k7
    show en_ex _ _ _ _ (27, [(0, gx_r 7), (1, gx_w w), (2, gx_r 329)], [.inl v108, .inl 4294967295, .inl 0, .inr (.inl 0), gx_r 329, gx_r 7], t108, n, 0) _
    refine ex_go (S := (28, [(0, gx_r 7), (1, gx_w w), (2, gx_r 329)], [.inl 0, .inl v108, .inl 4294967295, .inl 0, .inr (.inl 0), gx_r 329, gx_r 7], t108, n, 0)) rfl (fun _ => rfl) rfl ?_
    have hT16 := cT_keep (t' := t108) hT (fun c i h => (e108 c i (by first | decide | omega)).trans (e102 c i (by first | decide | omega)))
    obtain ⟨_, r115, t115, a115, f115, rfl, s115, e115, z115, q115, u115⟩ := pc_endRow329 (d) n (s108) hT16 (by first | decide | omega) (x := 0) (y1 := 0) (y2 := 4294967295) (y3 := v108) (y4 := 0) k13 (fun h0 => ⟨by omega, ⟨_, rfl, by decide, by decide, by decide⟩⟩)
    have b115 := s115.2.2.2
    refine gx_callo (a := 7) rfl rfl s108.1 rfl rfl rfl r115 rfl ?_
    have k17 : ai_hv t115 7 1 = some (gx_r 257) := (e115 7 1 (by first | decide | omega)).trans k10
    have k18 : ai_hv t115 257 0 = some (.inl (υ 0 0)) := (e115 257 0 (by first | decide | omega)).trans k11
    have k19 : ai_hv t115 257 1 = some (.inl (υ 1 0)) := (e115 257 1 (by first | decide | omega)).trans k12
    have k20 : ai_hv t115 272 5 = some (.inl (υ 4 0)) := (e115 272 5 (by first | decide | omega)).trans k14
    show en_ex _ _ _ _ (31, [(0, gx_r 7), (1, gx_w w), (2, gx_r 329)], [], t115, n, 0) _
    refine ex_go (S := (184, [(0, gx_r 7), (1, gx_w w), (2, gx_r 329)], [], t115, n, 0)) rfl (fun _ => rfl) rfl ?_
    refine ex_ret (r := (none, t115, n, 0)) rfl (fun _ => rfl) ?_
    have hwd : sp_wd S m N a 1 := by rw [← hc1]; exact hw2
    have hT21 := cT_keep (t' := t115) hT (fun c i h => (e115 c i (by first | decide | omega)).trans ((e108 c i (by first | decide | omega)).trans (e102 c i (by first | decide | omega))))
    exact ⟨_, rfl, t115, a115, f115, rfl, s115, hT21, (fun c' i h => (e115 c' i (by first | decide | omega)).trans ((e108 c' i (by first | decide | omega)).trans (e102 c' i (by first | decide | omega)))), ⟨(a108, f108), Or.inl ⟨hwd, y108⟩, z115⟩, by omega, fun h0 => ⟨(u115 h0).1, Or.inl ⟨hwd, (u115 h0).2.2.1, (u115 h0).2.2.2.1, (u115 h0).2.2.2.2.1.trans (by rw [show v108 = sp_nv S m (a + 1) by rw [← show a102 = a + 1 by omega]; omega])⟩⟩⟩
  · refine gx_acnf rfl (by first | decide | omega) (by first | decide | omega) hc1 rfl ?_
    refine ex_go (S := (35, [(0, gx_r 7), (1, gx_w w), (2, gx_r 329)], [gx_w w], t0, n, 0)) rfl (fun _ => rfl) rfl ?_
    refine ex_go (S := (38, [(0, gx_r 7), (1, gx_w w), (2, gx_r 329)], [gx_w 23, gx_w w], t0, n, 0)) rfl (fun _ => rfl) rfl ?_
    by_cases hc22 : w = 23
    · refine gx_acnt rfl (by first | decide | omega) (by first | decide | omega) hc22 rfl ?_
      refine ex_go (S := (42, [(0, gx_r 7), (1, gx_w w), (2, gx_r 329)], [gx_r 7], t0, n, 0)) rfl (fun _ => rfl) rfl ?_
      refine ex_go (S := (43, [(0, gx_r 7), (1, gx_w w), (2, gx_r 329)], [gx_r 329, gx_r 7], t0, n, 0)) rfl (fun _ => rfl) rfl ?_
      obtain ⟨_, r123, t123, a123, f123, rfl, s123, e123, y123, q123⟩ := pc_startRow329 (d + 1) n (s0) hT ha kc (by first | decide | omega)
      have b123 := s123.2.2.2
      refine gx_callo (a := 7) rfl rfl s0.1 rfl rfl rfl r123 rfl ?_
      have k24 : ai_hv t123 7 1 = some (gx_r 257) := (e123 7 1 (by first | decide | omega)).trans hP
      have k25 : ai_hv t123 257 0 = some (.inl (υ 0 0)) := (e123 257 0 (by first | decide | omega)).trans ko
      have k26 : ai_hv t123 257 1 = some (.inl (υ 1 0)) := (e123 257 1 (by first | decide | omega)).trans kd
      have k27 : ai_hv t123 329 5 = some (.inl c) := (e123 329 5 (by first | decide | omega)).trans kc
      have k28 : ai_hv t123 272 5 = some (.inl (υ 4 0)) := (e123 272 5 (by first | decide | omega)).trans kq5
      show en_ex _ _ _ _ (46, [(0, gx_r 7), (1, gx_w w), (2, gx_r 329)], [], t123, n, 0) _
      refine ex_go (S := (47, [(0, gx_r 7), (1, gx_w w), (2, gx_r 329)], [gx_r 7], t123, n, 0)) rfl (fun _ => rfl) rfl ?_
      have hT30 := cT_keep (t' := t123) hT (fun c i h => e123 c i (by first | decide | omega))
      obtain ⟨_, r129, v129, t129, a129, f129, rfl, s129, e129, z129, q129, wc129⟩ := pc_crewHere257 (d) n (s123) hT30 (by first | decide | omega) k24 k28 (fun i hi => (e123 273 i (by first | decide | omega)).trans (hn i hi)) h3 hc
      have b129 := s129.2.2.2
      have y129 := z129.trans (congrArg (fk S m N (tcr S0 m0 υ S m)) y123)
      refine gx_callo (a := 7) rfl rfl s123.1 rfl rfl rfl r129 rfl ?_
      have k31 : ai_hv t129 7 1 = some (gx_r 257) := (e129 7 1 (by first | decide | omega)).trans k24
      have k32 : ai_hv t129 257 0 = some (.inl (υ 0 0)) := (e129 257 0 (by first | decide | omega)).trans k25
      have k33 : ai_hv t129 257 1 = some (.inl (υ 1 0)) := (e129 257 1 (by first | decide | omega)).trans k26
      have k34 : ai_hv t129 329 5 = some (.inl c) := (e129 329 5 (by first | decide | omega)).trans k27
      have k35 : ai_hv t129 272 5 = some (.inl (υ 4 0)) := (e129 272 5 (by first | decide | omega)).trans k28
      show en_ex _ _ _ _ (50, [(0, gx_r 7), (1, gx_w w), (2, gx_r 329)], [.inl v129], t129, n, 0) _
      refine ex_go (S := (51, [(3, .inl v129), (0, gx_r 7), (1, gx_w w), (2, gx_r 329)], [], t129, n, 0)) rfl (fun _ => rfl) rfl ?_
      refine ex_go (S := (52, [(3, .inl v129), (0, gx_r 7), (1, gx_w w), (2, gx_r 329)], [gx_r 7], t129, n, 0)) rfl (fun _ => rfl) rfl ?_
      refine gxo_ref (a := 7) (c := 1) rfl s129.1 rfl rfl rfl rfl rfl ?_
      refine ex_go (S := (56, [(3, .inl v129), (0, gx_r 7), (1, gx_w w), (2, gx_r 329)], [.inl 0, gx_r 1], t129, n, 0)) rfl (fun _ => rfl) rfl ?_
      refine ex_go (S := (57, [(3, .inl v129), (0, gx_r 7), (1, gx_w w), (2, gx_r 329)], [gx_r 7, .inl 0, gx_r 1], t129, n, 0)) rfl (fun _ => rfl) rfl ?_
      refine gxo_get (a := 7) rfl s129.1 rfl rfl k31 rfl ?_
      refine gxo_get (a := 257) rfl s129.1 rfl rfl k32 rfl ?_
      refine ex_go (S := (64, [(3, .inl v129), (0, gx_r 7), (1, gx_w w), (2, gx_r 329)], [.inl 1, .inl (υ 0 0), .inl 0, gx_r 1], t129, n, 0)) rfl (fun _ => rfl) rfl ?_
      refine gx_isub rfl (by first | decide | omega) (by first | decide | omega) rfl ?_
      have hT37 := cT_keep (t' := t129) hT (fun c i h => (e129 c i (by first | decide | omega)).trans (e123 c i (by first | decide | omega)))
      obtain ⟨_, r136, v136, t136, a136, f136, rfl, s136, e136, z136, q136⟩ := pc_takeNumber (d + 1) n (s129) hT37 (by first | decide | omega) (lo := 0) (hi := (υ 0 0) - 1) (by first | decide | omega) (by first | decide | omega) (by first | decide | omega)
      have b136 := s136.2.2.2
      have y136 := z136.trans (congrArg (fn S m N 0 ((υ 0 0) - 1)) y129)
      refine gx_callo (a := 1) rfl rfl s129.1 rfl rfl rfl r136 rfl ?_
      have k38 : ai_hv t136 7 1 = some (gx_r 257) := (e136 7 1 (by first | decide | omega)).trans k31
      have k39 : ai_hv t136 257 0 = some (.inl (υ 0 0)) := (e136 257 0 (by first | decide | omega)).trans k32
      have k40 : ai_hv t136 257 1 = some (.inl (υ 1 0)) := (e136 257 1 (by first | decide | omega)).trans k33
      have k41 : ai_hv t136 329 5 = some (.inl c) := (e136 329 5 (by first | decide | omega)).trans k34
      have k42 : ai_hv t136 272 5 = some (.inl (υ 4 0)) := (e136 272 5 (by first | decide | omega)).trans k35
      show en_ex _ _ _ _ (68, [(3, .inl v129), (0, gx_r 7), (1, gx_w w), (2, gx_r 329)], [.inl v136], t136, n, 0) _
      refine ex_go (S := (70, [(4, .inl v136), (3, .inl v129), (0, gx_r 7), (1, gx_w w), (2, gx_r 329)], [], t136, n, 0)) rfl (fun _ => rfl) rfl ?_
      refine ex_go (S := (71, [(4, .inl v136), (3, .inl v129), (0, gx_r 7), (1, gx_w w), (2, gx_r 329)], [gx_r 7], t136, n, 0)) rfl (fun _ => rfl) rfl ?_
      refine gxo_ref (a := 7) (c := 1) rfl s136.1 rfl rfl rfl rfl rfl ?_
      refine ex_go (S := (75, [(4, .inl v136), (3, .inl v129), (0, gx_r 7), (1, gx_w w), (2, gx_r 329)], [.inl 0, gx_r 1], t136, n, 0)) rfl (fun _ => rfl) rfl ?_
      refine ex_go (S := (76, [(4, .inl v136), (3, .inl v129), (0, gx_r 7), (1, gx_w w), (2, gx_r 329)], [gx_r 7, .inl 0, gx_r 1], t136, n, 0)) rfl (fun _ => rfl) rfl ?_
      refine gxo_get (a := 7) rfl s136.1 rfl rfl k38 rfl ?_
      refine gxo_get (a := 257) rfl s136.1 rfl rfl k40 rfl ?_
      refine ex_go (S := (83, [(4, .inl v136), (3, .inl v129), (0, gx_r 7), (1, gx_w w), (2, gx_r 329)], [.inl 1, .inl (υ 1 0), .inl 0, gx_r 1], t136, n, 0)) rfl (fun _ => rfl) rfl ?_
      refine gx_isub rfl (by first | decide | omega) (by first | decide | omega) rfl ?_
      have hT44 := cT_keep (t' := t136) hT (fun c i h => (e136 c i (by first | decide | omega)).trans ((e129 c i (by first | decide | omega)).trans (e123 c i (by first | decide | omega))))
      obtain ⟨_, r143, v143, t143, a143, f143, rfl, s143, e143, z143, q143⟩ := pc_takeNumber (d + 1) n (s136) hT44 (by first | decide | omega) (lo := 0) (hi := (υ 1 0) - 1) (by first | decide | omega) (by first | decide | omega) (by first | decide | omega)
      have b143 := s143.2.2.2
      have y143 := z143.trans (congrArg (fn S m N 0 ((υ 1 0) - 1)) y136)
      refine gx_callo (a := 1) rfl rfl s136.1 rfl rfl rfl r143 rfl ?_
      have k45 : ai_hv t143 7 1 = some (gx_r 257) := (e143 7 1 (by first | decide | omega)).trans k38
      have k46 : ai_hv t143 257 0 = some (.inl (υ 0 0)) := (e143 257 0 (by first | decide | omega)).trans k39
      have k47 : ai_hv t143 257 1 = some (.inl (υ 1 0)) := (e143 257 1 (by first | decide | omega)).trans k40
      have k48 : ai_hv t143 329 5 = some (.inl c) := (e143 329 5 (by first | decide | omega)).trans k41
      have k49 : ai_hv t143 272 5 = some (.inl (υ 4 0)) := (e143 272 5 (by first | decide | omega)).trans k42
      show en_ex _ _ _ _ (87, [(4, .inl v136), (3, .inl v129), (0, gx_r 7), (1, gx_w w), (2, gx_r 329)], [.inl v143], t143, n, 0) _
      refine ex_go (S := (89, [(5, .inl v143), (4, .inl v136), (3, .inl v129), (0, gx_r 7), (1, gx_w w), (2, gx_r 329)], [], t143, n, 0)) rfl (fun _ => rfl) rfl ?_
      refine ex_go (S := (90, [(5, .inl v143), (4, .inl v136), (3, .inl v129), (0, gx_r 7), (1, gx_w w), (2, gx_r 329)], [gx_r 7], t143, n, 0)) rfl (fun _ => rfl) rfl ?_
      refine ex_go (S := (91, [(5, .inl v143), (4, .inl v136), (3, .inl v129), (0, gx_r 7), (1, gx_w w), (2, gx_r 329)], [gx_r 329, gx_r 7], t143, n, 0)) rfl (fun _ => rfl) rfl ?_
      refine ex_go (S := (92, [(5, .inl v143), (4, .inl v136), (3, .inl v129), (0, gx_r 7), (1, gx_w w), (2, gx_r 329)], [.inr (.inl 0), gx_r 329, gx_r 7], t143, n, 0)) rfl (fun _ => rfl) rfl ?_
      refine ex_go (S := (93, [(5, .inl v143), (4, .inl v136), (3, .inl v129), (0, gx_r 7), (1, gx_w w), (2, gx_r 329)], [.inl 1, .inr (.inl 0), gx_r 329, gx_r 7], t143, n, 0)) rfl (fun _ => rfl) rfl ?_
      refine ex_go (S := (94, [(5, .inl v143), (4, .inl v136), (3, .inl v129), (0, gx_r 7), (1, gx_w w), (2, gx_r 329)], [.inl v129, .inl 1, .inr (.inl 0), gx_r 329, gx_r 7], t143, n, 0)) rfl (fun _ => rfl) rfl ?_
      refine ex_go (S := (96, [(5, .inl v143), (4, .inl v136), (3, .inl v129), (0, gx_r 7), (1, gx_w w), (2, gx_r 329)], [.inl v136, .inl v129, .inl 1, .inr (.inl 0), gx_r 329, gx_r 7], t143, n, 0)) rfl (fun _ => rfl) rfl ?_
      refine ex_go (S := (98, [(5, .inl v143), (4, .inl v136), (3, .inl v129), (0, gx_r 7), (1, gx_w w), (2, gx_r 329)], [.inl v143, .inl v136, .inl v129, .inl 1, .inr (.inl 0), gx_r 329, gx_r 7], t143, n, 0)) rfl (fun _ => rfl) rfl ?_
      obtain ⟨_, r50, rfl⟩ := pc_placeOf (d + 2) n (t0 := t143) (x := v136) (y := v143) (by first | decide | omega) (by first | decide | omega)
      refine ex_stat rfl rfl rfl rfl rfl r50 (Nat.le_refl _) rfl ?_
      show en_ex _ _ _ _ (101, [(5, .inl v143), (4, .inl v136), (3, .inl v129), (0, gx_r 7), (1, gx_w w), (2, gx_r 329)], [.inl (v136 + (8 * v143)), .inl v129, .inl 1, .inr (.inl 0), gx_r 329, gx_r 7], t143, n, 0) _
      refine ex_go (S := (102, [(5, .inl v143), (4, .inl v136), (3, .inl v129), (0, gx_r 7), (1, gx_w w), (2, gx_r 329)], [.inl 0, .inl (v136 + (8 * v143)), .inl v129, .inl 1, .inr (.inl 0), gx_r 329, gx_r 7], t143, n, 0)) rfl (fun _ => rfl) rfl ?_
      have hT52 := cT_keep (t' := t143) hT (fun c i h => (e143 c i (by first | decide | omega)).trans ((e136 c i (by first | decide | omega)).trans ((e129 c i (by first | decide | omega)).trans (e123 c i (by first | decide | omega)))))
      obtain ⟨_, r151, t151, a151, f151, rfl, s151, e151, z151, q151, u151⟩ := pc_endRow329 (d) n (s143) hT52 (by first | decide | omega) (x := 0) (y1 := 1) (y2 := v129) (y3 := v136 + (8 * v143)) (y4 := 0) k48 (fun h0 => ⟨by omega, (ai_in_h (by first | decide | omega) (by first | decide | omega) (by first | decide | omega))⟩)
      have b151 := s151.2.2.2
      refine gx_callo (a := 7) rfl rfl s143.1 rfl rfl rfl r151 rfl ?_
      have k53 : ai_hv t151 7 1 = some (gx_r 257) := (e151 7 1 (by first | decide | omega)).trans k45
      have k54 : ai_hv t151 257 0 = some (.inl (υ 0 0)) := (e151 257 0 (by first | decide | omega)).trans k46
      have k55 : ai_hv t151 257 1 = some (.inl (υ 1 0)) := (e151 257 1 (by first | decide | omega)).trans k47
      have k56 : ai_hv t151 272 5 = some (.inl (υ 4 0)) := (e151 272 5 (by first | decide | omega)).trans k49
      show en_ex _ _ _ _ (105, [(5, .inl v143), (4, .inl v136), (3, .inl v129), (0, gx_r 7), (1, gx_w w), (2, gx_r 329)], [], t151, n, 0) _
      refine ex_go (S := (184, [(5, .inl v143), (4, .inl v136), (3, .inl v129), (0, gx_r 7), (1, gx_w w), (2, gx_r 329)], [], t151, n, 0)) rfl (fun _ => rfl) rfl ?_
      refine ex_ret (r := (none, t151, n, 0)) rfl (fun _ => rfl) ?_
      have hcw : f151 = 0 → crw S0 m0 υ S m (a + 1) v129 := fun h9 => by
        have h8 := wc129 (by first | decide | omega)
        rw [show a123 = a + 1 by omega] at h8
        exact h8
      have hwd : sp_wd S m N a 23 := by rw [← hc22]; exact hw2
      have hT57 := cT_keep (t' := t151) hT (fun c i h => (e151 c i (by first | decide | omega)).trans ((e143 c i (by first | decide | omega)).trans ((e136 c i (by first | decide | omega)).trans ((e129 c i (by first | decide | omega)).trans (e123 c i (by first | decide | omega))))))
      exact ⟨_, rfl, t151, a151, f151, rfl, s151, hT57, (fun c' i h => (e151 c' i (by first | decide | omega)).trans ((e143 c' i (by first | decide | omega)).trans ((e136 c' i (by first | decide | omega)).trans ((e129 c' i (by first | decide | omega)).trans (e123 c' i (by first | decide | omega)))))), ⟨(a143, f143), Or.inr (Or.inl ⟨hwd, y143⟩), z151⟩, by omega, fun h0 => ⟨(u151 h0).1, Or.inr (Or.inl ⟨hwd, (u151 h0).2.2.1, ⟨v129, hcw (by first | decide | omega), (u151 h0).2.2.2.1⟩, (u151 h0).2.2.2.2.1.trans (by rw [show v136 = sp_nv S m (a + 2) by rw [← show a129 = a + 2 by omega]; omega, show v143 = sp_nv S m (a + 3) by rw [← show a136 = a + 3 by omega]; omega])⟩)⟩⟩
    · refine gx_acnf rfl (by first | decide | omega) (by first | decide | omega) hc22 rfl ?_
      refine ex_go (S := (109, [(0, gx_r 7), (1, gx_w w), (2, gx_r 329)], [gx_w w], t0, n, 0)) rfl (fun _ => rfl) rfl ?_
      refine ex_go (S := (112, [(0, gx_r 7), (1, gx_w w), (2, gx_r 329)], [gx_w 24, gx_w w], t0, n, 0)) rfl (fun _ => rfl) rfl ?_
      by_cases hc58 : w = 24
      · refine gx_acnt rfl (by first | decide | omega) (by first | decide | omega) hc58 rfl ?_
        refine ex_go (S := (116, [(0, gx_r 7), (1, gx_w w), (2, gx_r 329)], [gx_r 7], t0, n, 0)) rfl (fun _ => rfl) rfl ?_
        refine ex_go (S := (117, [(0, gx_r 7), (1, gx_w w), (2, gx_r 329)], [gx_r 329, gx_r 7], t0, n, 0)) rfl (fun _ => rfl) rfl ?_
        obtain ⟨_, r159, t159, a159, f159, rfl, s159, e159, y159, q159⟩ := pc_startRow329 (d + 1) n (s0) hT ha kc (by first | decide | omega)
        have b159 := s159.2.2.2
        refine gx_callo (a := 7) rfl rfl s0.1 rfl rfl rfl r159 rfl ?_
        have k60 : ai_hv t159 7 1 = some (gx_r 257) := (e159 7 1 (by first | decide | omega)).trans hP
        have k61 : ai_hv t159 257 0 = some (.inl (υ 0 0)) := (e159 257 0 (by first | decide | omega)).trans ko
        have k62 : ai_hv t159 257 1 = some (.inl (υ 1 0)) := (e159 257 1 (by first | decide | omega)).trans kd
        have k63 : ai_hv t159 329 5 = some (.inl c) := (e159 329 5 (by first | decide | omega)).trans kc
        have k64 : ai_hv t159 272 5 = some (.inl (υ 4 0)) := (e159 272 5 (by first | decide | omega)).trans kq5
        show en_ex _ _ _ _ (120, [(0, gx_r 7), (1, gx_w w), (2, gx_r 329)], [], t159, n, 0) _
        refine ex_go (S := (121, [(0, gx_r 7), (1, gx_w w), (2, gx_r 329)], [gx_r 7], t159, n, 0)) rfl (fun _ => rfl) rfl ?_
        have hT66 := cT_keep (t' := t159) hT (fun c i h => e159 c i (by first | decide | omega))
        obtain ⟨_, r165, v165, t165, a165, f165, rfl, s165, e165, z165, q165, wc165⟩ := pc_crewHere257 (d) n (s159) hT66 (by first | decide | omega) k60 k64 (fun i hi => (e159 273 i (by first | decide | omega)).trans (hn i hi)) h3 hc
        have b165 := s165.2.2.2
        have y165 := z165.trans (congrArg (fk S m N (tcr S0 m0 υ S m)) y159)
        refine gx_callo (a := 7) rfl rfl s159.1 rfl rfl rfl r165 rfl ?_
        have k67 : ai_hv t165 7 1 = some (gx_r 257) := (e165 7 1 (by first | decide | omega)).trans k60
        have k68 : ai_hv t165 257 0 = some (.inl (υ 0 0)) := (e165 257 0 (by first | decide | omega)).trans k61
        have k69 : ai_hv t165 257 1 = some (.inl (υ 1 0)) := (e165 257 1 (by first | decide | omega)).trans k62
        have k70 : ai_hv t165 329 5 = some (.inl c) := (e165 329 5 (by first | decide | omega)).trans k63
        have k71 : ai_hv t165 272 5 = some (.inl (υ 4 0)) := (e165 272 5 (by first | decide | omega)).trans k64
        show en_ex _ _ _ _ (124, [(0, gx_r 7), (1, gx_w w), (2, gx_r 329)], [.inl v165], t165, n, 0) _
        refine ex_go (S := (125, [(3, .inl v165), (0, gx_r 7), (1, gx_w w), (2, gx_r 329)], [], t165, n, 0)) rfl (fun _ => rfl) rfl ?_
        refine ex_go (S := (126, [(3, .inl v165), (0, gx_r 7), (1, gx_w w), (2, gx_r 329)], [gx_r 7], t165, n, 0)) rfl (fun _ => rfl) rfl ?_
        refine ex_go (S := (127, [(3, .inl v165), (0, gx_r 7), (1, gx_w w), (2, gx_r 329)], [gx_r 329, gx_r 7], t165, n, 0)) rfl (fun _ => rfl) rfl ?_
        refine ex_go (S := (128, [(3, .inl v165), (0, gx_r 7), (1, gx_w w), (2, gx_r 329)], [.inr (.inl 0), gx_r 329, gx_r 7], t165, n, 0)) rfl (fun _ => rfl) rfl ?_
        refine ex_go (S := (129, [(3, .inl v165), (0, gx_r 7), (1, gx_w w), (2, gx_r 329)], [.inl 2, .inr (.inl 0), gx_r 329, gx_r 7], t165, n, 0)) rfl (fun _ => rfl) rfl ?_
        refine ex_go (S := (130, [(3, .inl v165), (0, gx_r 7), (1, gx_w w), (2, gx_r 329)], [.inl v165, .inl 2, .inr (.inl 0), gx_r 329, gx_r 7], t165, n, 0)) rfl (fun _ => rfl) rfl ?_
        refine ex_go (S := (131, [(3, .inl v165), (0, gx_r 7), (1, gx_w w), (2, gx_r 329)], [gx_r 7, .inl v165, .inl 2, .inr (.inl 0), gx_r 329, gx_r 7], t165, n, 0)) rfl (fun _ => rfl) rfl ?_
        refine gxo_ref (a := 7) (c := 1) rfl s165.1 rfl rfl rfl rfl rfl ?_
        refine ex_go (S := (135, [(3, .inl v165), (0, gx_r 7), (1, gx_w w), (2, gx_r 329)], [.inl 1, gx_r 1, .inl v165, .inl 2, .inr (.inl 0), gx_r 329, gx_r 7], t165, n, 0)) rfl (fun _ => rfl) rfl ?_
        refine ex_go (S := (138, [(3, .inl v165), (0, gx_r 7), (1, gx_w w), (2, gx_r 329)], [.inl 999, .inl 1, gx_r 1, .inl v165, .inl 2, .inr (.inl 0), gx_r 329, gx_r 7], t165, n, 0)) rfl (fun _ => rfl) rfl ?_
        have hT73 := cT_keep (t' := t165) hT (fun c i h => (e165 c i (by first | decide | omega)).trans (e159 c i (by first | decide | omega)))
        obtain ⟨_, r172, v172, t172, a172, f172, rfl, s172, e172, z172, q172⟩ := pc_takeNumber (d + 1) n (s165) hT73 (by first | decide | omega) (lo := 1) (hi := 999) (by first | decide | omega) (by first | decide | omega) (by first | decide | omega)
        have b172 := s172.2.2.2
        have y172 := z172.trans (congrArg (fn S m N 1 999) y165)
        refine gx_callo (a := 1) rfl rfl s165.1 rfl rfl rfl r172 rfl ?_
        have k74 : ai_hv t172 7 1 = some (gx_r 257) := (e172 7 1 (by first | decide | omega)).trans k67
        have k75 : ai_hv t172 257 0 = some (.inl (υ 0 0)) := (e172 257 0 (by first | decide | omega)).trans k68
        have k76 : ai_hv t172 257 1 = some (.inl (υ 1 0)) := (e172 257 1 (by first | decide | omega)).trans k69
        have k77 : ai_hv t172 329 5 = some (.inl c) := (e172 329 5 (by first | decide | omega)).trans k70
        have k78 : ai_hv t172 272 5 = some (.inl (υ 4 0)) := (e172 272 5 (by first | decide | omega)).trans k71
        show en_ex _ _ _ _ (141, [(3, .inl v165), (0, gx_r 7), (1, gx_w w), (2, gx_r 329)], [.inl v172, .inl v165, .inl 2, .inr (.inl 0), gx_r 329, gx_r 7], t172, n, 0) _
        refine ex_go (S := (142, [(3, .inl v165), (0, gx_r 7), (1, gx_w w), (2, gx_r 329)], [.inl 0, .inl v172, .inl v165, .inl 2, .inr (.inl 0), gx_r 329, gx_r 7], t172, n, 0)) rfl (fun _ => rfl) rfl ?_
        have hT80 := cT_keep (t' := t172) hT (fun c i h => (e172 c i (by first | decide | omega)).trans ((e165 c i (by first | decide | omega)).trans (e159 c i (by first | decide | omega))))
        obtain ⟨_, r179, t179, a179, f179, rfl, s179, e179, z179, q179, u179⟩ := pc_endRow329 (d) n (s172) hT80 (by first | decide | omega) (x := 0) (y1 := 2) (y2 := v165) (y3 := v172) (y4 := 0) k77 (fun h0 => ⟨by omega, (ai_in_h (by first | decide | omega) (by first | decide | omega) (by first | decide | omega))⟩)
        have b179 := s179.2.2.2
        refine gx_callo (a := 7) rfl rfl s172.1 rfl rfl rfl r179 rfl ?_
        have k81 : ai_hv t179 7 1 = some (gx_r 257) := (e179 7 1 (by first | decide | omega)).trans k74
        have k82 : ai_hv t179 257 0 = some (.inl (υ 0 0)) := (e179 257 0 (by first | decide | omega)).trans k75
        have k83 : ai_hv t179 257 1 = some (.inl (υ 1 0)) := (e179 257 1 (by first | decide | omega)).trans k76
        have k84 : ai_hv t179 272 5 = some (.inl (υ 4 0)) := (e179 272 5 (by first | decide | omega)).trans k78
        show en_ex _ _ _ _ (145, [(3, .inl v165), (0, gx_r 7), (1, gx_w w), (2, gx_r 329)], [], t179, n, 0) _
        refine ex_go (S := (184, [(3, .inl v165), (0, gx_r 7), (1, gx_w w), (2, gx_r 329)], [], t179, n, 0)) rfl (fun _ => rfl) rfl ?_
        refine ex_ret (r := (none, t179, n, 0)) rfl (fun _ => rfl) ?_
        have hcw : f179 = 0 → crw S0 m0 υ S m (a + 1) v165 := fun h9 => by
          have h8 := wc165 (by first | decide | omega)
          rw [show a159 = a + 1 by omega] at h8
          exact h8
        have hwd : sp_wd S m N a 24 := by rw [← hc58]; exact hw2
        have hT85 := cT_keep (t' := t179) hT (fun c i h => (e179 c i (by first | decide | omega)).trans ((e172 c i (by first | decide | omega)).trans ((e165 c i (by first | decide | omega)).trans (e159 c i (by first | decide | omega)))))
        exact ⟨_, rfl, t179, a179, f179, rfl, s179, hT85, (fun c' i h => (e179 c' i (by first | decide | omega)).trans ((e172 c' i (by first | decide | omega)).trans ((e165 c' i (by first | decide | omega)).trans (e159 c' i (by first | decide | omega))))), ⟨(a172, f172), Or.inr (Or.inr (Or.inl ⟨hwd, y172⟩)), z179⟩, by omega, fun h0 => ⟨(u179 h0).1, Or.inr (Or.inr (Or.inl ⟨hwd, (u179 h0).2.2.1, ⟨v165, hcw (by first | decide | omega), (u179 h0).2.2.2.1⟩, (u179 h0).2.2.2.2.1.trans (by rw [show v172 = sp_nv S m (a + 2) by rw [← show a165 = a + 2 by omega]; omega])⟩))⟩⟩
      · refine gx_acnf rfl (by first | decide | omega) (by first | decide | omega) hc58 rfl ?_
        refine ex_go (S := (149, [(0, gx_r 7), (1, gx_w w), (2, gx_r 329)], [gx_w w], t0, n, 0)) rfl (fun _ => rfl) rfl ?_
        refine ex_go (S := (152, [(0, gx_r 7), (1, gx_w w), (2, gx_r 329)], [gx_w 25, gx_w w], t0, n, 0)) rfl (fun _ => rfl) rfl ?_
        by_cases hc86 : w = 25
        · refine gx_acnt rfl (by first | decide | omega) (by first | decide | omega) hc86 rfl ?_
          refine ex_go (S := (156, [(0, gx_r 7), (1, gx_w w), (2, gx_r 329)], [gx_r 7], t0, n, 0)) rfl (fun _ => rfl) rfl ?_
          refine ex_go (S := (157, [(0, gx_r 7), (1, gx_w w), (2, gx_r 329)], [gx_r 329, gx_r 7], t0, n, 0)) rfl (fun _ => rfl) rfl ?_
          obtain ⟨_, r187, t187, a187, f187, rfl, s187, e187, y187, q187⟩ := pc_startRow329 (d + 1) n (s0) hT ha kc (by first | decide | omega)
          have b187 := s187.2.2.2
          refine gx_callo (a := 7) rfl rfl s0.1 rfl rfl rfl r187 rfl ?_
          have k88 : ai_hv t187 7 1 = some (gx_r 257) := (e187 7 1 (by first | decide | omega)).trans hP
          have k89 : ai_hv t187 257 0 = some (.inl (υ 0 0)) := (e187 257 0 (by first | decide | omega)).trans ko
          have k90 : ai_hv t187 257 1 = some (.inl (υ 1 0)) := (e187 257 1 (by first | decide | omega)).trans kd
          have k91 : ai_hv t187 329 5 = some (.inl c) := (e187 329 5 (by first | decide | omega)).trans kc
          have k92 : ai_hv t187 272 5 = some (.inl (υ 4 0)) := (e187 272 5 (by first | decide | omega)).trans kq5
          show en_ex _ _ _ _ (160, [(0, gx_r 7), (1, gx_w w), (2, gx_r 329)], [], t187, n, 0) _
          refine ex_go (S := (161, [(0, gx_r 7), (1, gx_w w), (2, gx_r 329)], [gx_r 7], t187, n, 0)) rfl (fun _ => rfl) rfl ?_
          refine ex_go (S := (162, [(0, gx_r 7), (1, gx_w w), (2, gx_r 329)], [gx_r 329, gx_r 7], t187, n, 0)) rfl (fun _ => rfl) rfl ?_
          refine ex_go (S := (163, [(0, gx_r 7), (1, gx_w w), (2, gx_r 329)], [.inr (.inl 0), gx_r 329, gx_r 7], t187, n, 0)) rfl (fun _ => rfl) rfl ?_
          refine ex_go (S := (164, [(0, gx_r 7), (1, gx_w w), (2, gx_r 329)], [.inl 3, .inr (.inl 0), gx_r 329, gx_r 7], t187, n, 0)) rfl (fun _ => rfl) rfl ?_
          refine ex_go (S := (165, [(0, gx_r 7), (1, gx_w w), (2, gx_r 329)], [gx_r 7, .inl 3, .inr (.inl 0), gx_r 329, gx_r 7], t187, n, 0)) rfl (fun _ => rfl) rfl ?_
          have hT94 := cT_keep (t' := t187) hT (fun c i h => e187 c i (by first | decide | omega))
          obtain ⟨_, r193, v193, t193, a193, f193, rfl, s193, e193, z193, q193, wc193⟩ := pc_crewHere257 (d) n (s187) hT94 (by first | decide | omega) k88 k92 (fun i hi => (e187 273 i (by first | decide | omega)).trans (hn i hi)) h3 hc
          have b193 := s193.2.2.2
          have y193 := z193.trans (congrArg (fk S m N (tcr S0 m0 υ S m)) y187)
          refine gx_callo (a := 7) rfl rfl s187.1 rfl rfl rfl r193 rfl ?_
          have k95 : ai_hv t193 7 1 = some (gx_r 257) := (e193 7 1 (by first | decide | omega)).trans k88
          have k96 : ai_hv t193 257 0 = some (.inl (υ 0 0)) := (e193 257 0 (by first | decide | omega)).trans k89
          have k97 : ai_hv t193 257 1 = some (.inl (υ 1 0)) := (e193 257 1 (by first | decide | omega)).trans k90
          have k98 : ai_hv t193 329 5 = some (.inl c) := (e193 329 5 (by first | decide | omega)).trans k91
          have k99 : ai_hv t193 272 5 = some (.inl (υ 4 0)) := (e193 272 5 (by first | decide | omega)).trans k92
          show en_ex _ _ _ _ (168, [(0, gx_r 7), (1, gx_w w), (2, gx_r 329)], [.inl v193, .inl 3, .inr (.inl 0), gx_r 329, gx_r 7], t193, n, 0) _
          refine ex_go (S := (169, [(0, gx_r 7), (1, gx_w w), (2, gx_r 329)], [.inl 0, .inl v193, .inl 3, .inr (.inl 0), gx_r 329, gx_r 7], t193, n, 0)) rfl (fun _ => rfl) rfl ?_
          refine ex_go (S := (170, [(0, gx_r 7), (1, gx_w w), (2, gx_r 329)], [.inl 0, .inl 0, .inl v193, .inl 3, .inr (.inl 0), gx_r 329, gx_r 7], t193, n, 0)) rfl (fun _ => rfl) rfl ?_
          have hT101 := cT_keep (t' := t193) hT (fun c i h => (e193 c i (by first | decide | omega)).trans (e187 c i (by first | decide | omega)))
          obtain ⟨_, r200, t200, a200, f200, rfl, s200, e200, z200, q200, u200⟩ := pc_endRow329 (d) n (s193) hT101 (by first | decide | omega) (x := 0) (y1 := 3) (y2 := v193) (y3 := 0) (y4 := 0) k98 (fun h0 => ⟨by omega, (ai_in_h (by first | decide | omega) (by first | decide | omega) (by first | decide | omega))⟩)
          have b200 := s200.2.2.2
          refine gx_callo (a := 7) rfl rfl s193.1 rfl rfl rfl r200 rfl ?_
          have k102 : ai_hv t200 7 1 = some (gx_r 257) := (e200 7 1 (by first | decide | omega)).trans k95
          have k103 : ai_hv t200 257 0 = some (.inl (υ 0 0)) := (e200 257 0 (by first | decide | omega)).trans k96
          have k104 : ai_hv t200 257 1 = some (.inl (υ 1 0)) := (e200 257 1 (by first | decide | omega)).trans k97
          have k105 : ai_hv t200 272 5 = some (.inl (υ 4 0)) := (e200 272 5 (by first | decide | omega)).trans k99
          show en_ex _ _ _ _ (173, [(0, gx_r 7), (1, gx_w w), (2, gx_r 329)], [], t200, n, 0) _
          refine ex_go (S := (184, [(0, gx_r 7), (1, gx_w w), (2, gx_r 329)], [], t200, n, 0)) rfl (fun _ => rfl) rfl ?_
          refine ex_ret (r := (none, t200, n, 0)) rfl (fun _ => rfl) ?_
          have hcw : f200 = 0 → crw S0 m0 υ S m (a + 1) v193 := fun h9 => by
            have h8 := wc193 (by first | decide | omega)
            rw [show a187 = a + 1 by omega] at h8
            exact h8
          have hwd : sp_wd S m N a 25 := by rw [← hc86]; exact hw2
          have hT106 := cT_keep (t' := t200) hT (fun c i h => (e200 c i (by first | decide | omega)).trans ((e193 c i (by first | decide | omega)).trans (e187 c i (by first | decide | omega))))
          exact ⟨_, rfl, t200, a200, f200, rfl, s200, hT106, (fun c' i h => (e200 c' i (by first | decide | omega)).trans ((e193 c' i (by first | decide | omega)).trans (e187 c' i (by first | decide | omega)))), ⟨(a193, f193), Or.inr (Or.inr (Or.inr (Or.inl ⟨hwd, y193⟩))), z200⟩, by omega, fun h0 => ⟨(u200 h0).1, Or.inr (Or.inr (Or.inr ⟨hwd, (u200 h0).2.2.1, (u200 h0).2.2.2.2.1, v193, hcw (by first | decide | omega), (u200 h0).2.2.2.1⟩))⟩⟩
        · refine gx_acnf rfl (by first | decide | omega) (by first | decide | omega) hc86 rfl ?_
          refine ex_go (S := (177, [(0, gx_r 7), (1, gx_w w), (2, gx_r 329)], [gx_r 7], t0, n, 0)) rfl (fun _ => rfl) rfl ?_
          refine gxo_ref (a := 7) (c := 1) rfl s0.1 rfl rfl rfl rfl rfl ?_
          refine ex_go (S := (181, [(0, gx_r 7), (1, gx_w w), (2, gx_r 329)], [.inl 1, gx_r 1], t0, n, 0)) rfl (fun _ => rfl) rfl ?_
          obtain ⟨_, r207, t207, a207, f207, rfl, s207, e207, q207⟩ := pc_wrong (d + 2) n (s0) hT (by first | decide | omega) (w := 1) (by first | decide | omega)
          have b207 := s207.2.2.2
          refine gx_callo (a := 1) rfl rfl s0.1 rfl rfl rfl r207 rfl ?_
          have k108 : ai_hv t207 7 1 = some (gx_r 257) := (e207 7 1 (by first | decide | omega)).trans hP
          have k109 : ai_hv t207 257 0 = some (.inl (υ 0 0)) := (e207 257 0 (by first | decide | omega)).trans ko
          have k110 : ai_hv t207 257 1 = some (.inl (υ 1 0)) := (e207 257 1 (by first | decide | omega)).trans kd
          have k111 : ai_hv t207 329 5 = some (.inl c) := (e207 329 5 (by first | decide | omega)).trans kc
          have k112 : ai_hv t207 272 5 = some (.inl (υ 4 0)) := (e207 272 5 (by first | decide | omega)).trans kq5
          show en_ex _ _ _ _ (184, [(0, gx_r 7), (1, gx_w w), (2, gx_r 329)], [], t207, n, 0) _
          refine ex_ret (r := (none, t207, n, 0)) rfl (fun _ => rfl) ?_
          have hno : ∀ w, w = 1 ∨ w = 23 ∨ w = 24 ∨ w = 25 → ¬ sp_wd S m N a w := fun w' hw z => by
            have h9 := sp_wd_one (by first | decide | omega) (by first | decide | omega) hw2 z
            omega
          have hT113 := cT_keep (t' := t207) hT (fun c i h => e207 c i (by first | decide | omega))
          refine ⟨_, rfl, t207, a207, f207, rfl, s207, hT113, (fun c' i h => e207 c' i (by first | decide | omega)), ⟨fx S m 1 a, Or.inr (Or.inr (Or.inr (Or.inr ⟨hno, rfl⟩))), ?_⟩, by omega, fun h0 => by omega⟩
          unfold fx
          rw [fs_no (by first | decide | omega)]; exact Prod.ext (by show a207 = a; omega) (by show f207 = 1 + 16 * sp_st S m a; omega)
end SWT
