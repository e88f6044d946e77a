section SPK
theorem pf_takeWord (d n : Nat) {t0 : en_H} {a f w : Nat} {S : Nat → Nat} {m N : Nat} (s0 : px_S t0 a f) (hT : rT t0 S m N) (ha : a ≤ N) (hw : w < 42) : ∃ r, en_u (d + 3) 94 [gx_r 383, .inl w] t0 n = some r ∧ ∃ t' a' f', r = (none, t', n, 0) ∧ px_S t' a' f' ∧ px_F t0 t' ∧ (a', f') = fw S m N w (a, f) ∧ (a' ≤ N ∧ a ≤ a' ∧ (f ≠ 0 → f' = f ∧ a' = a) ∧ (f' = 0 → f = 0 ∧ a' = a + 1)) := by
  obtain ⟨r, h1, t', a', f', h2, h3, h4, h5, h6⟩ := pe_takeWord d n s0 hT ha hw
  refine ⟨r, h1, t', a', f', h2, h3, h4, ?_⟩
  by_cases c : f = 0
  · subst c
    rcases h6 rfl with ⟨w1, w2, w3⟩ | ⟨w1, w2, w3⟩
    · have := w1.1
      subst w2 w3
      exact ⟨(fw_yes w1).symm, by omega⟩
    · subst w2 w3
      exact ⟨(fw_not w1).symm, by omega⟩
  · obtain ⟨z1, z2⟩ := h5 c
    subst z1 z2
    exact ⟨(fw_no c).symm, by omega⟩
theorem pf_takeSign (d n : Nat) {t0 : en_H} {a f w : Nat} {S : Nat → Nat} {m N : Nat} (s0 : px_S t0 a f) (hT : rT t0 S m N) (ha : a ≤ N) (hw : w < 128) : ∃ r, en_u (d + 2) 96 [gx_r 383, .inl w] t0 n = some r ∧ ∃ t' a' f', r = (none, t', n, 0) ∧ px_S t' a' f' ∧ px_F t0 t' ∧ (a', f') = fs S m N w (a, f) ∧ (a' ≤ N ∧ a ≤ a' ∧ (f ≠ 0 → f' = f ∧ a' = a) ∧ (f' = 0 → f = 0 ∧ a' = a + 1)) := by
  obtain ⟨r, h1, t', a', f', h2, h3, h4, h5, h6⟩ := pe_takeSign d n s0 hT ha hw
  refine ⟨r, h1, t', a', f', h2, h3, h4, ?_⟩
  by_cases c : f = 0
  · subst c
    rcases h6 rfl with ⟨w1, w2, w3⟩ | ⟨w1, w2, w3⟩
    · have := w1.1
      subst w2 w3
      exact ⟨(fs_yes w1).symm, by omega⟩
    · subst w2 w3
      exact ⟨(fs_not w1).symm, by omega⟩
  · obtain ⟨z1, z2⟩ := h5 c
    subst z1 z2
    exact ⟨(fs_no c).symm, by omega⟩
theorem sp_kt_lt {S : Nat → Nat} {m N a : Nat} (h : sp_kt S m N a ≠ 0) : a < N := by
  unfold sp_kt at h
  by_cases c : a < N
  · exact c
  · rw [if_neg c] at h; exact absurd rfl h
theorem pf_takeNumber (d n : Nat) {t0 : en_H} {a f lo hi : Nat} {S : Nat → Nat} {m N : Nat} (s0 : px_S t0 a f) (hT : rT t0 S m N) (ha : a ≤ N) (h1 : lo < 2147483648) (h2 : f = 0 → hi < 2147483648) : ∃ r, en_u (d + 2) 95 [gx_r 383, .inl lo, .inl hi] t0 n = some r ∧ ∃ v t' a' f', r = (some (.inl v), t', n, 0) ∧ px_S t' a' f' ∧ px_F t0 t' ∧ (a', f') = fn S m N lo hi (a, f) ∧ (a' ≤ N ∧ a ≤ a' ∧ (f ≠ 0 → f' = f ∧ a' = a) ∧ (f' = 0 → f = 0 ∧ a' = a + 1 ∧ v = sp_nv S m a ∧ lo ≤ v ∧ v ≤ hi) ∧ (f' ≠ 0 → v = 0 ∧ a' = a)) := by
  obtain ⟨r, h3, v, t', a', f', h4, h5, h6, h7, h8⟩ := pe_takeNumber d n s0 hT ha h1 h2
  refine ⟨r, h3, v, t', a', f', h4, h5, h6, ?_⟩
  by_cases c : f = 0
  · subst c
    rcases h8 rfl with ⟨w1, w2, w3, w4⟩ | ⟨w1, w5, w2, w3, w4⟩ | ⟨w1, w5, w6, w2, w3, w4⟩
    · subst w2 w3
      exact ⟨(fn_1 w1).symm, by omega⟩
    · subst w2 w3
      exact ⟨(fn_4 w1 w5).symm, by omega⟩
    · have := sp_kt_lt (S := S) (m := m) (N := N) (a := a) (by first | decide | omega)
      subst w2 w3
      exact ⟨(fn_yes w1 w5 w6).symm, by omega⟩
  · obtain ⟨z1, z2, z3⟩ := h7 c
    subst z1 z2
    exact ⟨(fn_no c).symm, by omega⟩
theorem pf_takeOne (d n : Nat) {t0 : en_H} {a f w mm : Nat} {S : Nat → Nat} {m N : Nat} (s0 : px_S t0 a f) (hT : rT t0 S m N) (ha : a ≤ N) (hw : w + mm ≤ 42) (hm : 1 ≤ mm) : ∃ r, en_u (d + 3) 241 [gx_r 383, .inl w, .inl mm] t0 n = some r ∧ ∃ v t' a' f', r = (some (.inl v), t', n, 0) ∧ px_S t' a' f' ∧ px_F t0 t' ∧ (a', f') = fo S m N w mm (a, f) ∧ (a' ≤ N ∧ a ≤ a' ∧ v < mm ∧ (f ≠ 0 → f' = f ∧ a' = a) ∧ (f' = 0 → f = 0 ∧ a' = a + 1) ∧ (f' ≠ 0 → v = 0 ∧ a' = a)) ∧ (f' = 0 → sp_wd S m N a (w + v)) := by
  obtain ⟨r, h3, v, t', a', f', h4, h5, h6, h7, h8⟩ := pe_takeOne d n s0 hT ha hw
  refine ⟨r, h3, v, t', a', f', h4, h5, h6, ?_⟩
  by_cases c : f = 0
  · subst c
    rcases h8 rfl with ⟨w1, w2, w3, w4⟩ | ⟨w1, w2, w3, w4⟩
    · have := w2.1
      subst w3 w4
      exact ⟨(fo_yes w1 w2).symm, by omega, fun _ => w2⟩
    · subst w2 w3
      exact ⟨(fo_not w1).symm, by omega, fun z => by omega⟩
  · obtain ⟨z1, z2, z3⟩ := h7 c
    subst z1 z2
    exact ⟨(fo_no c).symm, by omega, fun z => by omega⟩
theorem pf_takeAfter (d n : Nat) {t0 : en_H} {a f w lo hi : Nat} {S : Nat → Nat} {m N : Nat} (s0 : px_S t0 a f) (hT : rT t0 S m N) (ha : a ≤ N) (hw : w < 42) (h1 : lo < 2147483648) (h2 : f = 0 → hi < 2147483648) : ∃ r, en_u (d + 4) 244 [gx_r 383, .inl w, .inl lo, .inl hi] t0 n = some r ∧ ∃ v t' a' f', r = (some (.inl v), t', n, 0) ∧ px_S t' a' f' ∧ px_F t0 t' ∧ (a', f') = fn S m N lo hi (fw S m N w (a, f)) ∧ (a' ≤ N ∧ a ≤ a' ∧ (f ≠ 0 → f' = f ∧ a' = a) ∧ (f' = 0 → f = 0 ∧ a' = a + 2 ∧ v = sp_nv S m (a + 1) ∧ lo ≤ v ∧ v ≤ hi) ∧ (f' ≠ 0 → v = 0)) := by
  have b0 := s0.2.2.2
  have hN := hT.2.2.2.2.1
  have y0 : (a, f) = (a, f) := rfl
  refine en_u_ex (d := d + 3) rfl ?_
  show en_ex _ _ _ _ (0, [(0, gx_r 383), (1, .inl w), (2, .inl lo), (3, .inl hi)], [], t0, n, 0) _
  refine ex_go (S := (1, [(0, gx_r 383), (1, .inl w), (2, .inl lo), (3, .inl hi)], [gx_r 383], t0, n, 0)) rfl (fun _ => rfl) rfl ?_
  refine ex_go (S := (2, [(0, gx_r 383), (1, .inl w), (2, .inl lo), (3, .inl hi)], [.inl w, gx_r 383], t0, n, 0)) rfl (fun _ => rfl) rfl ?_
  obtain ⟨_, r101, t101, a101, f101, rfl, s101, e101, z101, q101⟩ := pf_takeWord d n (s0) hT (by first | decide | omega) (w := w) (by first | decide | omega)
  have b101 := s101.2.2.2
  have y101 := z101.trans (congrArg (fw S m N w) y0)
  refine gx_call0 rfl rfl s0.1 rfl rfl r101 rfl ?_
  refine ex_go (S := (6, [(0, gx_r 383), (1, .inl w), (2, .inl lo), (3, .inl hi)], [gx_r 383], t101, n, 0)) rfl (fun _ => rfl) rfl ?_
  refine ex_go (S := (7, [(0, gx_r 383), (1, .inl w), (2, .inl lo), (3, .inl hi)], [.inl lo, gx_r 383], t101, n, 0)) rfl (fun _ => rfl) rfl ?_
  refine ex_go (S := (8, [(0, gx_r 383), (1, .inl w), (2, .inl lo), (3, .inl hi)], [.inl hi, .inl lo, gx_r 383], t101, n, 0)) rfl (fun _ => rfl) rfl ?_
  have hT3 := rT_keep (t' := t101) hT (fun c i h => e101 c i (by first | decide | omega))
  obtain ⟨_, r102, v102, t102, a102, f102, rfl, s102, e102, z102, q102⟩ := pf_takeNumber (d + 1) n (s101) hT3 (by first | decide | omega) (lo := lo) (hi := hi) (by first | decide | omega) (by first | decide | omega)
  have b102 := s102.2.2.2
  have y102 := z102.trans (congrArg (fn S m N lo hi) y101)
  refine gx_call1 rfl rfl s101.1 rfl rfl r102 rfl ?_
  refine ex_ret (r := (some (.inl v102), t102, n, 0)) rfl (fun _ => rfl) ?_
  have hv : f102 = 0 → sp_nv S m a101 = sp_nv S m (a + 1) := fun z => by rw [show a101 = a + 1 by omega]
  exact ⟨_, rfl, v102, t102, a102, f102, rfl, s102, (fun c i h => (e102 c i (by first | decide | omega)).trans (e101 c i (by first | decide | omega))), y102, by omega⟩
noncomputable def sp_w7 (S : Nat → Nat) (m a : Nat) : Nat := sp_hv S (sp_st S m a) 37 96 (sp_rn S sp_le m (sp_st S m a) - sp_st S m a)
theorem rT_name {t : en_H} {S : Nat → Nat} {m N a : Nat} (h : rT t S m N) (hk : sp_kt S m N a = 1) : ai_hv t 387 a = some (.inr (.inl (sp_w7 S m a))) := by
  have c := sp_kt_lt (S := S) (m := m) (N := N) (a := a) (by first | decide | omega)
  unfold sp_kt at hk
  rw [if_pos c] at hk
  obtain ⟨e1, e2⟩ := sp_ty_1 hk
  have hv := (h.1 a c).2.2.2
  rw [sp_vR_l e1, show min (sp_rn S sp_le m (sp_st S m a) - sp_st S m a) 8 = sp_rn S sp_le m (sp_st S m a) - sp_st S m a by omega] at hv
  exact hv
theorem sp_nm_let {S : Nat → Nat} {m N a : Nat} (hk : sp_kt S m N a = 1) : (∀ j, j < sp_rn S sp_le m (sp_st S m a) - sp_st S m a → sp_le (S (sp_st S m a + j)) = true) ∧ sp_rn S sp_le m (sp_st S m a) - sp_st S m a ≤ 8 := by
  have c := sp_kt_lt (S := S) (m := m) (N := N) (a := a) (by first | decide | omega)
  unfold sp_kt at hk
  rw [if_pos c] at hk
  obtain ⟨e1, e2⟩ := sp_ty_1 hk
  exact ⟨fun j hj => sp_rn_all (m := m) (k := sp_st S m a) (by first | decide | omega) (by first | decide | omega), e2⟩
theorem sp_w7_eq {S : Nat → Nat} {m N a b : Nat} (ha : sp_kt S m N a = 1) (hb : sp_kt S m N b = 1) : (lN (sp_w7 S m b)).toInt = (lN (sp_w7 S m a)).toInt ↔ sp_wv S m b = sp_wv S m a := by
  obtain ⟨l1, n1⟩ := sp_nm_let ha
  obtain ⟨l2, n2⟩ := sp_nm_let hb
  have b1 := sp_hv37 n1 l1
  have b2 := sp_hv37 n2 l2
  unfold sp_w7 sp_wv
  rw [sp_lN (by first | decide | omega), sp_lN (by first | decide | omega), ← nm_two l2 l1]
  omega
noncomputable def RN (t : en_H) (S : Nat → Nat) (m : Nat) (σ : Nat → Nat → Nat) : Prop := ∀ k, k < σ 15 0 → ai_hv t 393 k = some (.inr (.inl (sp_w7 S m (σ 13 k)))) ∧ ai_hv t 395 k = some (.inl (σ 14 k))
noncomputable def NK (S : Nat → Nat) (m N : Nat) (σ : Nat → Nat → Nat) : Prop := σ 15 0 ≤ 23 ∧ ∀ k, k < σ 15 0 → sp_kt S m N (σ 13 k) = 1 ∧ σ 14 k ≤ 20 ∧ (σ 14 k < σ 2 0 ∨ σ 14 k = 20)
theorem sp_fi_le (P : Nat → Prop) : ∀ j k, k ≤ sp_fi P j k ∧ sp_fi P j k ≤ k + j
  | 0, k => ⟨Nat.le_refl _, Nat.le_refl _⟩
  | j + 1, k => by
    have := sp_fi_le P j (k + 1)
    by_cases c : P k
    · rw [show sp_fi P (j + 1) k = k from cif_t c]; omega
    · rw [show sp_fi P (j + 1) k = sp_fi P j (k + 1) from cif_f c]; omega
theorem sp_fi_lt {P : Nat → Prop} : ∀ {j k : Nat}, sp_fi P j k < k + j → P (sp_fi P j k)
  | 0, k, h => absurd h (Nat.lt_irrefl _)
  | j + 1, k, h => by
    by_cases c : P k
    · rw [show sp_fi P (j + 1) k = k from cif_t c]; exact c
    · rw [show sp_fi P (j + 1) k = sp_fi P j (k + 1) from cif_f c] at h ⊢
      exact sp_fi_lt (by first | decide | omega)
theorem sp_fi_ex {P : Nat → Prop} : ∀ {j k i : Nat}, k ≤ i → i < k + j → P i → sp_fi P j k ≤ i
  | 0, k, i, h1, h2, h => by omega
  | j + 1, k, i, h1, h2, h => by
    by_cases c : P k
    · rw [show sp_fi P (j + 1) k = k from cif_t c]; exact h1
    · rw [show sp_fi P (j + 1) k = sp_fi P j (k + 1) from cif_f c]
      by_cases e : i = k
      · rw [e] at h; exact absurd h c
      · exact sp_fi_ex (by first | decide | omega) (by first | decide | omega) h
theorem sg_told_iff {S : Nat → Nat} {m : Nat} {σ : Nat → Nat → Nat} {a : Nat} : sg_told S m σ a ↔ sg_k S m σ a < σ 15 0 := by
  constructor
  · rintro ⟨k, h1, h2⟩
    have := sp_fi_ex (P := fun k => sp_wv S m (σ 13 k) = sp_wv S m a) (j := σ 15 0) (k := 0) (i := k) (by first | decide | omega) (by first | decide | omega) h2
    show sp_fi _ _ _ < _
    omega
  · intro h
    exact ⟨_, h, sp_fi_lt (P := fun k => sp_wv S m (σ 13 k) = sp_wv S m a) (j := σ 15 0) (k := 0) (by show sp_fi _ _ _ < _; rw [Nat.zero_add]; exact h)⟩
theorem pe_find_l (d n : Nat) {t0 : en_H} {a f nm : Nat} {S : Nat → Nat} {m N : Nat} {σ : Nat → Nat → Nat} (s0 : px_S t0 a f) (hT : rT t0 S m N) (hk : sp_kt S m N a = 1) (k1 : ai_hv t0 383 19 = some (.inl (σ 15 0))) (k2 : ai_hv t0 383 18 = some (.inl nm)) (hn : nm ≤ 24) (hR : RN t0 S m σ) (hK : NK S m N σ) : ∀ j k, k + j = σ 15 0 → en_ex none (en_u d) (en_code 246) (fun _ => false) (2, [(2, .inl k), (0, gx_r 383), (1, .inl 1)], [], t0, n, 0) (fun o => ∃ r, o = .inl r ∧ ∃ b, r = (some (.inl b), t0, n, 0) ∧ ((sp_fi (fun k => sp_wv S m (σ 13 k) = sp_wv S m a) j k < σ 15 0 ∧ b = σ 14 (sp_fi (fun k => sp_wv S m (σ 13 k) = sp_wv S m a) j k)) ∨ (sp_fi (fun k => sp_wv S m (σ 13 k) = sp_wv S m a) j k = σ 15 0 ∧ b = 4294967295))) := by
  have b0 := s0.2.2.2
  have hN := hT.2.2.2.2.1
  have hr := hK.1
  have halt := sp_kt_lt (S := S) (m := m) (N := N) (a := a) (by first | decide | omega)
  intro j
  induction j with
  | zero =>
    intro k hk9
    refine ex_go (S := (3, [(2, .inl k), (0, gx_r 383), (1, .inl 1)], [.inl k], t0, n, 0)) rfl (fun _ => rfl) rfl ?_
    refine ex_go (S := (4, [(2, .inl k), (0, gx_r 383), (1, .inl 1)], [.inl 1, .inl k], t0, n, 0)) rfl (fun _ => rfl) rfl ?_
    refine ex_go (S := (7, [(2, .inl k), (0, gx_r 383), (1, .inl 1)], [.inl k], t0, n, 0)) rfl (fun _ => rfl) rfl ?_
    refine ex_go (S := (8, [(2, .inl k), (0, gx_r 383), (1, .inl 1)], [gx_r 383, .inl k], t0, n, 0)) rfl (fun _ => rfl) rfl ?_
    refine gx_get rfl s0.1 rfl k1 rfl ?_
    refine ex_go (S := (18, [(2, .inl k), (0, gx_r 383), (1, .inl 1)], [.inl (σ 15 0), .inl k], t0, n, 0)) rfl (fun _ => rfl) rfl ?_
    refine gx_2t (c := .ge) rfl (by first | decide | omega) (by first | decide | omega) (show σ 15 0 ≤ k from by omega) rfl ?_
    refine ex_go (S := (80, [(2, .inl k), (0, gx_r 383), (1, .inl 1)], [.inl 4294967295], t0, n, 0)) rfl (fun _ => rfl) rfl ?_
    refine ex_ret (r := (some (.inl 4294967295), t0, n, 0)) rfl (fun _ => rfl) ?_
    exact ⟨_, rfl, _, rfl, Or.inr ⟨by show k = _; omega, rfl⟩⟩
  | succ j ih =>
    intro k hk9
    obtain ⟨kn, kw⟩ := hR k (by first | decide | omega)
    obtain ⟨hk8, hw8⟩ := hK.2 k (by first | decide | omega)
    have kv := rT_name hT hk
    have hiff := sp_w7_eq hk hk8
    refine ex_go (S := (3, [(2, .inl k), (0, gx_r 383), (1, .inl 1)], [.inl k], t0, n, 0)) rfl (fun _ => rfl) rfl ?_
    refine ex_go (S := (4, [(2, .inl k), (0, gx_r 383), (1, .inl 1)], [.inl 1, .inl k], t0, n, 0)) rfl (fun _ => rfl) rfl ?_
    refine ex_go (S := (7, [(2, .inl k), (0, gx_r 383), (1, .inl 1)], [.inl k], t0, n, 0)) rfl (fun _ => rfl) rfl ?_
    refine ex_go (S := (8, [(2, .inl k), (0, gx_r 383), (1, .inl 1)], [gx_r 383, .inl k], t0, n, 0)) rfl (fun _ => rfl) rfl ?_
    refine gx_get rfl s0.1 rfl k1 rfl ?_
    refine ex_go (S := (18, [(2, .inl k), (0, gx_r 383), (1, .inl 1)], [.inl (σ 15 0), .inl k], t0, n, 0)) rfl (fun _ => rfl) rfl ?_
    refine gx_2f (c := .ge) rfl (by first | decide | omega) (by first | decide | omega) (show ¬ (σ 15 0 ≤ k) from by omega) rfl ?_
    refine ex_go (S := (22, [(2, .inl k), (0, gx_r 383), (1, .inl 1)], [.inl 1], t0, n, 0)) rfl (fun _ => rfl) rfl ?_
    refine ex_go (S := (25, [(2, .inl k), (0, gx_r 383), (1, .inl 1)], [], t0, n, 0)) rfl (fun _ => rfl) rfl ?_
    refine ex_go (S := (26, [(2, .inl k), (0, gx_r 383), (1, .inl 1)], [gx_r 383], t0, n, 0)) rfl (fun _ => rfl) rfl ?_
    refine gx_ref (c := 393) rfl s0.1 rfl rfl rfl rfl ?_
    refine ex_go (S := (30, [(2, .inl k), (0, gx_r 383), (1, .inl 1)], [.inl k, gx_r 393], t0, n, 0)) rfl (fun _ => rfl) rfl ?_
    refine gx_ag (v := .inr (.inl (sp_w7 S m (σ 13 k)))) (cb := fun c => Nat.beq c 3) rfl (fun _ => rfl) s0.1 rfl rfl kn (by first | decide | omega) rfl ?_
    refine ex_go (S := (40, [(2, .inl k), (0, gx_r 383), (1, .inl 1)], [.inr (.inl (sp_w7 S m (σ 13 k)))], t0, n, 0)) rfl (fun _ => rfl) rfl ?_
    refine ex_go (S := (41, [(2, .inl k), (0, gx_r 383), (1, .inl 1)], [gx_r 383, .inr (.inl (sp_w7 S m (σ 13 k)))], t0, n, 0)) rfl (fun _ => rfl) rfl ?_
    refine gx_ref (c := 387) rfl s0.1 rfl rfl rfl rfl ?_
    refine ex_go (S := (45, [(2, .inl k), (0, gx_r 383), (1, .inl 1)], [gx_r 383, gx_r 387, .inr (.inl (sp_w7 S m (σ 13 k)))], t0, n, 0)) rfl (fun _ => rfl) rfl ?_
    refine gx_get rfl s0.1 rfl s0.2.1 rfl ?_
    refine gx_ag (v := .inr (.inl (sp_w7 S m a))) (cb := fun c => Nat.beq c 3) rfl (fun _ => rfl) s0.1 rfl rfl kv (by first | decide | omega) rfl ?_
    refine gx_lcmp rfl rfl (fun hl1 => ?_) (fun hl1 => ?_) (fun hl1 => ?_)
    · refine ex_go (S := (53, [(2, .inl k), (0, gx_r 383), (1, .inl 1)], [], t0, n, 0)) rfl (fun _ => rfl) rfl ?_
      refine ex_go (S := (54, [(2, .inl k), (0, gx_r 383), (1, .inl 1)], [.inl 1], t0, n, 0)) rfl (fun _ => rfl) rfl ?_
      refine ex_go (S := (57, [(2, .inl k), (0, gx_r 383), (1, .inl 1)], [], t0, n, 0)) rfl (fun _ => rfl) rfl ?_
      refine ex_go (S := (58, [(2, .inl k), (0, gx_r 383), (1, .inl 1)], [gx_r 383], t0, n, 0)) rfl (fun _ => rfl) rfl ?_
      refine gx_ref (c := 395) rfl s0.1 rfl rfl rfl rfl ?_
      refine ex_go (S := (62, [(2, .inl k), (0, gx_r 383), (1, .inl 1)], [.inl k, gx_r 395], t0, n, 0)) rfl (fun _ => rfl) rfl ?_
      refine gx_ag (v := .inl (σ 14 k)) (cb := fun c => Nat.beq c 0) rfl (fun _ => rfl) s0.1 rfl rfl kw (by first | decide | omega) rfl ?_
      refine ex_go (S := (72, [(2, .inl k), (0, gx_r 383), (1, .inl 1)], [.inl (σ 14 k)], t0, n, 0)) rfl (fun _ => rfl) rfl ?_
      refine ex_ret (r := (some (.inl (σ 14 k)), t0, n, 0)) rfl (fun _ => rfl) ?_
      have z9 : sp_fi (fun k => sp_wv S m (σ 13 k) = sp_wv S m a) (j + 1) k = k := cif_t (hiff.mp (by first | decide | omega))
      rw [z9]
      exact ⟨_, rfl, _, rfl, Or.inl ⟨by omega, rfl⟩⟩
    · refine ex_go (S := (73, [(2, .inl k), (0, gx_r 383), (1, .inl 1)], [], t0, n, 0)) rfl (fun _ => rfl) rfl ?_
      refine gx_iinc (i := 2) (k := 1) rfl (fun _ => rfl) (by first | decide | omega) rfl ?_
      show en_ex _ _ _ _ (76, [(2, .inl (k + 1)), (0, gx_r 383), (1, .inl 1)], [], t0, n, 0) _
      refine ex_go (S := (2, [(2, .inl (k + 1)), (0, gx_r 383), (1, .inl 1)], [], t0, n, 0)) rfl (fun _ => rfl) rfl ?_
      have z9 : sp_fi (fun k => sp_wv S m (σ 13 k) = sp_wv S m a) (j + 1) k = sp_fi (fun k => sp_wv S m (σ 13 k) = sp_wv S m a) j (k + 1) := cif_f (fun z => by have := hiff.mpr z; omega)
      rw [z9]
      exact ih (k + 1) (by first | decide | omega)
    · refine ex_go (S := (73, [(2, .inl k), (0, gx_r 383), (1, .inl 1)], [], t0, n, 0)) rfl (fun _ => rfl) rfl ?_
      refine gx_iinc (i := 2) (k := 1) rfl (fun _ => rfl) (by first | decide | omega) rfl ?_
      show en_ex _ _ _ _ (76, [(2, .inl (k + 1)), (0, gx_r 383), (1, .inl 1)], [], t0, n, 0) _
      refine ex_go (S := (2, [(2, .inl (k + 1)), (0, gx_r 383), (1, .inl 1)], [], t0, n, 0)) rfl (fun _ => rfl) rfl ?_
      have z9 : sp_fi (fun k => sp_wv S m (σ 13 k) = sp_wv S m a) (j + 1) k = sp_fi (fun k => sp_wv S m (σ 13 k) = sp_wv S m a) j (k + 1) := cif_f (fun z => by have := hiff.mpr z; omega)
      rw [z9]
      exact ih (k + 1) (by first | decide | omega)
theorem pe_find (d n : Nat) {t0 : en_H} {a f : Nat} {S : Nat → Nat} {m N : Nat} {σ : Nat → Nat → Nat} (s0 : px_S t0 a f) (hT : rT t0 S m N) (hk : sp_kt S m N a = 1) (k1 : ai_hv t0 383 19 = some (.inl (σ 15 0))) (hR : RN t0 S m σ) (hK : NK S m N σ) : ∃ r, en_u (d + 1) 246 [gx_r 383, .inl 1] t0 n = some r ∧ ∃ b, r = (some (.inl b), t0, n, 0) ∧ ((sg_k S m σ a < σ 15 0 ∧ b = σ 14 (sg_k S m σ a)) ∨ (sg_k S m σ a = σ 15 0 ∧ b = 4294967295)) := by
  obtain ⟨nm, k2, -, hn⟩ := gx_in (c := 383) (i := 18) (lo := 0) (hi := 24) s0.1 rfl rfl rfl rfl
  refine en_u_ex rfl ?_
  show en_ex _ _ _ _ (0, [(0, gx_r 383), (1, .inl 1)], [], t0, n, 0) _
  refine ex_go (S := (1, [(0, gx_r 383), (1, .inl 1)], [.inl 0], t0, n, 0)) rfl (fun _ => rfl) rfl ?_
  refine ex_go (S := (2, [(2, .inl 0), (0, gx_r 383), (1, .inl 1)], [], t0, n, 0)) rfl (fun _ => rfl) rfl ?_
  exact pe_find_l d n s0 hT hk k1 k2 hn hR hK (σ 15 0) 0 (by first | decide | omega)
theorem pe_readName (d n : Nat) {t0 : en_H} {a w : Nat} {S : Nat → Nat} {m N : Nat} {σ : Nat → Nat → Nat} (s0 : px_S t0 a 0) (hT : rT t0 S m N) (ha : a < N) (hw : w ≤ 20) (k1 : ai_hv t0 383 19 = some (.inl (σ 15 0))) (hR : RN t0 S m σ) (hK : NK S m N σ) : ∃ r, en_u (d + 4) 243 [gx_r 383, .inl w] t0 n = some r ∧ ∃ t' a' f', r = (none, t', n, 0) ∧ px_S t' a' f' ∧ px_FN t0 t' ∧ (a', f') = fm S m N (sg_told S m σ) (a + 1, 0) ∧ (a' ≤ N ∧ a < a' ∧ (f' = 0 → a' = a + 2)) ∧ (f' = 0 → sp_kt S m N (a + 1) = 1 ∧ ai_hv t' 383 19 = some (.inl (σ 15 0 + 1)) ∧ RN t' S m σ ∧ ai_hv t' 393 (σ 15 0) = some (.inr (.inl (sp_w7 S m (a + 1)))) ∧ ai_hv t' 395 (σ 15 0) = some (.inl w)) := by
  have b0 := s0.2.2.2
  have hN := hT.2.2.2.2.1
  have hr := hK.1
  refine en_u_ex (d := d + 3) rfl ?_
  show en_ex _ _ _ _ (0, [(0, gx_r 383), (1, .inl w)], [], t0, n, 0) _
  refine ex_go (S := (1, [(0, gx_r 383), (1, .inl w)], [gx_r 383], t0, n, 0)) rfl (fun _ => rfl) rfl ?_
  refine ex_go (S := (2, [(0, gx_r 383), (1, .inl w)], [gx_r 383, gx_r 383], t0, n, 0)) rfl (fun _ => rfl) rfl ?_
  refine gx_get rfl s0.1 rfl s0.2.1 rfl ?_
  refine ex_go (S := (6, [(0, gx_r 383), (1, .inl w)], [.inl 1, .inl a, gx_r 383], t0, n, 0)) rfl (fun _ => rfl) rfl ?_
  refine ex_iadd rfl (by first | decide | omega) rfl ?_
  refine gx_put rfl s0.1 rfl rfl (ai_in_h (by first | decide | omega) (by first | decide | omega) (by first | decide | omega)) rfl (fun t101 g101 k101 e101 => ?_)
  have k2 : ai_hv t101 383 19 = some (.inl (σ 15 0)) := (e101 383 19 (by first | decide | omega)).trans k1
  have s101 : px_S t101 (a + 1) 0 := ⟨g101, k101, (e101 383 8 (by first | decide | omega)).trans s0.2.2.1, by omega, s0.2.2.2.2⟩
  have hT3 := rT_keep hT (fun c i h => e101 c i (by first | decide | omega))
  refine ex_go (S := (11, [(0, gx_r 383), (1, .inl w)], [gx_r 383], t101, n, 0)) rfl (fun _ => rfl) rfl ?_
  have hT7 := rT_keep (t' := t101) hT (fun c i h => e101 c i (by first | decide | omega))
  obtain ⟨_, r6, b4, rfl, q5⟩ := pe_isName d n (s101) hT7 (by first | decide | omega) 
  refine gx_call1 rfl rfl s101.1 rfl rfl r6 rfl ?_
  by_cases hc8 : b4 ≠ 0
  · refine gx_1t (c := .ne) rfl (by first | decide | omega) hc8 rfl ?_
    refine ex_go (S := (26, [(0, gx_r 383), (1, .inl w)], [gx_r 383], t101, n, 0)) rfl (fun _ => rfl) rfl ?_
    refine ex_go (S := (27, [(0, gx_r 383), (1, .inl w)], [.inl 1, gx_r 383], t101, n, 0)) rfl (fun _ => rfl) rfl ?_
    have hR9 : RN t101 S m σ := fun k hk => ⟨(e101 393 k (by first | decide | omega)).trans (hR k hk).1, (e101 395 k (by first | decide | omega)).trans (hR k hk).2⟩
    have hnm := (q5.2.mp (by first | decide | omega)).2
    have hlt9 := sp_kt_lt (S := S) (m := m) (N := N) (a := a + 1) (by have := hnm.1; omega)
    obtain ⟨_, r11, b9, rfl, q10⟩ := pe_find (d + 2) n (s101) hT7 hnm.1 k2 hR9 hK
    refine gx_call1 rfl rfl s101.1 rfl rfl r11 rfl ?_
    rcases q10 with ⟨hn12a, hn12b⟩ | ⟨hn12a, hn12b⟩
    · have hn12c := (hK.2 _ hn12a).2.1
      have hn12d : b9 ≤ 20 := by omega
      refine gx_1f (c := .lt) rfl (by first | decide | omega) (show ¬ (b9 < 0) from by omega) rfl ?_
      refine ex_go (S := (34, [(0, gx_r 383), (1, .inl w)], [gx_r 383], t101, n, 0)) rfl (fun _ => rfl) rfl ?_
      refine ex_go (S := (35, [(0, gx_r 383), (1, .inl w)], [.inl 3, gx_r 383], t101, n, 0)) rfl (fun _ => rfl) rfl ?_
      obtain ⟨_, r113, t113, a113, f113, rfl, s113, e113, q113⟩ := pe_wrong (d + 2) n (s101) hT7 (by first | decide | omega) (w := 3) (by first | decide | omega)
      have b113 := s113.2.2.2
      have hT113 := rT_keep hT7 (fun c i h => e113 c i (by first | decide | omega))
      refine gx_call0 rfl rfl s101.1 rfl rfl r113 rfl ?_
      have k14 : ai_hv t113 383 19 = some (.inl (σ 15 0)) := (e113 383 19 (by first | decide | omega)).trans k2
      refine ex_go (S := (39, [(0, gx_r 383), (1, .inl w)], [gx_r 383], t113, n, 0)) rfl (fun _ => rfl) rfl ?_
      refine gx_get rfl s113.1 rfl s113.2.2.1 rfl ?_
      refine gx_1t (c := .ne) rfl (by first | decide | omega) (show f113 ≠ 0 from by omega) rfl ?_
      refine ex_ret (r := (none, t113, n, 0)) rfl (fun _ => rfl) ?_
      have hf9 : f113 ≠ 0 := by omega
      refine ⟨_, rfl, t113, a113, f113, rfl, s113, (fun c i h => (e113 c i (by first | decide | omega)).trans (e101 c i (by first | decide | omega))), ?_, by omega, fun z => absurd z hf9⟩
      rw [show a113 = a + 1 by omega, show f113 = 3 + 16 * sp_st S m (a + 1) from by omega]
      exact (fm_3 hnm (sg_told_iff.mpr hn12a)).symm
    · subst hn12b
      refine ex_go (S := (38, [(0, gx_r 383), (1, .inl w)], [], t101, n, 0)) rfl (fun _ => rfl) rfl ?_
      refine ex_go (S := (39, [(0, gx_r 383), (1, .inl w)], [gx_r 383], t101, n, 0)) rfl (fun _ => rfl) rfl ?_
      refine gx_get rfl s101.1 rfl s101.2.2.1 rfl ?_
      refine ex_go (S := (45, [(0, gx_r 383), (1, .inl w)], [], t101, n, 0)) rfl (fun _ => rfl) rfl ?_
      refine ex_go (S := (46, [(0, gx_r 383), (1, .inl w)], [gx_r 383], t101, n, 0)) rfl (fun _ => rfl) rfl ?_
      refine gx_ref (c := 393) rfl s101.1 rfl rfl rfl rfl ?_
      refine ex_go (S := (50, [(0, gx_r 383), (1, .inl w)], [gx_r 383, gx_r 393], t101, n, 0)) rfl (fun _ => rfl) rfl ?_
      refine gx_get rfl s101.1 rfl k2 rfl ?_
      refine ex_go (S := (54, [(0, gx_r 383), (1, .inl w)], [gx_r 383, .inl (σ 15 0), gx_r 393], t101, n, 0)) rfl (fun _ => rfl) rfl ?_
      refine gx_ref (c := 387) rfl s101.1 rfl rfl rfl rfl ?_
      refine ex_go (S := (58, [(0, gx_r 383), (1, .inl w)], [gx_r 383, gx_r 387, .inl (σ 15 0), gx_r 393], t101, n, 0)) rfl (fun _ => rfl) rfl ?_
      refine gx_get rfl s101.1 rfl s101.2.1 rfl ?_
      have k15 := rT_name hT7 hnm.1
      refine gx_ag (v := .inr (.inl (sp_w7 S m (a + 1)))) (cb := fun c => Nat.beq c 3) rfl (fun _ => rfl) s101.1 rfl rfl k15 (by first | decide | omega) rfl ?_
      refine gx_apv (d := 1) rfl (fun _ => rfl) s101.1 rfl rfl rfl (show σ 15 0 < 24 from by omega) (gx_lrun_393 (σ 15 0) (by first | decide | omega)) ⟨_, rfl⟩ rfl (fun t116 g116 k116 e116 => ?_)
      have k17 : ai_hv t116 383 19 = some (.inl (σ 15 0)) := (e116 383 19 (by first | decide | omega)).trans k2
      have k18 : ai_hv t116 387 (a + 1) = some (.inr (.inl (sp_w7 S m (a + 1)))) := (e116 387 (a + 1) (by first | decide | omega)).trans k15
      have s116 : px_S t116 (a + 1) 0 := ⟨g116, (e116 383 7 (by first | decide | omega)).trans s101.2.1, (e116 383 8 (by first | decide | omega)).trans s101.2.2.1, s101.2.2.2⟩
      refine ex_go (S := (64, [(0, gx_r 383), (1, .inl w)], [gx_r 383], t116, n, 0)) rfl (fun _ => rfl) rfl ?_
      refine gx_ref (c := 395) rfl s116.1 rfl rfl rfl rfl ?_
      refine ex_go (S := (68, [(0, gx_r 383), (1, .inl w)], [gx_r 383, gx_r 395], t116, n, 0)) rfl (fun _ => rfl) rfl ?_
      refine gx_get rfl s116.1 rfl k17 rfl ?_
      refine ex_go (S := (72, [(0, gx_r 383), (1, .inl w)], [.inl w, .inl (σ 15 0), gx_r 395], t116, n, 0)) rfl (fun _ => rfl) rfl ?_
      refine gx_ap rfl (fun _ => rfl) s116.1 rfl rfl rfl (show σ 15 0 < 24 from by omega) (gx_run1 (show σ 15 0 < 24 from by omega)) (ai_in_h (by first | decide | omega) (by first | decide | omega) (by first | decide | omega)) rfl (fun t119 g119 k119 e119 => ?_)
      have k20 : ai_hv t119 383 19 = some (.inl (σ 15 0)) := (e119 383 19 (by first | decide | omega)).trans k17
      have k21 : ai_hv t119 387 (a + 1) = some (.inr (.inl (sp_w7 S m (a + 1)))) := (e119 387 (a + 1) (by first | decide | omega)).trans k18
      have k22 : ai_hv t119 393 (σ 15 0) = some (.inr (.inl (sp_w7 S m (a + 1)))) := (e119 393 (σ 15 0) (by first | decide | omega)).trans k116
      have s119 : px_S t119 (a + 1) 0 := ⟨g119, (e119 383 7 (by first | decide | omega)).trans s116.2.1, (e119 383 8 (by first | decide | omega)).trans s116.2.2.1, s116.2.2.2⟩
      refine ex_go (S := (74, [(0, gx_r 383), (1, .inl w)], [gx_r 383], t119, n, 0)) rfl (fun _ => rfl) rfl ?_
      refine ex_go (S := (75, [(0, gx_r 383), (1, .inl w)], [gx_r 383, gx_r 383], t119, n, 0)) rfl (fun _ => rfl) rfl ?_
      refine gx_get rfl s119.1 rfl k20 rfl ?_
      refine ex_go (S := (79, [(0, gx_r 383), (1, .inl w)], [.inl 1, .inl (σ 15 0), gx_r 383], t119, n, 0)) rfl (fun _ => rfl) rfl ?_
      refine ex_iadd rfl (by first | decide | omega) rfl ?_
      refine gx_put rfl s119.1 rfl rfl (ai_in_h (by first | decide | omega) (by first | decide | omega) (by first | decide | omega)) rfl (fun t123 g123 k123 e123 => ?_)
      have k24 : ai_hv t123 387 (a + 1) = some (.inr (.inl (sp_w7 S m (a + 1)))) := (e123 387 (a + 1) (by first | decide | omega)).trans k21
      have k25 : ai_hv t123 393 (σ 15 0) = some (.inr (.inl (sp_w7 S m (a + 1)))) := (e123 393 (σ 15 0) (by first | decide | omega)).trans k22
      have k26 : ai_hv t123 395 (σ 15 0) = some (.inl w) := (e123 395 (σ 15 0) (by first | decide | omega)).trans k119
      have s123 : px_S t123 (a + 1) 0 := ⟨g123, (e123 383 7 (by first | decide | omega)).trans s119.2.1, (e123 383 8 (by first | decide | omega)).trans s119.2.2.1, s119.2.2.2⟩
      refine ex_go (S := (84, [(0, gx_r 383), (1, .inl w)], [gx_r 383], t123, n, 0)) rfl (fun _ => rfl) rfl ?_
      refine ex_go (S := (85, [(0, gx_r 383), (1, .inl w)], [gx_r 383, gx_r 383], t123, n, 0)) rfl (fun _ => rfl) rfl ?_
      refine gx_get rfl s123.1 rfl s123.2.1 rfl ?_
      refine ex_go (S := (89, [(0, gx_r 383), (1, .inl w)], [.inl 1, .inl (a + 1), gx_r 383], t123, n, 0)) rfl (fun _ => rfl) rfl ?_
      refine ex_iadd rfl (by first | decide | omega) rfl ?_
      refine gx_put rfl s123.1 rfl rfl (ai_in_h (by first | decide | omega) (by first | decide | omega) (by first | decide | omega)) rfl (fun t127 g127 k127 e127 => ?_)
      have k28 : ai_hv t127 387 (a + 1) = some (.inr (.inl (sp_w7 S m (a + 1)))) := (e127 387 (a + 1) (by first | decide | omega)).trans k24
      have k29 : ai_hv t127 393 (σ 15 0) = some (.inr (.inl (sp_w7 S m (a + 1)))) := (e127 393 (σ 15 0) (by first | decide | omega)).trans k25
      have k30 : ai_hv t127 395 (σ 15 0) = some (.inl w) := (e127 395 (σ 15 0) (by first | decide | omega)).trans k26
      have k31 : ai_hv t127 383 19 = some (.inl ((σ 15 0) + 1)) := (e127 383 19 (by first | decide | omega)).trans k123
      have s127 : px_S t127 ((a + 1) + 1) 0 := ⟨g127, k127, (e127 383 8 (by first | decide | omega)).trans s123.2.2.1, by omega, s123.2.2.2.2⟩
      refine ex_ret (r := (none, t127, n, 0)) rfl (fun _ => rfl) ?_
      refine ⟨_, rfl, t127, (a + 1) + 1, 0, rfl, s127, (fun c i h => (e127 c i (by first | decide | omega)).trans ((e123 c i (by first | decide | omega)).trans ((e119 c i (by first | decide | omega)).trans ((e116 c i (by first | decide | omega)).trans (e101 c i (by first | decide | omega)))))), (fm_yes hnm (fun z => by have := sg_told_iff.mp z; omega)).symm, by omega, fun _ => ⟨hnm.1, k31, fun k hk => ⟨((e127 393 k (by first | decide | omega)).trans ((e123 393 k (by first | decide | omega)).trans ((e119 393 k (by first | decide | omega)).trans ((e116 393 k (by first | decide | omega)).trans (e101 393 k (by first | decide | omega)))))).trans (hR k hk).1, ((e127 395 k (by first | decide | omega)).trans ((e123 395 k (by first | decide | omega)).trans ((e119 395 k (by first | decide | omega)).trans ((e116 395 k (by first | decide | omega)).trans (e101 395 k (by first | decide | omega)))))).trans (hR k hk).2⟩, k29, k30⟩⟩
  · refine gx_1f (c := .ne) rfl (by first | decide | omega) hc8 rfl ?_
    refine ex_go (S := (18, [(0, gx_r 383), (1, .inl w)], [gx_r 383], t101, n, 0)) rfl (fun _ => rfl) rfl ?_
    refine ex_go (S := (19, [(0, gx_r 383), (1, .inl w)], [.inl 1, gx_r 383], t101, n, 0)) rfl (fun _ => rfl) rfl ?_
    obtain ⟨_, r132, t132, a132, f132, rfl, s132, e132, q132⟩ := pe_wrong (d + 2) n (s101) hT7 (by first | decide | omega) (w := 1) (by first | decide | omega)
    have b132 := s132.2.2.2
    have hT132 := rT_keep hT7 (fun c i h => e132 c i (by first | decide | omega))
    refine gx_call0 rfl rfl s101.1 rfl rfl r132 rfl ?_
    have k33 : ai_hv t132 383 19 = some (.inl (σ 15 0)) := (e132 383 19 (by first | decide | omega)).trans k2
    refine ex_go (S := (38, [(0, gx_r 383), (1, .inl w)], [], t132, n, 0)) rfl (fun _ => rfl) rfl ?_
    refine ex_go (S := (39, [(0, gx_r 383), (1, .inl w)], [gx_r 383], t132, n, 0)) rfl (fun _ => rfl) rfl ?_
    refine gx_get rfl s132.1 rfl s132.2.2.1 rfl ?_
    refine gx_1t (c := .ne) rfl (by first | decide | omega) (show f132 ≠ 0 from by omega) rfl ?_
    refine ex_ret (r := (none, t132, n, 0)) rfl (fun _ => rfl) ?_
    have hf9 : f132 ≠ 0 := by omega
    refine ⟨_, rfl, t132, a132, f132, rfl, s132, (fun c i h => (e132 c i (by first | decide | omega)).trans (e101 c i (by first | decide | omega))), ?_, by omega, fun z => absurd z hf9⟩
    rw [show a132 = a + 1 by omega, show f132 = 1 + 16 * sp_st S m (a + 1) from by omega]
    exact (fm_1 (fun z => absurd (q5.2.mpr ⟨rfl, z⟩) (by first | decide | omega))).symm
end SPK
