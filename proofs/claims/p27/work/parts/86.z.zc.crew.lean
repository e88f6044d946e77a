section SCR
theorem sp_w7_eq2 {S S' : Nat → Nat} {m m' N N' a b : Nat} (ha : sp_kt S m N a = 1) (hb : sp_kt S' m' N' b = 1) : (lN (sp_w7 S' m' b)).toInt = (lN (sp_w7 S m a)).toInt ↔ sp_wv S' m' b = sp_wv S m a := by
  obtain ⟨l1, n1⟩ := sp_nm_let ha
  obtain ⟨l2, n2⟩ := sp_nm_let hb
  have b1 := sp_hv37 n1 l1
  have b2 := sp_hv37 n2 l2
  unfold sp_w7 sp_wv
  rw [sp_lN (by first | decide | omega), sp_lN (by first | decide | omega), ← nm_two l2 l1]
  omega
/-- what the reference tells of names and crews -/
noncomputable def TN (t : en_H) (S0 : Nat → Nat) (m0 : Nat) (υ : Nat → Nat → Nat) : Prop := ai_hv t 383 18 = some (.inl (υ 15 0)) ∧ (∀ k, k < υ 15 0 → ai_hv t 392 k = some (.inr (.inl (sp_w7 S0 m0 (υ 13 k)))) ∧ ai_hv t 394 k = some (.inl (υ 14 k))) ∧ ai_hv t 389 4 = some (.inl (υ 4 0)) ∧ (∀ k, k < υ 4 0 → ai_hv t 389 (118 + 3 * k) = some (.inl (υ 12 k)))
theorem TN_keep {t t' : en_H} {S0 : Nat → Nat} {m0 : Nat} {υ : Nat → Nat → Nat} (h : TN t S0 m0 υ) (e : ∀ c i, (c = 383 ∧ i = 18) ∨ c = 392 ∨ c = 394 ∨ (c = 389 ∧ i < 160) → υ 4 0 ≤ 2 → ai_hv t' c i = ai_hv t c i) (h2 : υ 4 0 ≤ 2) : TN t' S0 m0 υ :=
  ⟨(e _ _ (by first | decide | omega) h2).trans h.1, fun k hk => ⟨(e _ _ (by first | decide | omega) h2).trans (h.2.1 k hk).1, (e _ _ (by first | decide | omega) h2).trans (h.2.1 k hk).2⟩, (e _ _ (by first | decide | omega) h2).trans h.2.2.1, fun k hk => (e _ _ (by first | decide | omega) h2).trans (h.2.2.2 k hk)⟩
noncomputable def tk0 (S0 : Nat → Nat) (m0 : Nat) (υ : Nat → Nat → Nat) (S : Nat → Nat) (m a : Nat) : Nat := sp_fi (fun k => sp_wv S0 m0 (υ 13 k) = sp_wv S m a) (υ 15 0) 0
theorem tc_run (k : Nat) (h : k < 2) : ai_run ah_389.2.2.2 (118 + 3 * k) = some (.inl (2147483648, 2147483653)) := by
  rcases (show k = 0 ∨ k = 1 by omega) with rfl | rfl <;> rfl
theorem tcr_iff {S0 S : Nat → Nat} {m0 N0 m a : Nat} {υ : Nat → Nat → Nat} (h3 : W3 S0 m0 N0 υ) (hc : WC S0 m0 N0 υ) : tcr S0 m0 υ S m a ↔ (tk0 S0 m0 υ S m a < υ 15 0 ∧ ∃ j, j < υ 4 0 ∧ υ 12 j = υ 14 (tk0 S0 m0 υ S m a)) := by
  obtain ⟨hB, hK, ⟨t1, -, -, -⟩, k5, u6⟩ := h3
  have hfi : tk0 S0 m0 υ S m a < υ 15 0 → sp_wv S0 m0 (υ 13 (tk0 S0 m0 υ S m a)) = sp_wv S m a := fun z => sp_fi_lt (P := fun k => sp_wv S0 m0 (υ 13 k) = sp_wv S m a) (j := υ 15 0) (k := 0) (by rw [Nat.zero_add]; exact z)
  constructor
  · rintro ⟨j, hj, e⟩
    obtain ⟨c1, c2, c3⟩ := hc j hj
    obtain ⟨k, w1, w2, w3⟩ := t1 _ c1
    have e2 : sp_wv S0 m0 (υ 13 k) = sp_wv S m a := by rw [w2, ← c3]; exact e
    have z4 : tk0 S0 m0 υ S m a ≤ k := sp_fi_ex (P := fun k => sp_wv S0 m0 (υ 13 k) = sp_wv S m a) (j := υ 15 0) (k := 0) (i := k) (by first | decide | omega) (by first | decide | omega) e2
    have z5 : tk0 S0 m0 υ S m a < υ 15 0 := by omega
    have z6 := u6 _ _ z5 w1 ((hfi z5).trans e2.symm)
    exact ⟨z5, j, hj, by rw [z6, w3]⟩
  · rintro ⟨z5, j, hj, e⟩
    obtain ⟨c1, c2, c3⟩ := hc j hj
    refine ⟨j, hj, ?_⟩
    rcases k5 _ z5 with ⟨z1, z2⟩ | ⟨z1, z2⟩
    · rw [c3, e, z2]; exact hfi z5
    · have := hB.1; omega
/-- crew j is the one that is named at the token a -/
noncomputable def crw (S0 : Nat → Nat) (m0 : Nat) (υ : Nat → Nat → Nat) (S : Nat → Nat) (m a j : Nat) : Prop := j < υ 4 0 ∧ sp_wv S0 m0 (υ 21 j + 1) = sp_wv S m a
theorem crw_of {S0 S : Nat → Nat} {m0 N0 m a j : Nat} {υ : Nat → Nat → Nat} (h3 : W3 S0 m0 N0 υ) (hc : WC S0 m0 N0 υ) (z5 : tk0 S0 m0 υ S m a < υ 15 0) (hj : j < υ 4 0) (e : υ 12 j = υ 14 (tk0 S0 m0 υ S m a)) : crw S0 m0 υ S m a j := by
  obtain ⟨hB, hK, ⟨t1, -, -, -⟩, k5, u6⟩ := h3
  have hfi : sp_wv S0 m0 (υ 13 (tk0 S0 m0 υ S m a)) = sp_wv S m a := sp_fi_lt (P := fun k => sp_wv S0 m0 (υ 13 k) = sp_wv S m a) (j := υ 15 0) (k := 0) (by rw [Nat.zero_add]; exact z5)
  obtain ⟨c1, c2, c3⟩ := hc j hj
  refine ⟨hj, ?_⟩
  rcases k5 _ z5 with ⟨z1, z2⟩ | ⟨z1, z2⟩
  · rw [c3, e, z2]; exact hfi
  · have := hB.1; omega
theorem crw_one {S0 S : Nat → Nat} {m0 N0 m a i j : Nat} {υ : Nat → Nat → Nat} (h3 : W3 S0 m0 N0 υ) (hc : WC S0 m0 N0 υ) (hd : WD υ) (hi : crw S0 m0 υ S m a i) (hj : crw S0 m0 υ S m a j) : i = j := by
  obtain ⟨hB, hK, ⟨t1, -, -, -⟩, k5, u6⟩ := h3
  obtain ⟨i1, i2⟩ := hi
  obtain ⟨j1, j2⟩ := hj
  obtain ⟨c1, c2, c3⟩ := hc i i1
  obtain ⟨g1, g2, g3⟩ := hc j j1
  obtain ⟨k, w1, w2, w3⟩ := t1 _ c1
  obtain ⟨l, v1, v2, v3⟩ := t1 _ g1
  have e : k = l := u6 _ _ w1 v1 (by rw [w2, v2, ← c3, ← g3, i2, j2])
  subst e
  exact hd i j i1 j1 (w3.symm.trans v3)
theorem pe_find0_l (d n : Nat) {t0 : en_H} {a f nm : Nat} {S S0 : Nat → Nat} {m N m0 N0 : Nat} {υ : Nat → Nat → Nat} (s0 : px_S t0 a f) (hT : rT t0 S m N) (hk : sp_kt S m N a = 1) (hN : TN t0 S0 m0 υ) (k2 : ai_hv t0 383 19 = some (.inl nm)) (hn : nm ≤ 24) (hK : NK S0 m0 N0 υ) : ∀ j k, k + j = υ 15 0 → en_ex none (en_u d) (en_code 246) (fun _ => false) (2, [(2, .inl k), (0, gx_r 383), (1, .inl 0)], [], t0, n, 0) (fun o => ∃ r, o = .inl r ∧ ∃ b, r = (some (.inl b), t0, n, 0) ∧ ((sp_fi (fun k => sp_wv S0 m0 (υ 13 k) = sp_wv S m a) j k < υ 15 0 ∧ b = υ 14 (sp_fi (fun k => sp_wv S0 m0 (υ 13 k) = sp_wv S m a) j k)) ∨ (sp_fi (fun k => sp_wv S0 m0 (υ 13 k) = sp_wv S m a) j k = υ 15 0 ∧ b = 4294967295))) := by
  have b0 := s0.2.2.2
  have hNN := hT.2.2.2.2.1
  have hr := hK.1
  have k1 := hN.1
  have halt := sp_kt_lt (S := S) (m := m) (N := N) (a := a) (by first | decide | omega)
  intro j
  induction j with
  | zero =>
    intro k hk9
    refine ex_go (S := (3, [(2, .inl k), (0, gx_r 383), (1, .inl 0)], [.inl k], t0, n, 0)) rfl (fun _ => rfl) rfl ?_
    refine ex_go (S := (4, [(2, .inl k), (0, gx_r 383), (1, .inl 0)], [.inl 0, .inl k], t0, n, 0)) rfl (fun _ => rfl) rfl ?_
    refine ex_go (S := (14, [(2, .inl k), (0, gx_r 383), (1, .inl 0)], [.inl k], t0, n, 0)) rfl (fun _ => rfl) rfl ?_
    refine ex_go (S := (15, [(2, .inl k), (0, gx_r 383), (1, .inl 0)], [gx_r 383, .inl k], t0, n, 0)) rfl (fun _ => rfl) rfl ?_
    refine gx_get rfl s0.1 rfl k1 rfl ?_
    refine gx_2t (c := .ge) rfl (by first | decide | omega) (by first | decide | omega) (show υ 15 0 ≤ k from by omega) rfl ?_
    refine ex_go (S := (80, [(2, .inl k), (0, gx_r 383), (1, .inl 0)], [.inl 4294967295], t0, n, 0)) rfl (fun _ => rfl) rfl ?_
    refine ex_ret (r := (some (.inl 4294967295), t0, n, 0)) rfl (fun _ => rfl) ?_
    exact ⟨_, rfl, _, rfl, Or.inr ⟨by show k = _; omega, rfl⟩⟩
  | succ j ih =>
    intro k hk9
    obtain ⟨kn, kw⟩ := hN.2.1 k (by first | decide | omega)
    obtain ⟨hk8, hw8⟩ := hK.2 k (by first | decide | omega)
    have kv := rT_name hT hk
    have hiff := sp_w7_eq2 hk hk8
    refine ex_go (S := (3, [(2, .inl k), (0, gx_r 383), (1, .inl 0)], [.inl k], t0, n, 0)) rfl (fun _ => rfl) rfl ?_
    refine ex_go (S := (4, [(2, .inl k), (0, gx_r 383), (1, .inl 0)], [.inl 0, .inl k], t0, n, 0)) rfl (fun _ => rfl) rfl ?_
    refine ex_go (S := (14, [(2, .inl k), (0, gx_r 383), (1, .inl 0)], [.inl k], t0, n, 0)) rfl (fun _ => rfl) rfl ?_
    refine ex_go (S := (15, [(2, .inl k), (0, gx_r 383), (1, .inl 0)], [gx_r 383, .inl k], t0, n, 0)) rfl (fun _ => rfl) rfl ?_
    refine gx_get rfl s0.1 rfl k1 rfl ?_
    refine gx_2f (c := .ge) rfl (by first | decide | omega) (by first | decide | omega) (show ¬ (υ 15 0 ≤ k) from by omega) rfl ?_
    refine ex_go (S := (22, [(2, .inl k), (0, gx_r 383), (1, .inl 0)], [.inl 0], t0, n, 0)) rfl (fun _ => rfl) rfl ?_
    refine ex_go (S := (34, [(2, .inl k), (0, gx_r 383), (1, .inl 0)], [], t0, n, 0)) rfl (fun _ => rfl) rfl ?_
    refine ex_go (S := (35, [(2, .inl k), (0, gx_r 383), (1, .inl 0)], [gx_r 383], t0, n, 0)) rfl (fun _ => rfl) rfl ?_
    refine gx_ref (c := 392) rfl s0.1 rfl rfl rfl rfl ?_
    refine ex_go (S := (39, [(2, .inl k), (0, gx_r 383), (1, .inl 0)], [.inl k, gx_r 392], t0, n, 0)) rfl (fun _ => rfl) rfl ?_
    refine gx_ag (v := .inr (.inl (sp_w7 S0 m0 (υ 13 k)))) (cb := fun c => Nat.beq c 3) rfl (fun _ => rfl) s0.1 rfl rfl kn (by first | decide | omega) rfl ?_
    refine ex_go (S := (41, [(2, .inl k), (0, gx_r 383), (1, .inl 0)], [gx_r 383, .inr (.inl (sp_w7 S0 m0 (υ 13 k)))], t0, n, 0)) rfl (fun _ => rfl) rfl ?_
    refine gx_ref (c := 387) rfl s0.1 rfl rfl rfl rfl ?_
    refine ex_go (S := (45, [(2, .inl k), (0, gx_r 383), (1, .inl 0)], [gx_r 383, gx_r 387, .inr (.inl (sp_w7 S0 m0 (υ 13 k)))], t0, n, 0)) rfl (fun _ => rfl) rfl ?_
    refine gx_get rfl s0.1 rfl s0.2.1 rfl ?_
    refine gx_ag (v := .inr (.inl (sp_w7 S m a))) (cb := fun c => Nat.beq c 3) rfl (fun _ => rfl) s0.1 rfl rfl kv (by first | decide | omega) rfl ?_
    refine gx_lcmp rfl rfl (fun hl1 => ?_) (fun hl1 => ?_) (fun hl1 => ?_)
    · refine ex_go (S := (53, [(2, .inl k), (0, gx_r 383), (1, .inl 0)], [], t0, n, 0)) rfl (fun _ => rfl) rfl ?_
      refine ex_go (S := (54, [(2, .inl k), (0, gx_r 383), (1, .inl 0)], [.inl 0], t0, n, 0)) rfl (fun _ => rfl) rfl ?_
      refine ex_go (S := (66, [(2, .inl k), (0, gx_r 383), (1, .inl 0)], [], t0, n, 0)) rfl (fun _ => rfl) rfl ?_
      refine ex_go (S := (67, [(2, .inl k), (0, gx_r 383), (1, .inl 0)], [gx_r 383], t0, n, 0)) rfl (fun _ => rfl) rfl ?_
      refine gx_ref (c := 394) rfl s0.1 rfl rfl rfl rfl ?_
      refine ex_go (S := (71, [(2, .inl k), (0, gx_r 383), (1, .inl 0)], [.inl k, gx_r 394], t0, n, 0)) rfl (fun _ => rfl) rfl ?_
      refine gx_ag (v := .inl (υ 14 k)) (cb := fun c => Nat.beq c 0) rfl (fun _ => rfl) s0.1 rfl rfl kw (by first | decide | omega) rfl ?_
      refine ex_ret (r := (some (.inl (υ 14 k)), t0, n, 0)) rfl (fun _ => rfl) ?_
      have z9 : sp_fi (fun k => sp_wv S0 m0 (υ 13 k) = sp_wv S m a) (j + 1) k = k := cif_t (hiff.mp (by first | decide | omega))
      rw [z9]
      exact ⟨_, rfl, _, rfl, Or.inl ⟨by omega, rfl⟩⟩
    · refine ex_go (S := (73, [(2, .inl k), (0, gx_r 383), (1, .inl 0)], [], t0, n, 0)) rfl (fun _ => rfl) rfl ?_
      refine gx_iinc (i := 2) (k := 1) rfl (fun _ => rfl) (by first | decide | omega) rfl ?_
      show en_ex _ _ _ _ (76, [(2, .inl (k + 1)), (0, gx_r 383), (1, .inl 0)], [], t0, n, 0) _
      refine ex_go (S := (2, [(2, .inl (k + 1)), (0, gx_r 383), (1, .inl 0)], [], t0, n, 0)) rfl (fun _ => rfl) rfl ?_
      have z9 : sp_fi (fun k => sp_wv S0 m0 (υ 13 k) = sp_wv S m a) (j + 1) k = sp_fi (fun k => sp_wv S0 m0 (υ 13 k) = sp_wv S m a) j (k + 1) := cif_f (fun z => by have := hiff.mpr z; omega)
      rw [z9]
      exact ih (k + 1) (by first | decide | omega)
    · refine ex_go (S := (73, [(2, .inl k), (0, gx_r 383), (1, .inl 0)], [], t0, n, 0)) rfl (fun _ => rfl) rfl ?_
      refine gx_iinc (i := 2) (k := 1) rfl (fun _ => rfl) (by first | decide | omega) rfl ?_
      show en_ex _ _ _ _ (76, [(2, .inl (k + 1)), (0, gx_r 383), (1, .inl 0)], [], t0, n, 0) _
      refine ex_go (S := (2, [(2, .inl (k + 1)), (0, gx_r 383), (1, .inl 0)], [], t0, n, 0)) rfl (fun _ => rfl) rfl ?_
      have z9 : sp_fi (fun k => sp_wv S0 m0 (υ 13 k) = sp_wv S m a) (j + 1) k = sp_fi (fun k => sp_wv S0 m0 (υ 13 k) = sp_wv S m a) j (k + 1) := cif_f (fun z => by have := hiff.mpr z; omega)
      rw [z9]
      exact ih (k + 1) (by first | decide | omega)
theorem pe_find0 (d n : Nat) {t0 : en_H} {a f : Nat} {S S0 : Nat → Nat} {m N m0 N0 : Nat} {υ : Nat → Nat → Nat} (s0 : px_S t0 a f) (hT : rT t0 S m N) (hk : sp_kt S m N a = 1) (hN : TN t0 S0 m0 υ) (hK : NK S0 m0 N0 υ) : ∃ r, en_u (d + 1) 246 [gx_r 383, .inl 0] t0 n = some r ∧ ∃ b, r = (some (.inl b), t0, n, 0) ∧ ((tk0 S0 m0 υ S m a < υ 15 0 ∧ b = υ 14 (tk0 S0 m0 υ S m a)) ∨ (tk0 S0 m0 υ S m a = υ 15 0 ∧ b = 4294967295)) := by
  obtain ⟨nm, k2, -, hn⟩ := gx_in (c := 383) (i := 19) (lo := 0) (hi := 24) s0.1 rfl rfl rfl rfl
  refine en_u_ex rfl ?_
  show en_ex _ _ _ _ (0, [(0, gx_r 383), (1, .inl 0)], [], t0, n, 0) _
  refine ex_go (S := (1, [(0, gx_r 383), (1, .inl 0)], [.inl 0], t0, n, 0)) rfl (fun _ => rfl) rfl ?_
  refine ex_go (S := (2, [(2, .inl 0), (0, gx_r 383), (1, .inl 0)], [], t0, n, 0)) rfl (fun _ => rfl) rfl ?_
  exact pe_find0_l d n s0 hT hk hN k2 hn hK (υ 15 0) 0 (by first | decide | omega)
theorem pe_tc_l (d n : Nat) {t0 : en_H} {a f tt : Nat} {S0 : Nat → Nat} {m0 : Nat} {υ : Nat → Nat → Nat} {Q : en_O → Prop} (s0 : px_S t0 a f) (hN : TN t0 S0 m0 υ) (h4 : υ 4 0 ≤ 2) (ht : tt < 2147483648) (hQ : ∀ k c, ((c < υ 4 0 ∧ υ 12 c = tt) ∨ (c = 4294967295 ∧ ∀ i, i < υ 4 0 → υ 12 i ≠ tt)) → en_ex none (en_u d) (en_code 195) (fun _ => false) (81, [(3, .inl k), (2, .inl c), (1, .inl tt), (0, gx_r 383)], [], t0, n, 0) Q) : ∀ j k c, k + j = υ 4 0 → ((c < k ∧ υ 12 c = tt) ∨ (c = 4294967295 ∧ ∀ i, i < k → υ 12 i ≠ tt)) → en_ex none (en_u d) (en_code 195) (fun _ => false) (40, [(3, .inl k), (2, .inl c), (1, .inl tt), (0, gx_r 383)], [], t0, n, 0) Q := by
  have b0 := s0.2.2.2
  have k4 := hN.2.2.1
  intro j
  induction j with
  | zero =>
    intro k c hk hi
    refine ex_go (S := (41, [(3, .inl k), (2, .inl c), (1, .inl tt), (0, gx_r 383)], [.inl k], t0, n, 0)) rfl (fun _ => rfl) rfl ?_
    refine ex_go (S := (42, [(3, .inl k), (2, .inl c), (1, .inl tt), (0, gx_r 383)], [gx_r 383, .inl k], t0, n, 0)) rfl (fun _ => rfl) rfl ?_
    refine gx_ref (c := 389) rfl s0.1 rfl rfl rfl rfl ?_
    refine ex_go (S := (46, [(3, .inl k), (2, .inl c), (1, .inl tt), (0, gx_r 383)], [.inl 4, gx_r 389, .inl k], t0, n, 0)) rfl (fun _ => rfl) rfl ?_
    refine gx_ag (v := .inl (υ 4 0)) (cb := fun c => Nat.beq c 0) rfl (fun _ => rfl) s0.1 rfl rfl k4 (by first | decide | omega) rfl ?_
    refine gx_2t (c := .ge) rfl (by first | decide | omega) (by first | decide | omega) (show υ 4 0 ≤ k from by omega) rfl ?_
    exact hQ k c (by rw [← show k = υ 4 0 by omega]; exact hi)
  | succ j ih =>
    intro k c hk hi
    have kn := hN.2.2.2 k (by first | decide | omega)
    have hnb : υ 12 k < 2147483648 := by
      obtain ⟨m9, k9, k8, k7⟩ := gx_inb (c := 389) (i := 118 + 3 * k) (lo := 0) (hi := 5) s0.1 rfl (show 118 + 3 * k < 320 from by omega) (tc_run k (by first | decide | omega)) (by decide) (by decide) rfl
      have h9 := Sum.inl.inj (Option.some.inj (kn.symm.trans k9))
      omega
    refine ex_go (S := (41, [(3, .inl k), (2, .inl c), (1, .inl tt), (0, gx_r 383)], [.inl k], t0, n, 0)) rfl (fun _ => rfl) rfl ?_
    refine ex_go (S := (42, [(3, .inl k), (2, .inl c), (1, .inl tt), (0, gx_r 383)], [gx_r 383, .inl k], t0, n, 0)) rfl (fun _ => rfl) rfl ?_
    refine gx_ref (c := 389) rfl s0.1 rfl rfl rfl rfl ?_
    refine ex_go (S := (46, [(3, .inl k), (2, .inl c), (1, .inl tt), (0, gx_r 383)], [.inl 4, gx_r 389, .inl k], t0, n, 0)) rfl (fun _ => rfl) rfl ?_
    refine gx_ag (v := .inl (υ 4 0)) (cb := fun c => Nat.beq c 0) rfl (fun _ => rfl) s0.1 rfl rfl k4 (by first | decide | omega) rfl ?_
    refine gx_2f (c := .ge) rfl (by first | decide | omega) (by first | decide | omega) (show ¬ (υ 4 0 ≤ k) from by omega) rfl ?_
    refine ex_go (S := (51, [(3, .inl k), (2, .inl c), (1, .inl tt), (0, gx_r 383)], [.inl tt], t0, n, 0)) rfl (fun _ => rfl) rfl ?_
    refine gx_1f (c := .lt) rfl (by first | decide | omega) (show ¬ (tt < 0) from by omega) rfl ?_
    refine ex_go (S := (55, [(3, .inl k), (2, .inl c), (1, .inl tt), (0, gx_r 383)], [gx_r 383], t0, n, 0)) rfl (fun _ => rfl) rfl ?_
    refine gx_ref (c := 389) rfl s0.1 rfl rfl rfl rfl ?_
    refine ex_go (S := (60, [(3, .inl k), (2, .inl c), (1, .inl tt), (0, gx_r 383)], [.inl 118, gx_r 389], t0, n, 0)) rfl (fun _ => rfl) rfl ?_
    refine ex_go (S := (61, [(3, .inl k), (2, .inl c), (1, .inl tt), (0, gx_r 383)], [.inl 3, .inl 118, gx_r 389], t0, n, 0)) rfl (fun _ => rfl) rfl ?_
    refine ex_go (S := (62, [(3, .inl k), (2, .inl c), (1, .inl tt), (0, gx_r 383)], [.inl k, .inl 3, .inl 118, gx_r 389], t0, n, 0)) rfl (fun _ => rfl) rfl ?_
    refine gx_imul rfl (by first | decide | omega) rfl ?_
    refine ex_iadd rfl (by first | decide | omega) rfl ?_
    refine gx_ag (v := .inl (υ 12 k)) (cb := fun c => Nat.beq c 0) rfl (fun _ => rfl) s0.1 rfl rfl kn (by first | decide | omega) rfl ?_
    refine ex_go (S := (66, [(3, .inl k), (2, .inl c), (1, .inl tt), (0, gx_r 383)], [.inl tt, .inl (υ 12 k)], t0, n, 0)) rfl (fun _ => rfl) rfl ?_
    by_cases hc1 : υ 12 k ≠ tt
    · refine gx_2t (c := .ne) rfl (by first | decide | omega) (by first | decide | omega) hc1 rfl ?_
      refine ex_go (S := (74, [(3, .inl k), (2, .inl c), (1, .inl tt), (0, gx_r 383)], [.inl c], t0, n, 0)) rfl (fun _ => rfl) rfl ?_
      refine ex_go (S := (75, [(2, .inl c), (3, .inl k), (1, .inl tt), (0, gx_r 383)], [], t0, n, 0)) rfl (fun _ => rfl) rfl ?_
      refine gx_iinc (i := 3) (k := 1) rfl (fun _ => rfl) (by first | decide | omega) rfl ?_
      show en_ex _ _ _ _ (78, [(3, .inl (k + 1)), (2, .inl c), (1, .inl tt), (0, gx_r 383)], [], t0, n, 0) _
      refine ex_go (S := (40, [(3, .inl (k + 1)), (2, .inl c), (1, .inl tt), (0, gx_r 383)], [], t0, n, 0)) rfl (fun _ => rfl) rfl ?_
      refine ih (k + 1) c (by first | decide | omega) ?_
      rcases hi with ⟨z1, z2⟩ | ⟨z1, z2⟩
      · exact Or.inl ⟨by omega, z2⟩
      · refine Or.inr ⟨z1, fun i h => ?_⟩
        by_cases e9 : i = k
        · rw [e9]; omega
        · exact z2 i (by first | decide | omega)
    · refine gx_2f (c := .ne) rfl (by first | decide | omega) (by first | decide | omega) hc1 rfl ?_
      refine ex_go (S := (70, [(3, .inl k), (2, .inl c), (1, .inl tt), (0, gx_r 383)], [.inl k], t0, n, 0)) rfl (fun _ => rfl) rfl ?_
      refine ex_go (S := (74, [(3, .inl k), (2, .inl c), (1, .inl tt), (0, gx_r 383)], [.inl k], t0, n, 0)) rfl (fun _ => rfl) rfl ?_
      refine ex_go (S := (75, [(2, .inl k), (3, .inl k), (1, .inl tt), (0, gx_r 383)], [], t0, n, 0)) rfl (fun _ => rfl) rfl ?_
      refine gx_iinc (i := 3) (k := 1) rfl (fun _ => rfl) (by first | decide | omega) rfl ?_
      show en_ex _ _ _ _ (78, [(3, .inl (k + 1)), (2, .inl k), (1, .inl tt), (0, gx_r 383)], [], t0, n, 0) _
      refine ex_go (S := (40, [(3, .inl (k + 1)), (2, .inl k), (1, .inl tt), (0, gx_r 383)], [], t0, n, 0)) rfl (fun _ => rfl) rfl ?_
      exact ih (k + 1) k (by first | decide | omega) (Or.inl ⟨by omega, by omega⟩)
theorem pe_takeCrew (d n : Nat) {t0 : en_H} {a f : Nat} {S S0 : Nat → Nat} {m N m0 N0 : Nat} {υ : Nat → Nat → Nat} (s0 : px_S t0 a f) (hT : rT t0 S m N) (ha : a ≤ N) (hN : TN t0 S0 m0 υ) (h3 : W3 S0 m0 N0 υ) (hc : WC S0 m0 N0 υ) : ∃ r, en_u (d + 4) 195 [gx_r 383] t0 n = some r ∧ ∃ v t' a' f', r = (some (.inl v), t', n, 0) ∧ px_S t' a' f' ∧ px_F t0 t' ∧ (a', f') = fk S m N (tcr S0 m0 υ S m) (a, f) ∧ (a' ≤ N ∧ a ≤ a' ∧ (v ≤ 1 ∨ v = 4294967295) ∧ (f ≠ 0 → f' = f ∧ a' = a) ∧ (f' = 0 → f = 0 ∧ a' = a + 1 ∧ v < υ 4 0)) ∧ (f' = 0 → crw S0 m0 υ S m a v) := by
  have b0 := s0.2.2.2
  have hNN := hT.2.2.2.2.1
  have h4 : υ 4 0 ≤ 2 := h3.1.1.2.2.1
  refine en_u_ex (d := d + 3) rfl ?_
  show en_ex _ _ _ _ (0, [(0, gx_r 383)], [], t0, n, 0) _
  refine ex_go (S := (1, [(0, gx_r 383)], [gx_r 383], t0, n, 0)) rfl (fun _ => rfl) rfl ?_
  refine gx_get rfl s0.1 rfl s0.2.2.1 rfl ?_
  by_cases hc1 : f ≠ 0
  · refine gx_1t (c := .ne) rfl (by first | decide | omega) hc1 rfl ?_
    refine ex_go (S := (20, [(0, gx_r 383)], [gx_r 383], t0, n, 0)) rfl (fun _ => rfl) rfl ?_
    refine gx_get rfl s0.1 rfl s0.2.2.1 rfl ?_
    refine gx_1f (c := .le) rfl (by first | decide | omega) (show ¬ (f ≤ 0) from by omega) rfl ?_
    refine ex_go (S := (27, [(0, gx_r 383)], [.inl 4294967295], t0, n, 0)) rfl (fun _ => rfl) rfl ?_
    refine ex_go (S := (35, [(0, gx_r 383)], [.inl 4294967295], t0, n, 0)) rfl (fun _ => rfl) rfl ?_
    refine ex_go (S := (36, [(1, .inl 4294967295), (0, gx_r 383)], [], t0, n, 0)) rfl (fun _ => rfl) rfl ?_
    refine ex_go (S := (37, [(1, .inl 4294967295), (0, gx_r 383)], [.inl 4294967295], t0, n, 0)) rfl (fun _ => rfl) rfl ?_
    refine ex_go (S := (38, [(2, .inl 4294967295), (1, .inl 4294967295), (0, gx_r 383)], [], t0, n, 0)) rfl (fun _ => rfl) rfl ?_
    refine ex_go (S := (39, [(2, .inl 4294967295), (1, .inl 4294967295), (0, gx_r 383)], [.inl 0], t0, n, 0)) rfl (fun _ => rfl) rfl ?_
    refine ex_go (S := (40, [(3, .inl 0), (2, .inl 4294967295), (1, .inl 4294967295), (0, gx_r 383)], [], t0, n, 0)) rfl (fun _ => rfl) rfl ?_
    refine ex_go (S := (41, [(3, .inl 0), (2, .inl 4294967295), (1, .inl 4294967295), (0, gx_r 383)], [.inl 0], t0, n, 0)) rfl (fun _ => rfl) rfl ?_
    refine ex_go (S := (42, [(3, .inl 0), (2, .inl 4294967295), (1, .inl 4294967295), (0, gx_r 383)], [gx_r 383, .inl 0], t0, n, 0)) rfl (fun _ => rfl) rfl ?_
    refine gx_ref (c := 389) rfl s0.1 rfl rfl rfl rfl ?_
    refine ex_go (S := (46, [(3, .inl 0), (2, .inl 4294967295), (1, .inl 4294967295), (0, gx_r 383)], [.inl 4, gx_r 389, .inl 0], t0, n, 0)) rfl (fun _ => rfl) rfl ?_
    refine gx_ag (v := .inl (υ 4 0)) (cb := fun c => Nat.beq c 0) rfl (fun _ => rfl) s0.1 rfl rfl hN.2.2.1 (by first | decide | omega) rfl ?_
    by_cases hc2 : υ 4 0 ≤ 0
    · refine gx_2t (c := .ge) rfl (by first | decide | omega) (by first | decide | omega) hc2 rfl ?_
      refine ex_go (S := (82, [(3, .inl 0), (2, .inl 4294967295), (1, .inl 4294967295), (0, gx_r 383)], [gx_r 383], t0, n, 0)) rfl (fun _ => rfl) rfl ?_
      refine gx_get rfl s0.1 rfl s0.2.2.1 rfl ?_
      refine gx_1t (c := .ne) rfl (by first | decide | omega) (show f ≠ 0 from by omega) rfl ?_
      refine ex_go (S := (98, [(3, .inl 0), (2, .inl 4294967295), (1, .inl 4294967295), (0, gx_r 383)], [gx_r 383], t0, n, 0)) rfl (fun _ => rfl) rfl ?_
      refine ex_go (S := (99, [(3, .inl 0), (2, .inl 4294967295), (1, .inl 4294967295), (0, gx_r 383)], [gx_r 383, gx_r 383], t0, n, 0)) rfl (fun _ => rfl) rfl ?_
      refine gx_get rfl s0.1 rfl s0.2.1 rfl ?_
      refine ex_go (S := (103, [(3, .inl 0), (2, .inl 4294967295), (1, .inl 4294967295), (0, gx_r 383)], [gx_r 383, .inl a, gx_r 383], t0, n, 0)) rfl (fun _ => rfl) rfl ?_
      refine gx_get rfl s0.1 rfl s0.2.2.1 rfl ?_
      refine gx_1f (c := .le) rfl (by first | decide | omega) (show ¬ (f ≤ 0) from by omega) rfl ?_
      refine ex_go (S := (110, [(3, .inl 0), (2, .inl 4294967295), (1, .inl 4294967295), (0, gx_r 383)], [.inl 0, .inl a, gx_r 383], t0, n, 0)) rfl (fun _ => rfl) rfl ?_
      refine ex_go (S := (114, [(3, .inl 0), (2, .inl 4294967295), (1, .inl 4294967295), (0, gx_r 383)], [.inl 0, .inl a, gx_r 383], t0, n, 0)) rfl (fun _ => rfl) rfl ?_
      refine ex_iadd rfl (by first | decide | omega) rfl ?_
      refine gx_put rfl s0.1 rfl rfl (ai_in_h (by first | decide | omega) (by first | decide | omega) (by first | decide | omega)) rfl (fun t103 g103 k103 e103 => ?_)
      have k4 : ai_hv t103 389 4 = some (.inl (υ 4 0)) := (e103 389 4 (by first | decide | omega)).trans hN.2.2.1
      have s103 : px_S t103 (a + 0) f := ⟨g103, k103, (e103 383 8 (by first | decide | omega)).trans s0.2.2.1, by omega, s0.2.2.2.2⟩
      refine ex_go (S := (119, [(3, .inl 0), (2, .inl 4294967295), (1, .inl 4294967295), (0, gx_r 383)], [.inl 4294967295], t103, n, 0)) rfl (fun _ => rfl) rfl ?_
      refine ex_ret (r := (some (.inl 4294967295), t103, n, 0)) rfl (fun _ => rfl) ?_
      exact ⟨_, rfl, 4294967295, t103, a + 0, f, rfl, s103, (fun c i h => e103 c i (by first | decide | omega)), ((Prod.ext (by show a + 0 = a; omega) (by show f = f; omega) : ((a + 0, f) : Nat × Nat) = (a, f)).trans (fk_no (show f ≠ 0 by omega)).symm), by omega, fun h9 => by omega⟩
    · refine gx_2f (c := .ge) rfl (by first | decide | omega) (by first | decide | omega) hc2 rfl ?_
      refine ex_go (S := (51, [(3, .inl 0), (2, .inl 4294967295), (1, .inl 4294967295), (0, gx_r 383)], [.inl 4294967295], t0, n, 0)) rfl (fun _ => rfl) rfl ?_
      refine ex_go (S := (81, [(3, .inl 0), (2, .inl 4294967295), (1, .inl 4294967295), (0, gx_r 383)], [], t0, n, 0)) rfl (fun _ => rfl) rfl ?_
      refine ex_go (S := (82, [(3, .inl 0), (2, .inl 4294967295), (1, .inl 4294967295), (0, gx_r 383)], [gx_r 383], t0, n, 0)) rfl (fun _ => rfl) rfl ?_
      refine gx_get rfl s0.1 rfl s0.2.2.1 rfl ?_
      refine gx_1t (c := .ne) rfl (by first | decide | omega) (show f ≠ 0 from by omega) rfl ?_
      refine ex_go (S := (98, [(3, .inl 0), (2, .inl 4294967295), (1, .inl 4294967295), (0, gx_r 383)], [gx_r 383], t0, n, 0)) rfl (fun _ => rfl) rfl ?_
      refine ex_go (S := (99, [(3, .inl 0), (2, .inl 4294967295), (1, .inl 4294967295), (0, gx_r 383)], [gx_r 383, gx_r 383], t0, n, 0)) rfl (fun _ => rfl) rfl ?_
      refine gx_get rfl s0.1 rfl s0.2.1 rfl ?_
      refine ex_go (S := (103, [(3, .inl 0), (2, .inl 4294967295), (1, .inl 4294967295), (0, gx_r 383)], [gx_r 383, .inl a, gx_r 383], t0, n, 0)) rfl (fun _ => rfl) rfl ?_
      refine gx_get rfl s0.1 rfl s0.2.2.1 rfl ?_
      refine gx_1f (c := .le) rfl (by first | decide | omega) (show ¬ (f ≤ 0) from by omega) rfl ?_
      refine ex_go (S := (110, [(3, .inl 0), (2, .inl 4294967295), (1, .inl 4294967295), (0, gx_r 383)], [.inl 0, .inl a, gx_r 383], t0, n, 0)) rfl (fun _ => rfl) rfl ?_
      refine ex_go (S := (114, [(3, .inl 0), (2, .inl 4294967295), (1, .inl 4294967295), (0, gx_r 383)], [.inl 0, .inl a, gx_r 383], t0, n, 0)) rfl (fun _ => rfl) rfl ?_
      refine ex_iadd rfl (by first | decide | omega) rfl ?_
      refine gx_put rfl s0.1 rfl rfl (ai_in_h (by first | decide | omega) (by first | decide | omega) (by first | decide | omega)) rfl (fun t105 g105 k105 e105 => ?_)
      have k6 : ai_hv t105 389 4 = some (.inl (υ 4 0)) := (e105 389 4 (by first | decide | omega)).trans hN.2.2.1
      have s105 : px_S t105 (a + 0) f := ⟨g105, k105, (e105 383 8 (by first | decide | omega)).trans s0.2.2.1, by omega, s0.2.2.2.2⟩
      refine ex_go (S := (119, [(3, .inl 0), (2, .inl 4294967295), (1, .inl 4294967295), (0, gx_r 383)], [.inl 4294967295], t105, n, 0)) rfl (fun _ => rfl) rfl ?_
      refine ex_ret (r := (some (.inl 4294967295), t105, n, 0)) rfl (fun _ => rfl) ?_
      exact ⟨_, rfl, 4294967295, t105, a + 0, f, rfl, s105, (fun c i h => e105 c i (by first | decide | omega)), ((Prod.ext (by show a + 0 = a; omega) (by show f = f; omega) : ((a + 0, f) : Nat × Nat) = (a, f)).trans (fk_no (show f ≠ 0 by omega)).symm), by omega, fun h9 => by omega⟩
  · refine gx_1f (c := .ne) rfl (by first | decide | omega) hc1 rfl ?_
    refine ex_go (S := (8, [(0, gx_r 383)], [gx_r 383], t0, n, 0)) rfl (fun _ => rfl) rfl ?_
    obtain ⟨_, r9, b7, rfl, q8⟩ := pe_isName (d) n (s0) hT (by first | decide | omega) 
    refine gx_call1 rfl rfl s0.1 rfl rfl r9 rfl ?_
    by_cases hc10 : b7 ≠ 0
    · refine gx_1t (c := .ne) rfl (by first | decide | omega) hc10 rfl ?_
      refine ex_go (S := (20, [(0, gx_r 383)], [gx_r 383], t0, n, 0)) rfl (fun _ => rfl) rfl ?_
      refine gx_get rfl s0.1 rfl s0.2.2.1 rfl ?_
      refine gx_1t (c := .le) rfl (by first | decide | omega) (show f ≤ 0 from by omega) rfl ?_
      refine ex_go (S := (31, [(0, gx_r 383)], [gx_r 383], t0, n, 0)) rfl (fun _ => rfl) rfl ?_
      refine ex_go (S := (32, [(0, gx_r 383)], [.inl 0, gx_r 383], t0, n, 0)) rfl (fun _ => rfl) rfl ?_
      have hnm := (q8.2.mp (by first | decide | omega)).2
      have hlt9 := sp_kt_lt (S := S) (m := m) (N := N) (a := a) (by have := hnm.1; omega)
      have hf0 : f = 0 := (q8.2.mp (by first | decide | omega)).1
      obtain ⟨_, r13, b11, rfl, q12⟩ := pe_find0 (d + 2) n (s0) hT hnm.1 hN h3.2.1
      rcases q12 with ⟨hta, htb⟩ | ⟨hta, htb⟩
      · have htc := (h3.2.1.2 _ hta).2.1
        rw [← htb] at htc
        refine gx_call1 rfl rfl s0.1 rfl rfl r13 rfl ?_
        refine ex_go (S := (36, [(1, .inl b11), (0, gx_r 383)], [], t0, n, 0)) rfl (fun _ => rfl) rfl ?_
        refine ex_go (S := (37, [(1, .inl b11), (0, gx_r 383)], [.inl 4294967295], t0, n, 0)) rfl (fun _ => rfl) rfl ?_
        refine ex_go (S := (38, [(2, .inl 4294967295), (1, .inl b11), (0, gx_r 383)], [], t0, n, 0)) rfl (fun _ => rfl) rfl ?_
        refine ex_go (S := (39, [(2, .inl 4294967295), (1, .inl b11), (0, gx_r 383)], [.inl 0], t0, n, 0)) rfl (fun _ => rfl) rfl ?_
        refine ex_go (S := (40, [(3, .inl 0), (2, .inl 4294967295), (1, .inl b11), (0, gx_r 383)], [], t0, n, 0)) rfl (fun _ => rfl) rfl ?_
        refine pe_tc_l (d + 3) n s0 hN h4 (by first | decide | omega) (fun k114 c114 i114 => ?_) (υ 4 0) 0 _ (by first | decide | omega) (Or.inr ⟨rfl, fun i hi => by omega⟩)
        rcases i114 with ⟨hia, hib⟩ | ⟨hia, hib⟩
        · have := hia
          refine ex_go (S := (82, [(3, .inl k114), (2, .inl c114), (1, .inl b11), (0, gx_r 383)], [gx_r 383], t0, n, 0)) rfl (fun _ => rfl) rfl ?_
          refine gx_get rfl s0.1 rfl s0.2.2.1 rfl ?_
          refine gx_1f (c := .ne) rfl (by first | decide | omega) (show ¬ (f ≠ 0) from by omega) rfl ?_
          refine ex_go (S := (89, [(3, .inl k114), (2, .inl c114), (1, .inl b11), (0, gx_r 383)], [.inl c114], t0, n, 0)) rfl (fun _ => rfl) rfl ?_
          by_cases hc15 : 0 ≤ c114
          · refine gx_1t (c := .ge) rfl (by first | decide | omega) hc15 rfl ?_
            refine ex_go (S := (98, [(3, .inl k114), (2, .inl c114), (1, .inl b11), (0, gx_r 383)], [gx_r 383], t0, n, 0)) rfl (fun _ => rfl) rfl ?_
            refine ex_go (S := (99, [(3, .inl k114), (2, .inl c114), (1, .inl b11), (0, gx_r 383)], [gx_r 383, gx_r 383], t0, n, 0)) rfl (fun _ => rfl) rfl ?_
            refine gx_get rfl s0.1 rfl s0.2.1 rfl ?_
            refine ex_go (S := (103, [(3, .inl k114), (2, .inl c114), (1, .inl b11), (0, gx_r 383)], [gx_r 383, .inl a, gx_r 383], t0, n, 0)) rfl (fun _ => rfl) rfl ?_
            refine gx_get rfl s0.1 rfl s0.2.2.1 rfl ?_
            refine gx_1t (c := .le) rfl (by first | decide | omega) (show f ≤ 0 from by omega) rfl ?_
            refine ex_go (S := (114, [(3, .inl k114), (2, .inl c114), (1, .inl b11), (0, gx_r 383)], [.inl 1, .inl a, gx_r 383], t0, n, 0)) rfl (fun _ => rfl) rfl ?_
            refine ex_iadd rfl (by first | decide | omega) rfl ?_
            refine gx_put rfl s0.1 rfl rfl (ai_in_h (by first | decide | omega) (by first | decide | omega) (by first | decide | omega)) rfl (fun t116 g116 k116 e116 => ?_)
            have k17 : ai_hv t116 389 4 = some (.inl (υ 4 0)) := (e116 389 4 (by first | decide | omega)).trans hN.2.2.1
            have s116 : px_S t116 (a + 1) f := ⟨g116, k116, (e116 383 8 (by first | decide | omega)).trans s0.2.2.1, by omega, s0.2.2.2.2⟩
            refine ex_go (S := (119, [(3, .inl k114), (2, .inl c114), (1, .inl b11), (0, gx_r 383)], [.inl c114], t116, n, 0)) rfl (fun _ => rfl) rfl ?_
            refine ex_ret (r := (some (.inl c114), t116, n, 0)) rfl (fun _ => rfl) ?_
            have hcr : tcr S0 m0 υ S m a := (tcr_iff h3 hc).mpr ⟨hta, c114, hia, by rw [← htb]; exact hib⟩
            exact ⟨_, rfl, c114, t116, a + 1, f, rfl, s116, (fun c i h => e116 c i (by first | decide | omega)), ((Prod.ext (by show a + 1 = a + 1; omega) (by show f = 0; omega) : ((a + 1, f) : Nat × Nat) = (a + 1, 0)).trans ((fk_yes hnm hcr).symm.trans (by rw [hf0]))), by omega, fun _ => crw_of h3 hc hta hia (by rw [← htb]; exact hib)⟩
          · refine gx_1f (c := .ge) rfl (by first | decide | omega) hc15 rfl ?_
            refine ex_go (S := (93, [(3, .inl k114), (2, .inl c114), (1, .inl b11), (0, gx_r 383)], [gx_r 383], t0, n, 0)) rfl (fun _ => rfl) rfl ?_
            refine ex_go (S := (94, [(3, .inl k114), (2, .inl c114), (1, .inl b11), (0, gx_r 383)], [.inl 2, gx_r 383], t0, n, 0)) rfl (fun _ => rfl) rfl ?_
            obtain ⟨_, r118, t118, a118, f118, rfl, s118, e118, q118⟩ := pe_wrong (d + 2) n (s0) hT (by first | decide | omega) (w := 2) (by first | decide | omega)
            have b118 := s118.2.2.2
            have hT118 := rT_keep hT (fun c i h => e118 c i (by first | decide | omega))
            refine gx_call0 rfl rfl s0.1 rfl rfl r118 rfl ?_
            have k19 : ai_hv t118 389 4 = some (.inl (υ 4 0)) := (e118 389 4 (by first | decide | omega)).trans hN.2.2.1
            refine ex_go (S := (98, [(3, .inl k114), (2, .inl c114), (1, .inl b11), (0, gx_r 383)], [gx_r 383], t118, n, 0)) rfl (fun _ => rfl) rfl ?_
            refine ex_go (S := (99, [(3, .inl k114), (2, .inl c114), (1, .inl b11), (0, gx_r 383)], [gx_r 383, gx_r 383], t118, n, 0)) rfl (fun _ => rfl) rfl ?_
            refine gx_get rfl s118.1 rfl s118.2.1 rfl ?_
            refine ex_go (S := (103, [(3, .inl k114), (2, .inl c114), (1, .inl b11), (0, gx_r 383)], [gx_r 383, .inl a118, gx_r 383], t118, n, 0)) rfl (fun _ => rfl) rfl ?_
            refine gx_get rfl s118.1 rfl s118.2.2.1 rfl ?_
            refine gx_1f (c := .le) rfl (by first | decide | omega) (show ¬ (f118 ≤ 0) from by omega) rfl ?_
            refine ex_go (S := (110, [(3, .inl k114), (2, .inl c114), (1, .inl b11), (0, gx_r 383)], [.inl 0, .inl a118, gx_r 383], t118, n, 0)) rfl (fun _ => rfl) rfl ?_
            refine ex_go (S := (114, [(3, .inl k114), (2, .inl c114), (1, .inl b11), (0, gx_r 383)], [.inl 0, .inl a118, gx_r 383], t118, n, 0)) rfl (fun _ => rfl) rfl ?_
            refine ex_iadd rfl (by first | decide | omega) rfl ?_
            refine gx_put rfl s118.1 rfl rfl (ai_in_h (by first | decide | omega) (by first | decide | omega) (by first | decide | omega)) rfl (fun t120 g120 k120 e120 => ?_)
            have k21 : ai_hv t120 389 4 = some (.inl (υ 4 0)) := (e120 389 4 (by first | decide | omega)).trans k19
            have s120 : px_S t120 (a118 + 0) f118 := ⟨g120, k120, (e120 383 8 (by first | decide | omega)).trans s118.2.2.1, by omega, s118.2.2.2.2⟩
            refine ex_go (S := (119, [(3, .inl k114), (2, .inl c114), (1, .inl b11), (0, gx_r 383)], [.inl c114], t120, n, 0)) rfl (fun _ => rfl) rfl ?_
            refine ex_ret (r := (some (.inl c114), t120, n, 0)) rfl (fun _ => rfl) ?_
            have hcr : tcr S0 m0 υ S m a := (tcr_iff h3 hc).mpr ⟨hta, c114, hia, by rw [← htb]; exact hib⟩
            exact ⟨_, rfl, c114, t120, a118 + 0, f118, rfl, s120, (fun c i h => (e120 c i (by first | decide | omega)).trans (e118 c i (by first | decide | omega))), ((Prod.ext (by show a118 + 0 = a + 1; omega) (by show f118 = 0; omega) : ((a118 + 0, f118) : Nat × Nat) = (a + 1, 0)).trans ((fk_yes hnm hcr).symm.trans (by rw [hf0]))), by omega, fun _ => crw_of h3 hc hta hia (by rw [← htb]; exact hib)⟩
        · subst hia
          refine ex_go (S := (82, [(3, .inl k114), (2, .inl 4294967295), (1, .inl b11), (0, gx_r 383)], [gx_r 383], t0, n, 0)) rfl (fun _ => rfl) rfl ?_
          refine gx_get rfl s0.1 rfl s0.2.2.1 rfl ?_
          refine gx_1f (c := .ne) rfl (by first | decide | omega) (show ¬ (f ≠ 0) from by omega) rfl ?_
          refine ex_go (S := (89, [(3, .inl k114), (2, .inl 4294967295), (1, .inl b11), (0, gx_r 383)], [.inl 4294967295], t0, n, 0)) rfl (fun _ => rfl) rfl ?_
          refine ex_go (S := (92, [(3, .inl k114), (2, .inl 4294967295), (1, .inl b11), (0, gx_r 383)], [], t0, n, 0)) rfl (fun _ => rfl) rfl ?_
          refine ex_go (S := (93, [(3, .inl k114), (2, .inl 4294967295), (1, .inl b11), (0, gx_r 383)], [gx_r 383], t0, n, 0)) rfl (fun _ => rfl) rfl ?_
          refine ex_go (S := (94, [(3, .inl k114), (2, .inl 4294967295), (1, .inl b11), (0, gx_r 383)], [.inl 2, gx_r 383], t0, n, 0)) rfl (fun _ => rfl) rfl ?_
          obtain ⟨_, r122, t122, a122, f122, rfl, s122, e122, q122⟩ := pe_wrong (d + 2) n (s0) hT (by first | decide | omega) (w := 2) (by first | decide | omega)
          have b122 := s122.2.2.2
          have hT122 := rT_keep hT (fun c i h => e122 c i (by first | decide | omega))
          refine gx_call0 rfl rfl s0.1 rfl rfl r122 rfl ?_
          have k23 : ai_hv t122 389 4 = some (.inl (υ 4 0)) := (e122 389 4 (by first | decide | omega)).trans hN.2.2.1
          refine ex_go (S := (98, [(3, .inl k114), (2, .inl 4294967295), (1, .inl b11), (0, gx_r 383)], [gx_r 383], t122, n, 0)) rfl (fun _ => rfl) rfl ?_
          refine ex_go (S := (99, [(3, .inl k114), (2, .inl 4294967295), (1, .inl b11), (0, gx_r 383)], [gx_r 383, gx_r 383], t122, n, 0)) rfl (fun _ => rfl) rfl ?_
          refine gx_get rfl s122.1 rfl s122.2.1 rfl ?_
          refine ex_go (S := (103, [(3, .inl k114), (2, .inl 4294967295), (1, .inl b11), (0, gx_r 383)], [gx_r 383, .inl a122, gx_r 383], t122, n, 0)) rfl (fun _ => rfl) rfl ?_
          refine gx_get rfl s122.1 rfl s122.2.2.1 rfl ?_
          refine gx_1f (c := .le) rfl (by first | decide | omega) (show ¬ (f122 ≤ 0) from by omega) rfl ?_
          refine ex_go (S := (110, [(3, .inl k114), (2, .inl 4294967295), (1, .inl b11), (0, gx_r 383)], [.inl 0, .inl a122, gx_r 383], t122, n, 0)) rfl (fun _ => rfl) rfl ?_
          refine ex_go (S := (114, [(3, .inl k114), (2, .inl 4294967295), (1, .inl b11), (0, gx_r 383)], [.inl 0, .inl a122, gx_r 383], t122, n, 0)) rfl (fun _ => rfl) rfl ?_
          refine ex_iadd rfl (by first | decide | omega) rfl ?_
          refine gx_put rfl s122.1 rfl rfl (ai_in_h (by first | decide | omega) (by first | decide | omega) (by first | decide | omega)) rfl (fun t124 g124 k124 e124 => ?_)
          have k25 : ai_hv t124 389 4 = some (.inl (υ 4 0)) := (e124 389 4 (by first | decide | omega)).trans k23
          have s124 : px_S t124 (a122 + 0) f122 := ⟨g124, k124, (e124 383 8 (by first | decide | omega)).trans s122.2.2.1, by omega, s122.2.2.2.2⟩
          refine ex_go (S := (119, [(3, .inl k114), (2, .inl 4294967295), (1, .inl b11), (0, gx_r 383)], [.inl 4294967295], t124, n, 0)) rfl (fun _ => rfl) rfl ?_
          refine ex_ret (r := (some (.inl 4294967295), t124, n, 0)) rfl (fun _ => rfl) ?_
          have hcr : ¬ tcr S0 m0 υ S m a := fun z => by
            obtain ⟨z1, i, z2, z3⟩ := (tcr_iff h3 hc).mp z
            exact hib i z2 (by rw [htb]; exact z3)
          exact ⟨_, rfl, 4294967295, t124, a122 + 0, f122, rfl, s124, (fun c i h => (e124 c i (by first | decide | omega)).trans (e122 c i (by first | decide | omega))), (by rw [hf0, fk_2 hnm hcr]; exact Prod.ext (by show a122 + 0 = a; omega) (by show f122 = 2 + 16 * sp_st S m a; omega)), by omega, fun h9 => by omega⟩
      · subst htb
        refine gx_call1 rfl rfl s0.1 rfl rfl r13 rfl ?_
        refine ex_go (S := (36, [(1, .inl 4294967295), (0, gx_r 383)], [], t0, n, 0)) rfl (fun _ => rfl) rfl ?_
        refine ex_go (S := (37, [(1, .inl 4294967295), (0, gx_r 383)], [.inl 4294967295], t0, n, 0)) rfl (fun _ => rfl) rfl ?_
        refine ex_go (S := (38, [(2, .inl 4294967295), (1, .inl 4294967295), (0, gx_r 383)], [], t0, n, 0)) rfl (fun _ => rfl) rfl ?_
        refine ex_go (S := (39, [(2, .inl 4294967295), (1, .inl 4294967295), (0, gx_r 383)], [.inl 0], t0, n, 0)) rfl (fun _ => rfl) rfl ?_
        refine ex_go (S := (40, [(3, .inl 0), (2, .inl 4294967295), (1, .inl 4294967295), (0, gx_r 383)], [], t0, n, 0)) rfl (fun _ => rfl) rfl ?_
        refine ex_go (S := (41, [(3, .inl 0), (2, .inl 4294967295), (1, .inl 4294967295), (0, gx_r 383)], [.inl 0], t0, n, 0)) rfl (fun _ => rfl) rfl ?_
        refine ex_go (S := (42, [(3, .inl 0), (2, .inl 4294967295), (1, .inl 4294967295), (0, gx_r 383)], [gx_r 383, .inl 0], t0, n, 0)) rfl (fun _ => rfl) rfl ?_
        refine gx_ref (c := 389) rfl s0.1 rfl rfl rfl rfl ?_
        refine ex_go (S := (46, [(3, .inl 0), (2, .inl 4294967295), (1, .inl 4294967295), (0, gx_r 383)], [.inl 4, gx_r 389, .inl 0], t0, n, 0)) rfl (fun _ => rfl) rfl ?_
        refine gx_ag (v := .inl (υ 4 0)) (cb := fun c => Nat.beq c 0) rfl (fun _ => rfl) s0.1 rfl rfl hN.2.2.1 (by first | decide | omega) rfl ?_
        by_cases hc26 : υ 4 0 ≤ 0
        · refine gx_2t (c := .ge) rfl (by first | decide | omega) (by first | decide | omega) hc26 rfl ?_
          refine ex_go (S := (82, [(3, .inl 0), (2, .inl 4294967295), (1, .inl 4294967295), (0, gx_r 383)], [gx_r 383], t0, n, 0)) rfl (fun _ => rfl) rfl ?_
          refine gx_get rfl s0.1 rfl s0.2.2.1 rfl ?_
          refine gx_1f (c := .ne) rfl (by first | decide | omega) (show ¬ (f ≠ 0) from by omega) rfl ?_
          refine ex_go (S := (89, [(3, .inl 0), (2, .inl 4294967295), (1, .inl 4294967295), (0, gx_r 383)], [.inl 4294967295], t0, n, 0)) rfl (fun _ => rfl) rfl ?_
          refine ex_go (S := (92, [(3, .inl 0), (2, .inl 4294967295), (1, .inl 4294967295), (0, gx_r 383)], [], t0, n, 0)) rfl (fun _ => rfl) rfl ?_
          refine ex_go (S := (93, [(3, .inl 0), (2, .inl 4294967295), (1, .inl 4294967295), (0, gx_r 383)], [gx_r 383], t0, n, 0)) rfl (fun _ => rfl) rfl ?_
          refine ex_go (S := (94, [(3, .inl 0), (2, .inl 4294967295), (1, .inl 4294967295), (0, gx_r 383)], [.inl 2, gx_r 383], t0, n, 0)) rfl (fun _ => rfl) rfl ?_
          obtain ⟨_, r127, t127, a127, f127, rfl, s127, e127, q127⟩ := pe_wrong (d + 2) n (s0) hT (by first | decide | omega) (w := 2) (by first | decide | omega)
          have b127 := s127.2.2.2
          have hT127 := rT_keep hT (fun c i h => e127 c i (by first | decide | omega))
          refine gx_call0 rfl rfl s0.1 rfl rfl r127 rfl ?_
          have k28 : ai_hv t127 389 4 = some (.inl (υ 4 0)) := (e127 389 4 (by first | decide | omega)).trans hN.2.2.1
          refine ex_go (S := (98, [(3, .inl 0), (2, .inl 4294967295), (1, .inl 4294967295), (0, gx_r 383)], [gx_r 383], t127, n, 0)) rfl (fun _ => rfl) rfl ?_
          refine ex_go (S := (99, [(3, .inl 0), (2, .inl 4294967295), (1, .inl 4294967295), (0, gx_r 383)], [gx_r 383, gx_r 383], t127, n, 0)) rfl (fun _ => rfl) rfl ?_
          refine gx_get rfl s127.1 rfl s127.2.1 rfl ?_
          refine ex_go (S := (103, [(3, .inl 0), (2, .inl 4294967295), (1, .inl 4294967295), (0, gx_r 383)], [gx_r 383, .inl a127, gx_r 383], t127, n, 0)) rfl (fun _ => rfl) rfl ?_
          refine gx_get rfl s127.1 rfl s127.2.2.1 rfl ?_
          refine gx_1f (c := .le) rfl (by first | decide | omega) (show ¬ (f127 ≤ 0) from by omega) rfl ?_
          refine ex_go (S := (110, [(3, .inl 0), (2, .inl 4294967295), (1, .inl 4294967295), (0, gx_r 383)], [.inl 0, .inl a127, gx_r 383], t127, n, 0)) rfl (fun _ => rfl) rfl ?_
          refine ex_go (S := (114, [(3, .inl 0), (2, .inl 4294967295), (1, .inl 4294967295), (0, gx_r 383)], [.inl 0, .inl a127, gx_r 383], t127, n, 0)) rfl (fun _ => rfl) rfl ?_
          refine ex_iadd rfl (by first | decide | omega) rfl ?_
          refine gx_put rfl s127.1 rfl rfl (ai_in_h (by first | decide | omega) (by first | decide | omega) (by first | decide | omega)) rfl (fun t129 g129 k129 e129 => ?_)
          have k30 : ai_hv t129 389 4 = some (.inl (υ 4 0)) := (e129 389 4 (by first | decide | omega)).trans k28
          have s129 : px_S t129 (a127 + 0) f127 := ⟨g129, k129, (e129 383 8 (by first | decide | omega)).trans s127.2.2.1, by omega, s127.2.2.2.2⟩
          refine ex_go (S := (119, [(3, .inl 0), (2, .inl 4294967295), (1, .inl 4294967295), (0, gx_r 383)], [.inl 4294967295], t129, n, 0)) rfl (fun _ => rfl) rfl ?_
          refine ex_ret (r := (some (.inl 4294967295), t129, n, 0)) rfl (fun _ => rfl) ?_
          have hcr : ¬ tcr S0 m0 υ S m a := fun z => by
            have z1 := ((tcr_iff h3 hc).mp z).1
            omega
          exact ⟨_, rfl, 4294967295, t129, a127 + 0, f127, rfl, s129, (fun c i h => (e129 c i (by first | decide | omega)).trans (e127 c i (by first | decide | omega))), (by rw [hf0, fk_2 hnm hcr]; exact Prod.ext (by show a127 + 0 = a; omega) (by show f127 = 2 + 16 * sp_st S m a; omega)), by omega, fun h9 => by omega⟩
        · refine gx_2f (c := .ge) rfl (by first | decide | omega) (by first | decide | omega) hc26 rfl ?_
          refine ex_go (S := (51, [(3, .inl 0), (2, .inl 4294967295), (1, .inl 4294967295), (0, gx_r 383)], [.inl 4294967295], t0, n, 0)) rfl (fun _ => rfl) rfl ?_
          refine ex_go (S := (81, [(3, .inl 0), (2, .inl 4294967295), (1, .inl 4294967295), (0, gx_r 383)], [], t0, n, 0)) rfl (fun _ => rfl) rfl ?_
          refine ex_go (S := (82, [(3, .inl 0), (2, .inl 4294967295), (1, .inl 4294967295), (0, gx_r 383)], [gx_r 383], t0, n, 0)) rfl (fun _ => rfl) rfl ?_
          refine gx_get rfl s0.1 rfl s0.2.2.1 rfl ?_
          refine gx_1f (c := .ne) rfl (by first | decide | omega) (show ¬ (f ≠ 0) from by omega) rfl ?_
          refine ex_go (S := (89, [(3, .inl 0), (2, .inl 4294967295), (1, .inl 4294967295), (0, gx_r 383)], [.inl 4294967295], t0, n, 0)) rfl (fun _ => rfl) rfl ?_
          refine ex_go (S := (92, [(3, .inl 0), (2, .inl 4294967295), (1, .inl 4294967295), (0, gx_r 383)], [], t0, n, 0)) rfl (fun _ => rfl) rfl ?_
          refine ex_go (S := (93, [(3, .inl 0), (2, .inl 4294967295), (1, .inl 4294967295), (0, gx_r 383)], [gx_r 383], t0, n, 0)) rfl (fun _ => rfl) rfl ?_
          refine ex_go (S := (94, [(3, .inl 0), (2, .inl 4294967295), (1, .inl 4294967295), (0, gx_r 383)], [.inl 2, gx_r 383], t0, n, 0)) rfl (fun _ => rfl) rfl ?_
          obtain ⟨_, r131, t131, a131, f131, rfl, s131, e131, q131⟩ := pe_wrong (d + 2) n (s0) hT (by first | decide | omega) (w := 2) (by first | decide | omega)
          have b131 := s131.2.2.2
          have hT131 := rT_keep hT (fun c i h => e131 c i (by first | decide | omega))
          refine gx_call0 rfl rfl s0.1 rfl rfl r131 rfl ?_
          have k32 : ai_hv t131 389 4 = some (.inl (υ 4 0)) := (e131 389 4 (by first | decide | omega)).trans hN.2.2.1
          refine ex_go (S := (98, [(3, .inl 0), (2, .inl 4294967295), (1, .inl 4294967295), (0, gx_r 383)], [gx_r 383], t131, n, 0)) rfl (fun _ => rfl) rfl ?_
          refine ex_go (S := (99, [(3, .inl 0), (2, .inl 4294967295), (1, .inl 4294967295), (0, gx_r 383)], [gx_r 383, gx_r 383], t131, n, 0)) rfl (fun _ => rfl) rfl ?_
          refine gx_get rfl s131.1 rfl s131.2.1 rfl ?_
          refine ex_go (S := (103, [(3, .inl 0), (2, .inl 4294967295), (1, .inl 4294967295), (0, gx_r 383)], [gx_r 383, .inl a131, gx_r 383], t131, n, 0)) rfl (fun _ => rfl) rfl ?_
          refine gx_get rfl s131.1 rfl s131.2.2.1 rfl ?_
          refine gx_1f (c := .le) rfl (by first | decide | omega) (show ¬ (f131 ≤ 0) from by omega) rfl ?_
          refine ex_go (S := (110, [(3, .inl 0), (2, .inl 4294967295), (1, .inl 4294967295), (0, gx_r 383)], [.inl 0, .inl a131, gx_r 383], t131, n, 0)) rfl (fun _ => rfl) rfl ?_
          refine ex_go (S := (114, [(3, .inl 0), (2, .inl 4294967295), (1, .inl 4294967295), (0, gx_r 383)], [.inl 0, .inl a131, gx_r 383], t131, n, 0)) rfl (fun _ => rfl) rfl ?_
          refine ex_iadd rfl (by first | decide | omega) rfl ?_
          refine gx_put rfl s131.1 rfl rfl (ai_in_h (by first | decide | omega) (by first | decide | omega) (by first | decide | omega)) rfl (fun t133 g133 k133 e133 => ?_)
          have k34 : ai_hv t133 389 4 = some (.inl (υ 4 0)) := (e133 389 4 (by first | decide | omega)).trans k32
          have s133 : px_S t133 (a131 + 0) f131 := ⟨g133, k133, (e133 383 8 (by first | decide | omega)).trans s131.2.2.1, by omega, s131.2.2.2.2⟩
          refine ex_go (S := (119, [(3, .inl 0), (2, .inl 4294967295), (1, .inl 4294967295), (0, gx_r 383)], [.inl 4294967295], t133, n, 0)) rfl (fun _ => rfl) rfl ?_
          refine ex_ret (r := (some (.inl 4294967295), t133, n, 0)) rfl (fun _ => rfl) ?_
          have hcr : ¬ tcr S0 m0 υ S m a := fun z => by
            have z1 := ((tcr_iff h3 hc).mp z).1
            omega
          exact ⟨_, rfl, 4294967295, t133, a131 + 0, f131, rfl, s133, (fun c i h => (e133 c i (by first | decide | omega)).trans (e131 c i (by first | decide | omega))), (by rw [hf0, fk_2 hnm hcr]; exact Prod.ext (by show a131 + 0 = a; omega) (by show f131 = 2 + 16 * sp_st S m a; omega)), by omega, fun h9 => by omega⟩
    · refine gx_1f (c := .ne) rfl (by first | decide | omega) hc10 rfl ?_
      refine ex_go (S := (15, [(0, gx_r 383)], [gx_r 383], t0, n, 0)) rfl (fun _ => rfl) rfl ?_
      refine ex_go (S := (16, [(0, gx_r 383)], [.inl 1, gx_r 383], t0, n, 0)) rfl (fun _ => rfl) rfl ?_
      obtain ⟨_, r135, t135, a135, f135, rfl, s135, e135, q135⟩ := pe_wrong (d + 2) n (s0) hT (by first | decide | omega) (w := 1) (by first | decide | omega)
      have b135 := s135.2.2.2
      have hT135 := rT_keep hT (fun c i h => e135 c i (by first | decide | omega))
      refine gx_call0 rfl rfl s0.1 rfl rfl r135 rfl ?_
      have k36 : ai_hv t135 389 4 = some (.inl (υ 4 0)) := (e135 389 4 (by first | decide | omega)).trans hN.2.2.1
      refine ex_go (S := (20, [(0, gx_r 383)], [gx_r 383], t135, n, 0)) rfl (fun _ => rfl) rfl ?_
      refine gx_get rfl s135.1 rfl s135.2.2.1 rfl ?_
      refine gx_1f (c := .le) rfl (by first | decide | omega) (show ¬ (f135 ≤ 0) from by omega) rfl ?_
      refine ex_go (S := (27, [(0, gx_r 383)], [.inl 4294967295], t135, n, 0)) rfl (fun _ => rfl) rfl ?_
      refine ex_go (S := (35, [(0, gx_r 383)], [.inl 4294967295], t135, n, 0)) rfl (fun _ => rfl) rfl ?_
      refine ex_go (S := (36, [(1, .inl 4294967295), (0, gx_r 383)], [], t135, n, 0)) rfl (fun _ => rfl) rfl ?_
      refine ex_go (S := (37, [(1, .inl 4294967295), (0, gx_r 383)], [.inl 4294967295], t135, n, 0)) rfl (fun _ => rfl) rfl ?_
      refine ex_go (S := (38, [(2, .inl 4294967295), (1, .inl 4294967295), (0, gx_r 383)], [], t135, n, 0)) rfl (fun _ => rfl) rfl ?_
      refine ex_go (S := (39, [(2, .inl 4294967295), (1, .inl 4294967295), (0, gx_r 383)], [.inl 0], t135, n, 0)) rfl (fun _ => rfl) rfl ?_
      refine ex_go (S := (40, [(3, .inl 0), (2, .inl 4294967295), (1, .inl 4294967295), (0, gx_r 383)], [], t135, n, 0)) rfl (fun _ => rfl) rfl ?_
      refine ex_go (S := (41, [(3, .inl 0), (2, .inl 4294967295), (1, .inl 4294967295), (0, gx_r 383)], [.inl 0], t135, n, 0)) rfl (fun _ => rfl) rfl ?_
      refine ex_go (S := (42, [(3, .inl 0), (2, .inl 4294967295), (1, .inl 4294967295), (0, gx_r 383)], [gx_r 383, .inl 0], t135, n, 0)) rfl (fun _ => rfl) rfl ?_
      refine gx_ref (c := 389) rfl s135.1 rfl rfl rfl rfl ?_
      refine ex_go (S := (46, [(3, .inl 0), (2, .inl 4294967295), (1, .inl 4294967295), (0, gx_r 383)], [.inl 4, gx_r 389, .inl 0], t135, n, 0)) rfl (fun _ => rfl) rfl ?_
      refine gx_ag (v := .inl (υ 4 0)) (cb := fun c => Nat.beq c 0) rfl (fun _ => rfl) s135.1 rfl rfl k36 (by first | decide | omega) rfl ?_
      by_cases hc37 : υ 4 0 ≤ 0
      · refine gx_2t (c := .ge) rfl (by first | decide | omega) (by first | decide | omega) hc37 rfl ?_
        refine ex_go (S := (82, [(3, .inl 0), (2, .inl 4294967295), (1, .inl 4294967295), (0, gx_r 383)], [gx_r 383], t135, n, 0)) rfl (fun _ => rfl) rfl ?_
        refine gx_get rfl s135.1 rfl s135.2.2.1 rfl ?_
        refine gx_1t (c := .ne) rfl (by first | decide | omega) (show f135 ≠ 0 from by omega) rfl ?_
        refine ex_go (S := (98, [(3, .inl 0), (2, .inl 4294967295), (1, .inl 4294967295), (0, gx_r 383)], [gx_r 383], t135, n, 0)) rfl (fun _ => rfl) rfl ?_
        refine ex_go (S := (99, [(3, .inl 0), (2, .inl 4294967295), (1, .inl 4294967295), (0, gx_r 383)], [gx_r 383, gx_r 383], t135, n, 0)) rfl (fun _ => rfl) rfl ?_
        refine gx_get rfl s135.1 rfl s135.2.1 rfl ?_
        refine ex_go (S := (103, [(3, .inl 0), (2, .inl 4294967295), (1, .inl 4294967295), (0, gx_r 383)], [gx_r 383, .inl a135, gx_r 383], t135, n, 0)) rfl (fun _ => rfl) rfl ?_
        refine gx_get rfl s135.1 rfl s135.2.2.1 rfl ?_
        refine gx_1f (c := .le) rfl (by first | decide | omega) (show ¬ (f135 ≤ 0) from by omega) rfl ?_
        refine ex_go (S := (110, [(3, .inl 0), (2, .inl 4294967295), (1, .inl 4294967295), (0, gx_r 383)], [.inl 0, .inl a135, gx_r 383], t135, n, 0)) rfl (fun _ => rfl) rfl ?_
        refine ex_go (S := (114, [(3, .inl 0), (2, .inl 4294967295), (1, .inl 4294967295), (0, gx_r 383)], [.inl 0, .inl a135, gx_r 383], t135, n, 0)) rfl (fun _ => rfl) rfl ?_
        refine ex_iadd rfl (by first | decide | omega) rfl ?_
        refine gx_put rfl s135.1 rfl rfl (ai_in_h (by first | decide | omega) (by first | decide | omega) (by first | decide | omega)) rfl (fun t138 g138 k138 e138 => ?_)
        have k39 : ai_hv t138 389 4 = some (.inl (υ 4 0)) := (e138 389 4 (by first | decide | omega)).trans k36
        have s138 : px_S t138 (a135 + 0) f135 := ⟨g138, k138, (e138 383 8 (by first | decide | omega)).trans s135.2.2.1, by omega, s135.2.2.2.2⟩
        refine ex_go (S := (119, [(3, .inl 0), (2, .inl 4294967295), (1, .inl 4294967295), (0, gx_r 383)], [.inl 4294967295], t138, n, 0)) rfl (fun _ => rfl) rfl ?_
        refine ex_ret (r := (some (.inl 4294967295), t138, n, 0)) rfl (fun _ => rfl) ?_
        have hnn : ¬ sp_nm S m N a := fun z => absurd (q8.2.mpr ⟨by omega, z⟩) (by first | decide | omega)
        exact ⟨_, rfl, 4294967295, t138, a135 + 0, f135, rfl, s138, (fun c i h => (e138 c i (by first | decide | omega)).trans (e135 c i (by first | decide | omega))), (by rw [show f = 0 by omega, fk_1 hnn]; exact Prod.ext (by show a135 + 0 = a; omega) (by show f135 = 1 + 16 * sp_st S m a; omega)), by omega, fun h9 => by omega⟩
      · refine gx_2f (c := .ge) rfl (by first | decide | omega) (by first | decide | omega) hc37 rfl ?_
        refine ex_go (S := (51, [(3, .inl 0), (2, .inl 4294967295), (1, .inl 4294967295), (0, gx_r 383)], [.inl 4294967295], t135, n, 0)) rfl (fun _ => rfl) rfl ?_
        refine ex_go (S := (81, [(3, .inl 0), (2, .inl 4294967295), (1, .inl 4294967295), (0, gx_r 383)], [], t135, n, 0)) rfl (fun _ => rfl) rfl ?_
        refine ex_go (S := (82, [(3, .inl 0), (2, .inl 4294967295), (1, .inl 4294967295), (0, gx_r 383)], [gx_r 383], t135, n, 0)) rfl (fun _ => rfl) rfl ?_
        refine gx_get rfl s135.1 rfl s135.2.2.1 rfl ?_
        refine gx_1t (c := .ne) rfl (by first | decide | omega) (show f135 ≠ 0 from by omega) rfl ?_
        refine ex_go (S := (98, [(3, .inl 0), (2, .inl 4294967295), (1, .inl 4294967295), (0, gx_r 383)], [gx_r 383], t135, n, 0)) rfl (fun _ => rfl) rfl ?_
        refine ex_go (S := (99, [(3, .inl 0), (2, .inl 4294967295), (1, .inl 4294967295), (0, gx_r 383)], [gx_r 383, gx_r 383], t135, n, 0)) rfl (fun _ => rfl) rfl ?_
        refine gx_get rfl s135.1 rfl s135.2.1 rfl ?_
        refine ex_go (S := (103, [(3, .inl 0), (2, .inl 4294967295), (1, .inl 4294967295), (0, gx_r 383)], [gx_r 383, .inl a135, gx_r 383], t135, n, 0)) rfl (fun _ => rfl) rfl ?_
        refine gx_get rfl s135.1 rfl s135.2.2.1 rfl ?_
        refine gx_1f (c := .le) rfl (by first | decide | omega) (show ¬ (f135 ≤ 0) from by omega) rfl ?_
        refine ex_go (S := (110, [(3, .inl 0), (2, .inl 4294967295), (1, .inl 4294967295), (0, gx_r 383)], [.inl 0, .inl a135, gx_r 383], t135, n, 0)) rfl (fun _ => rfl) rfl ?_
        refine ex_go (S := (114, [(3, .inl 0), (2, .inl 4294967295), (1, .inl 4294967295), (0, gx_r 383)], [.inl 0, .inl a135, gx_r 383], t135, n, 0)) rfl (fun _ => rfl) rfl ?_
        refine ex_iadd rfl (by first | decide | omega) rfl ?_
        refine gx_put rfl s135.1 rfl rfl (ai_in_h (by first | decide | omega) (by first | decide | omega) (by first | decide | omega)) rfl (fun t140 g140 k140 e140 => ?_)
        have k41 : ai_hv t140 389 4 = some (.inl (υ 4 0)) := (e140 389 4 (by first | decide | omega)).trans k36
        have s140 : px_S t140 (a135 + 0) f135 := ⟨g140, k140, (e140 383 8 (by first | decide | omega)).trans s135.2.2.1, by omega, s135.2.2.2.2⟩
        refine ex_go (S := (119, [(3, .inl 0), (2, .inl 4294967295), (1, .inl 4294967295), (0, gx_r 383)], [.inl 4294967295], t140, n, 0)) rfl (fun _ => rfl) rfl ?_
        refine ex_ret (r := (some (.inl 4294967295), t140, n, 0)) rfl (fun _ => rfl) ?_
        have hnn : ¬ sp_nm S m N a := fun z => absurd (q8.2.mpr ⟨by omega, z⟩) (by first | decide | omega)
        exact ⟨_, rfl, 4294967295, t140, a135 + 0, f135, rfl, s140, (fun c i h => (e140 c i (by first | decide | omega)).trans (e135 c i (by first | decide | omega))), (by rw [show f = 0 by omega, fk_1 hnn]; exact Prod.ext (by show a135 + 0 = a; omega) (by show f135 = 1 + 16 * sp_st S m a; omega)), by omega, fun h9 => by omega⟩
end SCR
