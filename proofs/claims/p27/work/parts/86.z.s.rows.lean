section SPT
/-- the names and the key that is looked for: the same reading -/
noncomputable def nq (x y : Nat) : Prop := (lN x).toInt = (lN y).toInt
/-- the numbers that the class's draft holds -/
noncomputable def CB (t : en_H) (p : Nat) (S : Nat → Nat) (m : Nat) (σ : Nat → Nat → Nat) : Prop := (∀ i, i < σ 2 0 → ai_hv t (p + 6) i = some (.inl (sp_nv S m (σ 16 i + 3) + 8 * sp_nv S m (σ 16 i + 4)))) ∧ (∀ i, i < σ 4 0 → ai_hv t (p + 16) i = some (.inr (.inl (sp_wv S m (σ 21 i + 1))))) ∧ (∀ i, i < σ 3 0 → ai_hv t (p + 12) i = some (.inl (sp_nv S m (σ 20 i + 4)))) ∧ (∀ i, i < σ 3 0 → ai_hv t (p + 13) i = some (.inl (sp_nv S m (σ 20 i + 6)))) ∧ (∀ i, i < σ 3 0 → ai_hv t (p + 14) i = some (.inl (sp_nv S m (σ 20 i + 8)))) ∧ (∀ i, i < σ 4 0 → ai_hv t (p + 18) i = some (.inl (sp_nv S m (σ 21 i + 3)))) ∧ (∀ i, i < σ 4 0 → ai_hv t (p + 19) i = some (.inl (sp_nv S m (σ 21 i + 5)))) ∧ (∀ i, i < σ 5 0 → ai_hv t (p + 23) i = some (.inl (sp_nv S m (σ 17 i + 2)))) ∧ (∀ i, i < σ 5 0 → ai_hv t (p + 24) i = some (.inl (sp_nv S m (σ 17 i + 4)))) ∧ (∀ i, i < σ 6 0 → ai_hv t (p + 29) i = some (.inl (sp_nv S m (σ 18 i + 2)))) ∧ (∀ i, i < σ 7 0 → ai_hv t (p + 35) i = some (.inl (sp_nv S m (σ 19 i + 2)))) ∧ (∀ i, i < σ 7 0 → ai_hv t (p + 36) i = some (.inl (sp_nv S m (σ 19 i + 4)))) ∧ ai_hv t p 2 = some (.inl (pcv S m (σ 22 0))) ∧ (∀ j, j < 64 → ai_hv t (p + 1) j = some (.inl (σ 23 j)))
/-- what the class's draft holds: the pack's cell is p -/
noncomputable def CA (t : en_H) (p : Nat) (S : Nat → Nat) (m : Nat) (σ : Nat → Nat → Nat) : Prop := (ai_hv t p 0 = some (.inl (σ 0 0)) ∧ ai_hv t p 1 = some (.inl (σ 1 0)) ∧ ai_hv t (p + 3) 5 = some (.inl (σ 2 0)) ∧ ai_hv t (p + 9) 5 = some (.inl (σ 3 0)) ∧ ai_hv t (p + 15) 5 = some (.inl (σ 4 0)) ∧ ai_hv t (p + 21) 5 = some (.inl (σ 5 0)) ∧ ai_hv t (p + 27) 5 = some (.inl (σ 6 0)) ∧ ai_hv t (p + 33) 5 = some (.inl (σ 7 0)) ∧ ai_hv t 7 4 = some (.inl (σ 8 0)) ∧ ai_hv t 7 5 = some (.inl (σ 9 0)) ∧ ai_hv t 7 6 = some (.inl (σ 9 1)) ∧ ai_hv t 7 7 = some (.inl (σ 9 2))) ∧ (∀ i, i < σ 2 0 → ai_hv t (p + 4) i = some (.inr (.inl (sp_wv S m (σ 16 i)))) ∧ ai_hv t (p + 5) i = some (.inl (σ 10 i))) ∧ (∀ i, i < σ 3 0 → ai_hv t (p + 11) i = some (.inl (σ 11 i))) ∧ (∀ i, i < σ 4 0 → ai_hv t (p + 17) i = some (.inl (σ 12 i))) ∧ (∀ i, i < σ 5 0 → ai_hv t (p + 22) i = some (.inr (.inl (sp_wv S m (σ 17 i))))) ∧ (∀ i, i < σ 6 0 → ai_hv t (p + 28) i = some (.inr (.inl (sp_wv S m (σ 18 i))))) ∧ (∀ i, i < σ 7 0 → ai_hv t (p + 34) i = some (.inr (.inl (sp_wv S m (σ 19 i))))) ∧ CB t p S m σ
/-- the names told, as the class keeps them -/
noncomputable def c_told (S : Nat → Nat) (m : Nat) (σ : Nat → Nat → Nat) (x : Nat) : Prop := (∃ i, i < σ 2 0 ∧ nq (sp_wv S m (σ 16 i)) x) ∨ (∃ i, i < σ 5 0 ∧ nq (sp_wv S m (σ 17 i)) x) ∨ (∃ i, i < σ 6 0 ∧ nq (sp_wv S m (σ 18 i)) x) ∨ ∃ i, i < σ 7 0 ∧ nq (sp_wv S m (σ 19 i)) x
noncomputable def c_fi (S : Nat → Nat) (m : Nat) (g : Nat → Nat) (x c : Nat) : Nat := sp_fi (fun i => nq (sp_wv S m (g i)) x) c 0
theorem c_fi_ex {S : Nat → Nat} {m x c : Nat} {g : Nat → Nat} : (∃ i, i < c ∧ nq (sp_wv S m (g i)) x) ↔ c_fi S m g x c < c := by
  constructor
  · rintro ⟨i, h1, h2⟩
    have := sp_fi_ex (P := fun i => nq (sp_wv S m (g i)) x) (j := c) (k := 0) (i := i) (by first | decide | omega) (by first | decide | omega) h2
    unfold c_fi; omega
  · intro h
    exact ⟨_, h, sp_fi_lt (P := fun i => nq (sp_wv S m (g i)) x) (j := c) (k := 0) (by rw [Nat.zero_add]; exact h)⟩
theorem sp_wv_lt {S : Nat → Nat} {m N a : Nat} (hk : sp_kt S m N a = 1) : sp_wv S m a < 1099511627777 := by
  obtain ⟨h1, h2⟩ := sp_nm_let hk
  exact sp_hv32 h2 h1
theorem nq_iff {S : Nat → Nat} {m N a b : Nat} (ha : sp_kt S m N a = 1) (hb : sp_kt S m N b = 1) : nq (sp_wv S m a) (sp_wv S m b) ↔ sp_wv S m a = sp_wv S m b := by
  have h1 := sp_wv_lt ha
  have h2 := sp_wv_lt hb
  unfold nq
  rw [sp_lN (by first | decide | omega), sp_lN (by first | decide | omega)]
  omega
theorem c_told_iff {S : Nat → Nat} {m N a : Nat} {σ : Nat → Nat → Nat} (h : W3 S m N σ) (ha : sp_kt S m N a = 1) : c_told S m σ (sp_wv S m a) ↔ sg_told S m σ a := by
  obtain ⟨hB, hK, ⟨h1, h2, h3, h4⟩, h5, h6⟩ := h
  constructor
  · rintro (⟨i, z1, z2⟩ | ⟨i, z1, z2⟩ | ⟨i, z1, z2⟩ | ⟨i, z1, z2⟩)
    · obtain ⟨k, w1, w2, w3⟩ := h1 i z1
      rw [← w2] at z2
      exact ⟨k, w1, (nq_iff (hK.2 k w1).1 ha).mp z2⟩
    · obtain ⟨k, w1, w2⟩ := h2 i z1
      rw [← w2] at z2
      exact ⟨k, w1, (nq_iff (hK.2 k w1).1 ha).mp z2⟩
    · obtain ⟨k, w1, w2⟩ := h3 i z1
      rw [← w2] at z2
      exact ⟨k, w1, (nq_iff (hK.2 k w1).1 ha).mp z2⟩
    · obtain ⟨k, w1, w2⟩ := h4 i z1
      rw [← w2] at z2
      exact ⟨k, w1, (nq_iff (hK.2 k w1).1 ha).mp z2⟩
  · rintro ⟨k, w1, w2⟩
    have w3 := (nq_iff (hK.2 k w1).1 ha).mpr w2
    rcases h5 k w1 with ⟨z1, z2⟩ | ⟨z1, ⟨i, z2, z3⟩ | ⟨i, z2, z3⟩ | ⟨i, z2, z3⟩⟩
    · exact Or.inl ⟨_, z1, by rw [z2]; exact w3⟩
    · exact Or.inr (Or.inl ⟨i, z2, by rw [z3]; exact w3⟩)
    · exact Or.inr (Or.inr (Or.inl ⟨i, z2, by rw [z3]; exact w3⟩))
    · exact Or.inr (Or.inr (Or.inr ⟨i, z2, by rw [z3]; exact w3⟩))
/-- the ship that is named: the same on both sides -/
theorem c_ship {S : Nat → Nat} {m N a : Nat} {σ : Nat → Nat → Nat} (h : W3 S m N σ) (ha : sp_kt S m N a = 1) : (c_fi S m (σ 16) (sp_wv S m a) (σ 2 0) < σ 2 0 → sg_k S m σ a < σ 15 0 ∧ σ 14 (sg_k S m σ a) = c_fi S m (σ 16) (sp_wv S m a) (σ 2 0)) ∧ (¬ c_fi S m (σ 16) (sp_wv S m a) (σ 2 0) < σ 2 0 → sg_k S m σ a < σ 15 0 → σ 14 (sg_k S m σ a) = 20) := by
  obtain ⟨hB, hK, ⟨h1, h2, h3, h4⟩, h5, h6⟩ := h
  have hfi : sg_k S m σ a < σ 15 0 → sp_wv S m (σ 13 (sg_k S m σ a)) = sp_wv S m a := fun z => sp_fi_lt (P := fun k => sp_wv S m (σ 13 k) = sp_wv S m a) (j := σ 15 0) (k := 0) (by rw [Nat.zero_add]; exact z)
  constructor
  · intro z
    have z2 : nq (sp_wv S m (σ 16 (c_fi S m (σ 16) (sp_wv S m a) (σ 2 0)))) (sp_wv S m a) := sp_fi_lt (P := fun i => nq (sp_wv S m (σ 16 i)) (sp_wv S m a)) (j := σ 2 0) (k := 0) (by rw [Nat.zero_add]; exact z)
    obtain ⟨k, w1, w2, w3⟩ := h1 _ z
    rw [← w2] at z2
    have z3 := (nq_iff (hK.2 k w1).1 ha).mp z2
    have z4 : sg_k S m σ a ≤ k := sp_fi_ex (P := fun k => sp_wv S m (σ 13 k) = sp_wv S m a) (j := σ 15 0) (k := 0) (i := k) (by first | decide | omega) (by first | decide | omega) z3
    have z5 : sg_k S m σ a < σ 15 0 := by omega
    have z6 := h6 _ _ z5 w1 ((hfi z5).trans z3.symm)
    rw [z6]
    exact ⟨w1, w3⟩
  · intro z z5
    rcases h5 _ z5 with ⟨w1, w2⟩ | ⟨w1, w2⟩
    · exfalso
      refine z (c_fi_ex.mp ⟨_, w1, ?_⟩)
      rw [w2]
      exact (nq_iff (hK.2 _ z5).1 ha).mpr (hfi z5)
    · exact w1
theorem pc_isFull194 (d n : Nat) {c : Nat} {t0 : en_H} (g0 : ai_HG ah_G t0) (k5 : ai_hv t0 194 5 = some (.inl c)) (hc : c ≤ 6) : ∃ r, en_u (d + 1) 272 [gx_r 194] t0 n = some r ∧ ∃ b, r = (some (.inl b), t0, n, 0) ∧ b ≤ 1 ∧ (b = 1 ↔ c = 6) := by
  refine en_u_ex rfl ?_
  show en_ex _ _ _ _ (0, [(0, gx_r 194)], [], t0, n, 0) _
  refine ex_go (S := (1, [(0, gx_r 194)], [gx_r 194], t0, n, 0)) rfl (fun _ => rfl) rfl ?_
  refine gxo_get (a := 194) rfl g0 rfl rfl k5 rfl ?_
  refine ex_go (S := (5, [(0, gx_r 194)], [gx_r 194, .inl c], t0, n, 0)) rfl (fun _ => rfl) rfl ?_
  refine gxo_ref (a := 194) (c := 195) rfl g0 rfl rfl rfl rfl rfl ?_
  refine gx_alen (a := 195) (m := 6) rfl g0 rfl rfl rfl ?_
  by_cases hc1 : c < 6
  · refine gx_2t (c := .lt) rfl (by first | decide | omega) (by first | decide | omega) hc1 rfl ?_
    refine ex_go (S := (17, [(0, gx_r 194)], [.inl 0], t0, n, 0)) rfl (fun _ => rfl) rfl ?_
    refine ex_ret (r := (some (.inl 0), t0, n, 0)) rfl (fun _ => rfl) ?_
    exact ⟨_, rfl, 0, rfl, by omega⟩
  · refine gx_2f (c := .lt) rfl (by first | decide | omega) (by first | decide | omega) hc1 rfl ?_
    refine ex_go (S := (13, [(0, gx_r 194)], [.inl 1], t0, n, 0)) rfl (fun _ => rfl) rfl ?_
    refine ex_go (S := (17, [(0, gx_r 194)], [.inl 1], t0, n, 0)) rfl (fun _ => rfl) rfl ?_
    refine ex_ret (r := (some (.inl 1), t0, n, 0)) rfl (fun _ => rfl) ?_
    exact ⟨_, rfl, 1, rfl, by omega⟩
theorem pc_add194 (d n : Nat) {c x y1 y2 y3 y4 : Nat} {t0 : en_H} (g0 : ai_HG ah_G t0) (k5 : ai_hv t0 194 5 = some (.inl c)) (hc : c < 6) (h1 : 0 ≤ y1 ∧ y1 ≤ 3) (h2 : 0 ≤ y2 ∧ y2 ≤ 63) (h3 : 0 ≤ y3 ∧ y3 ≤ 0) (h4 : 0 ≤ y4 ∧ y4 ≤ 0) : ∃ r, en_u (d + 2) 273 [gx_r 194, .inr (.inl x), .inl y1, .inl y2, .inl y3, .inl y4] t0 n = some r ∧ ∃ t', r = (none, t', n, 0) ∧ ai_HG ah_G t' ∧ (∀ c' i, ¬ ((c' = 194 ∧ i = 5) ∨ ((c' = 195 ∨ c' = 196 ∨ c' = 197 ∨ c' = 198 ∨ c' = 199) ∧ i = c)) → ai_hv t' c' i = ai_hv t0 c' i) ∧ ai_hv t' 194 5 = some (.inl (c + 1)) ∧ ai_hv t' 195 c = some (.inr (.inl x)) ∧ ai_hv t' 196 c = some (.inl y1) ∧ ai_hv t' 197 c = some (.inl y2) ∧ ai_hv t' 198 c = some (.inl y3) ∧ ai_hv t' 199 c = some (.inl y4) := by
  refine en_u_ex (d := d + 1) rfl ?_
  show en_ex _ _ _ _ (0, [(0, gx_r 194), (1, .inr (.inl x)), (3, .inl y1), (4, .inl y2), (5, .inl y3), (6, .inl y4)], [], t0, n, 0) _
  refine ex_go (S := (1, [(0, gx_r 194), (1, .inr (.inl x)), (3, .inl y1), (4, .inl y2), (5, .inl y3), (6, .inl y4)], [gx_r 194], t0, n, 0)) rfl (fun _ => rfl) rfl ?_
  obtain ⟨_, r1, b2, rfl, q3⟩ := pc_isFull194 (d) n g0 k5 (by first | decide | omega)
  refine gx_callo (a := 194) rfl rfl g0 rfl rfl rfl r1 rfl ?_
  show en_ex _ _ _ _ (4, [(0, gx_r 194), (1, .inr (.inl x)), (3, .inl y1), (4, .inl y2), (5, .inl y3), (6, .inl y4)], [.inl b2], t0, n, 0) _
  refine gx_1f (c := .ne) rfl (by first | decide | omega) (show ¬ (b2 ≠ 0) from by omega) rfl ?_
  refine ex_go (S := (8, [(0, gx_r 194), (1, .inr (.inl x)), (3, .inl y1), (4, .inl y2), (5, .inl y3), (6, .inl y4)], [gx_r 194], t0, n, 0)) rfl (fun _ => rfl) rfl ?_
  refine gxo_ref (a := 194) (c := 195) rfl g0 rfl rfl rfl rfl rfl ?_
  refine ex_go (S := (12, [(0, gx_r 194), (1, .inr (.inl x)), (3, .inl y1), (4, .inl y2), (5, .inl y3), (6, .inl y4)], [gx_r 194, gx_r 195], t0, n, 0)) rfl (fun _ => rfl) rfl ?_
  refine gxo_get (a := 194) rfl g0 rfl rfl k5 rfl ?_
  refine ex_go (S := (16, [(0, gx_r 194), (1, .inr (.inl x)), (3, .inl y1), (4, .inl y2), (5, .inl y3), (6, .inl y4)], [.inr (.inl x), .inl c, gx_r 195], t0, n, 0)) rfl (fun _ => rfl) rfl ?_
  refine gx_apv (d := 1) rfl (fun _ => rfl) g0 rfl rfl rfl (show c < 6 from by omega) (gx_run1 (show c < 6 from hc)) ⟨_, rfl⟩ rfl (fun t104 g104 k104 e104 => ?_)
  have k5 : ai_hv t104 194 5 = some (.inl c) := (e104 194 5 (by first | decide | omega)).trans k5
  refine ex_go (S := (18, [(0, gx_r 194), (1, .inr (.inl x)), (3, .inl y1), (4, .inl y2), (5, .inl y3), (6, .inl y4)], [gx_r 194], t104, n, 0)) rfl (fun _ => rfl) rfl ?_
  refine gxo_ref (a := 194) (c := 196) rfl g104 rfl rfl rfl rfl rfl ?_
  refine ex_go (S := (22, [(0, gx_r 194), (1, .inr (.inl x)), (3, .inl y1), (4, .inl y2), (5, .inl y3), (6, .inl y4)], [gx_r 194, gx_r 196], t104, n, 0)) rfl (fun _ => rfl) rfl ?_
  refine gxo_get (a := 194) rfl g104 rfl rfl k5 rfl ?_
  refine ex_go (S := (26, [(0, gx_r 194), (1, .inr (.inl x)), (3, .inl y1), (4, .inl y2), (5, .inl y3), (6, .inl y4)], [.inl y1, .inl c, gx_r 196], t104, n, 0)) rfl (fun _ => rfl) rfl ?_
  refine gx_ap rfl (fun _ => rfl) g104 rfl rfl rfl (show c < 6 from by omega) (gx_run1 (show c < 6 from hc)) (ai_in_h (by first | decide | omega) (by first | decide | omega) (by first | decide | omega)) rfl (fun t106 g106 k106 e106 => ?_)
  have k7 : ai_hv t106 194 5 = some (.inl c) := (e106 194 5 (by first | decide | omega)).trans k5
  have k8 : ai_hv t106 195 c = some (.inr (.inl x)) := (e106 195 c (by first | decide | omega)).trans k104
  refine ex_go (S := (28, [(0, gx_r 194), (1, .inr (.inl x)), (3, .inl y1), (4, .inl y2), (5, .inl y3), (6, .inl y4)], [gx_r 194], t106, n, 0)) rfl (fun _ => rfl) rfl ?_
  refine gxo_ref (a := 194) (c := 197) rfl g106 rfl rfl rfl rfl rfl ?_
  refine ex_go (S := (32, [(0, gx_r 194), (1, .inr (.inl x)), (3, .inl y1), (4, .inl y2), (5, .inl y3), (6, .inl y4)], [gx_r 194, gx_r 197], t106, n, 0)) rfl (fun _ => rfl) rfl ?_
  refine gxo_get (a := 194) rfl g106 rfl rfl k7 rfl ?_
  refine ex_go (S := (37, [(0, gx_r 194), (1, .inr (.inl x)), (3, .inl y1), (4, .inl y2), (5, .inl y3), (6, .inl y4)], [.inl y2, .inl c, gx_r 197], t106, n, 0)) rfl (fun _ => rfl) rfl ?_
  refine gx_ap rfl (fun _ => rfl) g106 rfl rfl rfl (show c < 6 from by omega) (gx_run1 (show c < 6 from hc)) (ai_in_h (by first | decide | omega) (by first | decide | omega) (by first | decide | omega)) rfl (fun t109 g109 k109 e109 => ?_)
  have k10 : ai_hv t109 194 5 = some (.inl c) := (e109 194 5 (by first | decide | omega)).trans k7
  have k11 : ai_hv t109 195 c = some (.inr (.inl x)) := (e109 195 c (by first | decide | omega)).trans k8
  have k12 : ai_hv t109 196 c = some (.inl y1) := (e109 196 c (by first | decide | omega)).trans k106
  refine ex_go (S := (39, [(0, gx_r 194), (1, .inr (.inl x)), (3, .inl y1), (4, .inl y2), (5, .inl y3), (6, .inl y4)], [gx_r 194], t109, n, 0)) rfl (fun _ => rfl) rfl ?_
  refine gxo_ref (a := 194) (c := 198) rfl g109 rfl rfl rfl rfl rfl ?_
  refine ex_go (S := (43, [(0, gx_r 194), (1, .inr (.inl x)), (3, .inl y1), (4, .inl y2), (5, .inl y3), (6, .inl y4)], [gx_r 194, gx_r 198], t109, n, 0)) rfl (fun _ => rfl) rfl ?_
  refine gxo_get (a := 194) rfl g109 rfl rfl k10 rfl ?_
  refine ex_go (S := (48, [(0, gx_r 194), (1, .inr (.inl x)), (3, .inl y1), (4, .inl y2), (5, .inl y3), (6, .inl y4)], [.inl y3, .inl c, gx_r 198], t109, n, 0)) rfl (fun _ => rfl) rfl ?_
  refine gx_ap rfl (fun _ => rfl) g109 rfl rfl rfl (show c < 6 from by omega) (gx_run1 (show c < 6 from hc)) (ai_in_h (by first | decide | omega) (by first | decide | omega) (by first | decide | omega)) rfl (fun t113 g113 k113 e113 => ?_)
  have k14 : ai_hv t113 194 5 = some (.inl c) := (e113 194 5 (by first | decide | omega)).trans k10
  have k15 : ai_hv t113 195 c = some (.inr (.inl x)) := (e113 195 c (by first | decide | omega)).trans k11
  have k16 : ai_hv t113 196 c = some (.inl y1) := (e113 196 c (by first | decide | omega)).trans k12
  have k17 : ai_hv t113 197 c = some (.inl y2) := (e113 197 c (by first | decide | omega)).trans k109
  refine ex_go (S := (50, [(0, gx_r 194), (1, .inr (.inl x)), (3, .inl y1), (4, .inl y2), (5, .inl y3), (6, .inl y4)], [gx_r 194], t113, n, 0)) rfl (fun _ => rfl) rfl ?_
  refine gxo_ref (a := 194) (c := 199) rfl g113 rfl rfl rfl rfl rfl ?_
  refine ex_go (S := (54, [(0, gx_r 194), (1, .inr (.inl x)), (3, .inl y1), (4, .inl y2), (5, .inl y3), (6, .inl y4)], [gx_r 194, gx_r 199], t113, n, 0)) rfl (fun _ => rfl) rfl ?_
  refine gxo_get (a := 194) rfl g113 rfl rfl k14 rfl ?_
  refine ex_go (S := (59, [(0, gx_r 194), (1, .inr (.inl x)), (3, .inl y1), (4, .inl y2), (5, .inl y3), (6, .inl y4)], [.inl y4, .inl c, gx_r 199], t113, n, 0)) rfl (fun _ => rfl) rfl ?_
  refine gx_ap rfl (fun _ => rfl) g113 rfl rfl rfl (show c < 6 from by omega) (gx_run1 (show c < 6 from hc)) (ai_in_h (by first | decide | omega) (by first | decide | omega) (by first | decide | omega)) rfl (fun t118 g118 k118 e118 => ?_)
  have k19 : ai_hv t118 194 5 = some (.inl c) := (e118 194 5 (by first | decide | omega)).trans k14
  have k20 : ai_hv t118 195 c = some (.inr (.inl x)) := (e118 195 c (by first | decide | omega)).trans k15
  have k21 : ai_hv t118 196 c = some (.inl y1) := (e118 196 c (by first | decide | omega)).trans k16
  have k22 : ai_hv t118 197 c = some (.inl y2) := (e118 197 c (by first | decide | omega)).trans k17
  have k23 : ai_hv t118 198 c = some (.inl y3) := (e118 198 c (by first | decide | omega)).trans k113
  refine ex_go (S := (61, [(0, gx_r 194), (1, .inr (.inl x)), (3, .inl y1), (4, .inl y2), (5, .inl y3), (6, .inl y4)], [gx_r 194], t118, n, 0)) rfl (fun _ => rfl) rfl ?_
  refine ex_go (S := (62, [(0, gx_r 194), (1, .inr (.inl x)), (3, .inl y1), (4, .inl y2), (5, .inl y3), (6, .inl y4)], [gx_r 194, gx_r 194], t118, n, 0)) rfl (fun _ => rfl) rfl ?_
  refine gxo_get (a := 194) rfl g118 rfl rfl k19 rfl ?_
  refine ex_go (S := (66, [(0, gx_r 194), (1, .inr (.inl x)), (3, .inl y1), (4, .inl y2), (5, .inl y3), (6, .inl y4)], [.inl 1, .inl c, gx_r 194], t118, n, 0)) rfl (fun _ => rfl) rfl ?_
  refine ex_iadd rfl (by first | decide | omega) rfl ?_
  refine gxo_put (a := 194) rfl g118 rfl rfl rfl (ai_in_h (by first | decide | omega) (by first | decide | omega) (by first | decide | omega)) rfl (fun t124 g124 k124 e124 => ?_)
  have k25 : ai_hv t124 195 c = some (.inr (.inl x)) := (e124 195 c (by first | decide | omega)).trans k20
  have k26 : ai_hv t124 196 c = some (.inl y1) := (e124 196 c (by first | decide | omega)).trans k21
  have k27 : ai_hv t124 197 c = some (.inl y2) := (e124 197 c (by first | decide | omega)).trans k22
  have k28 : ai_hv t124 198 c = some (.inl y3) := (e124 198 c (by first | decide | omega)).trans k23
  have k29 : ai_hv t124 199 c = some (.inl y4) := (e124 199 c (by first | decide | omega)).trans k118
  refine ex_ret (r := (none, t124, n, 0)) rfl (fun _ => rfl) ?_
  exact ⟨_, rfl, t124, rfl, g124, (fun c' i h => (e124 c' i (by first | decide | omega)).trans ((e118 c' i (by first | decide | omega)).trans ((e113 c' i (by first | decide | omega)).trans ((e109 c' i (by first | decide | omega)).trans ((e106 c' i (by first | decide | omega)).trans (e104 c' i (by first | decide | omega))))))), k124, k25, k26, k27, k28, k29⟩
theorem pc_find194_l {fn : en_F} {n c x : Nat} {t0 : en_H} {w : Nat → Nat} (g0 : ai_HG ah_G t0) (k5 : ai_hv t0 194 5 = some (.inl c)) (hc : c ≤ 6) (hn : ∀ i, i < c → ai_hv t0 195 i = some (.inr (.inl (w i)))) : ∀ j k, k + j = c → en_ex none fn (en_code 274) (fun _ => false) (2, [(3, .inl k), (0, gx_r 194), (1, .inr (.inl x))], [], t0, n, 0) (fun o => ∃ r, o = .inl r ∧ ∃ b, r = (some (.inl b), t0, n, 0) ∧ ((sp_fi (fun i => nq (w i) x) j k < c ∧ b = sp_fi (fun i => nq (w i) x) j k) ∨ (sp_fi (fun i => nq (w i) x) j k = c ∧ b = 4294967295))) := by
  intro j
  induction j with
  | zero =>
    intro k hk
    refine ex_go (S := (3, [(3, .inl k), (0, gx_r 194), (1, .inr (.inl x))], [.inl k], t0, n, 0)) rfl (fun _ => rfl) rfl ?_
    refine ex_go (S := (4, [(3, .inl k), (0, gx_r 194), (1, .inr (.inl x))], [gx_r 194, .inl k], t0, n, 0)) rfl (fun _ => rfl) rfl ?_
    refine gxo_get (a := 194) rfl g0 rfl rfl k5 rfl ?_
    refine gx_2t (c := .ge) rfl (by first | decide | omega) (by first | decide | omega) (show c ≤ k from by omega) rfl ?_
    refine ex_go (S := (30, [(3, .inl k), (0, gx_r 194), (1, .inr (.inl x))], [.inl 4294967295], t0, n, 0)) rfl (fun _ => rfl) rfl ?_
    refine ex_ret (r := (some (.inl 4294967295), t0, n, 0)) rfl (fun _ => rfl) ?_
    exact ⟨_, rfl, _, rfl, Or.inr ⟨by show k = _; omega, rfl⟩⟩
  | succ j ih =>
    intro k hk
    have kn := hn k (by first | decide | omega)
    refine ex_go (S := (3, [(3, .inl k), (0, gx_r 194), (1, .inr (.inl x))], [.inl k], t0, n, 0)) rfl (fun _ => rfl) rfl ?_
    refine ex_go (S := (4, [(3, .inl k), (0, gx_r 194), (1, .inr (.inl x))], [gx_r 194, .inl k], t0, n, 0)) rfl (fun _ => rfl) rfl ?_
    refine gxo_get (a := 194) rfl g0 rfl rfl k5 rfl ?_
    refine gx_2f (c := .ge) rfl (by first | decide | omega) (by first | decide | omega) (show ¬ (c ≤ k) from by omega) rfl ?_
    refine ex_go (S := (11, [(3, .inl k), (0, gx_r 194), (1, .inr (.inl x))], [gx_r 194], t0, n, 0)) rfl (fun _ => rfl) rfl ?_
    refine gxo_ref (a := 194) (c := 195) rfl g0 rfl rfl rfl rfl rfl ?_
    refine ex_go (S := (15, [(3, .inl k), (0, gx_r 194), (1, .inr (.inl x))], [.inl k, gx_r 195], t0, n, 0)) rfl (fun _ => rfl) rfl ?_
    refine gx_ag (v := .inr (.inl (w k))) (cb := fun c => Nat.beq c 3) rfl (fun _ => rfl) g0 rfl rfl kn (by first | decide | omega) rfl ?_
    refine ex_go (S := (17, [(3, .inl k), (0, gx_r 194), (1, .inr (.inl x))], [.inr (.inl x), .inr (.inl (w k))], t0, n, 0)) rfl (fun _ => rfl) rfl ?_
    refine gx_lcmp rfl rfl (fun hl1 => ?_) (fun hl1 => ?_) (fun hl1 => ?_)
    · refine ex_go (S := (21, [(3, .inl k), (0, gx_r 194), (1, .inr (.inl x))], [], t0, n, 0)) rfl (fun _ => rfl) rfl ?_
      refine ex_go (S := (22, [(3, .inl k), (0, gx_r 194), (1, .inr (.inl x))], [.inl k], t0, n, 0)) rfl (fun _ => rfl) rfl ?_
      refine ex_ret (r := (some (.inl k), t0, n, 0)) rfl (fun _ => rfl) ?_
      have z9 : sp_fi (fun i => nq (w i) x) (j + 1) k = k := cif_t (show (lN (w k)).toInt = (lN x).toInt by omega)
      rw [z9]
      exact ⟨_, rfl, _, rfl, Or.inl ⟨by omega, rfl⟩⟩
    · refine ex_go (S := (23, [(3, .inl k), (0, gx_r 194), (1, .inr (.inl x))], [], t0, n, 0)) rfl (fun _ => rfl) rfl ?_
      refine gx_iinc (i := 3) (k := 1) rfl (fun _ => rfl) (by first | decide | omega) rfl ?_
      show en_ex _ _ _ _ (26, [(3, .inl (k + 1)), (0, gx_r 194), (1, .inr (.inl x))], [], t0, n, 0) _
      refine ex_go (S := (2, [(3, .inl (k + 1)), (0, gx_r 194), (1, .inr (.inl x))], [], t0, n, 0)) rfl (fun _ => rfl) rfl ?_
      have z9 : sp_fi (fun i => nq (w i) x) (j + 1) k = sp_fi (fun i => nq (w i) x) j (k + 1) := cif_f (fun z => by have z : (lN (w k)).toInt = (lN x).toInt := z; omega)
      rw [z9]
      exact ih (k + 1) (by first | decide | omega)
    · refine ex_go (S := (23, [(3, .inl k), (0, gx_r 194), (1, .inr (.inl x))], [], t0, n, 0)) rfl (fun _ => rfl) rfl ?_
      refine gx_iinc (i := 3) (k := 1) rfl (fun _ => rfl) (by first | decide | omega) rfl ?_
      show en_ex _ _ _ _ (26, [(3, .inl (k + 1)), (0, gx_r 194), (1, .inr (.inl x))], [], t0, n, 0) _
      refine ex_go (S := (2, [(3, .inl (k + 1)), (0, gx_r 194), (1, .inr (.inl x))], [], t0, n, 0)) rfl (fun _ => rfl) rfl ?_
      have z9 : sp_fi (fun i => nq (w i) x) (j + 1) k = sp_fi (fun i => nq (w i) x) j (k + 1) := cif_f (fun z => by have z : (lN (w k)).toInt = (lN x).toInt := z; omega)
      rw [z9]
      exact ih (k + 1) (by first | decide | omega)
theorem pc_find194 (d n : Nat) {c x : Nat} {t0 : en_H} {w : Nat → Nat} (g0 : ai_HG ah_G t0) (k5 : ai_hv t0 194 5 = some (.inl c)) (hc : c ≤ 6) (hn : ∀ i, i < c → ai_hv t0 195 i = some (.inr (.inl (w i)))) : ∃ r, en_u (d + 1) 274 [gx_r 194, .inr (.inl x)] t0 n = some r ∧ ∃ b, r = (some (.inl b), t0, n, 0) ∧ ((sp_fi (fun i => nq (w i) x) c 0 < c ∧ b = sp_fi (fun i => nq (w i) x) c 0) ∨ (sp_fi (fun i => nq (w i) x) c 0 = c ∧ b = 4294967295)) := by
  refine en_u_ex rfl ?_
  show en_ex _ _ _ _ (0, [(0, gx_r 194), (1, .inr (.inl x))], [], t0, n, 0) _
  refine ex_go (S := (1, [(0, gx_r 194), (1, .inr (.inl x))], [.inl 0], t0, n, 0)) rfl (fun _ => rfl) rfl ?_
  refine ex_go (S := (2, [(3, .inl 0), (0, gx_r 194), (1, .inr (.inl x))], [], t0, n, 0)) rfl (fun _ => rfl) rfl ?_
  exact pc_find194_l g0 k5 hc hn c 0 (by first | decide | omega)
theorem pc_isFull200 (d n : Nat) {c : Nat} {t0 : en_H} (g0 : ai_HG ah_G t0) (k5 : ai_hv t0 200 5 = some (.inl c)) (hc : c ≤ 6) : ∃ r, en_u (d + 1) 272 [gx_r 200] t0 n = some r ∧ ∃ b, r = (some (.inl b), t0, n, 0) ∧ b ≤ 1 ∧ (b = 1 ↔ c = 6) := by
  refine en_u_ex rfl ?_
  show en_ex _ _ _ _ (0, [(0, gx_r 200)], [], t0, n, 0) _
  refine ex_go (S := (1, [(0, gx_r 200)], [gx_r 200], t0, n, 0)) rfl (fun _ => rfl) rfl ?_
  refine gxo_get (a := 200) rfl g0 rfl rfl k5 rfl ?_
  refine ex_go (S := (5, [(0, gx_r 200)], [gx_r 200, .inl c], t0, n, 0)) rfl (fun _ => rfl) rfl ?_
  refine gxo_ref (a := 200) (c := 201) rfl g0 rfl rfl rfl rfl rfl ?_
  refine gx_alen (a := 201) (m := 6) rfl g0 rfl rfl rfl ?_
  by_cases hc1 : c < 6
  · refine gx_2t (c := .lt) rfl (by first | decide | omega) (by first | decide | omega) hc1 rfl ?_
    refine ex_go (S := (17, [(0, gx_r 200)], [.inl 0], t0, n, 0)) rfl (fun _ => rfl) rfl ?_
    refine ex_ret (r := (some (.inl 0), t0, n, 0)) rfl (fun _ => rfl) ?_
    exact ⟨_, rfl, 0, rfl, by omega⟩
  · refine gx_2f (c := .lt) rfl (by first | decide | omega) (by first | decide | omega) hc1 rfl ?_
    refine ex_go (S := (13, [(0, gx_r 200)], [.inl 1], t0, n, 0)) rfl (fun _ => rfl) rfl ?_
    refine ex_go (S := (17, [(0, gx_r 200)], [.inl 1], t0, n, 0)) rfl (fun _ => rfl) rfl ?_
    refine ex_ret (r := (some (.inl 1), t0, n, 0)) rfl (fun _ => rfl) ?_
    exact ⟨_, rfl, 1, rfl, by omega⟩
theorem pc_add200 (d n : Nat) {c x y1 y2 y3 y4 : Nat} {t0 : en_H} (g0 : ai_HG ah_G t0) (k5 : ai_hv t0 200 5 = some (.inl c)) (hc : c < 6) (h1 : 0 ≤ y1 ∧ y1 ≤ 63) (h2 : 0 ≤ y2 ∧ y2 ≤ 30) (h3 : 0 ≤ y3 ∧ y3 ≤ 29) (h4 : 0 ≤ y4 ∧ y4 ≤ 30) : ∃ r, en_u (d + 2) 273 [gx_r 200, .inr (.inl x), .inl y1, .inl y2, .inl y3, .inl y4] t0 n = some r ∧ ∃ t', r = (none, t', n, 0) ∧ ai_HG ah_G t' ∧ (∀ c' i, ¬ ((c' = 200 ∧ i = 5) ∨ ((c' = 201 ∨ c' = 202 ∨ c' = 203 ∨ c' = 204 ∨ c' = 205) ∧ i = c)) → ai_hv t' c' i = ai_hv t0 c' i) ∧ ai_hv t' 200 5 = some (.inl (c + 1)) ∧ ai_hv t' 201 c = some (.inr (.inl x)) ∧ ai_hv t' 202 c = some (.inl y1) ∧ ai_hv t' 203 c = some (.inl y2) ∧ ai_hv t' 204 c = some (.inl y3) ∧ ai_hv t' 205 c = some (.inl y4) := by
  refine en_u_ex (d := d + 1) rfl ?_
  show en_ex _ _ _ _ (0, [(0, gx_r 200), (1, .inr (.inl x)), (3, .inl y1), (4, .inl y2), (5, .inl y3), (6, .inl y4)], [], t0, n, 0) _
  refine ex_go (S := (1, [(0, gx_r 200), (1, .inr (.inl x)), (3, .inl y1), (4, .inl y2), (5, .inl y3), (6, .inl y4)], [gx_r 200], t0, n, 0)) rfl (fun _ => rfl) rfl ?_
  obtain ⟨_, r1, b2, rfl, q3⟩ := pc_isFull200 (d) n g0 k5 (by first | decide | omega)
  refine gx_callo (a := 200) rfl rfl g0 rfl rfl rfl r1 rfl ?_
  show en_ex _ _ _ _ (4, [(0, gx_r 200), (1, .inr (.inl x)), (3, .inl y1), (4, .inl y2), (5, .inl y3), (6, .inl y4)], [.inl b2], t0, n, 0) _
  refine gx_1f (c := .ne) rfl (by first | decide | omega) (show ¬ (b2 ≠ 0) from by omega) rfl ?_
  refine ex_go (S := (8, [(0, gx_r 200), (1, .inr (.inl x)), (3, .inl y1), (4, .inl y2), (5, .inl y3), (6, .inl y4)], [gx_r 200], t0, n, 0)) rfl (fun _ => rfl) rfl ?_
  refine gxo_ref (a := 200) (c := 201) rfl g0 rfl rfl rfl rfl rfl ?_
  refine ex_go (S := (12, [(0, gx_r 200), (1, .inr (.inl x)), (3, .inl y1), (4, .inl y2), (5, .inl y3), (6, .inl y4)], [gx_r 200, gx_r 201], t0, n, 0)) rfl (fun _ => rfl) rfl ?_
  refine gxo_get (a := 200) rfl g0 rfl rfl k5 rfl ?_
  refine ex_go (S := (16, [(0, gx_r 200), (1, .inr (.inl x)), (3, .inl y1), (4, .inl y2), (5, .inl y3), (6, .inl y4)], [.inr (.inl x), .inl c, gx_r 201], t0, n, 0)) rfl (fun _ => rfl) rfl ?_
  refine gx_apv (d := 1) rfl (fun _ => rfl) g0 rfl rfl rfl (show c < 6 from by omega) (gx_run1 (show c < 6 from hc)) ⟨_, rfl⟩ rfl (fun t104 g104 k104 e104 => ?_)
  have k5 : ai_hv t104 200 5 = some (.inl c) := (e104 200 5 (by first | decide | omega)).trans k5
  refine ex_go (S := (18, [(0, gx_r 200), (1, .inr (.inl x)), (3, .inl y1), (4, .inl y2), (5, .inl y3), (6, .inl y4)], [gx_r 200], t104, n, 0)) rfl (fun _ => rfl) rfl ?_
  refine gxo_ref (a := 200) (c := 202) rfl g104 rfl rfl rfl rfl rfl ?_
  refine ex_go (S := (22, [(0, gx_r 200), (1, .inr (.inl x)), (3, .inl y1), (4, .inl y2), (5, .inl y3), (6, .inl y4)], [gx_r 200, gx_r 202], t104, n, 0)) rfl (fun _ => rfl) rfl ?_
  refine gxo_get (a := 200) rfl g104 rfl rfl k5 rfl ?_
  refine ex_go (S := (26, [(0, gx_r 200), (1, .inr (.inl x)), (3, .inl y1), (4, .inl y2), (5, .inl y3), (6, .inl y4)], [.inl y1, .inl c, gx_r 202], t104, n, 0)) rfl (fun _ => rfl) rfl ?_
  refine gx_ap rfl (fun _ => rfl) g104 rfl rfl rfl (show c < 6 from by omega) (gx_run1 (show c < 6 from hc)) (ai_in_h (by first | decide | omega) (by first | decide | omega) (by first | decide | omega)) rfl (fun t106 g106 k106 e106 => ?_)
  have k7 : ai_hv t106 200 5 = some (.inl c) := (e106 200 5 (by first | decide | omega)).trans k5
  have k8 : ai_hv t106 201 c = some (.inr (.inl x)) := (e106 201 c (by first | decide | omega)).trans k104
  refine ex_go (S := (28, [(0, gx_r 200), (1, .inr (.inl x)), (3, .inl y1), (4, .inl y2), (5, .inl y3), (6, .inl y4)], [gx_r 200], t106, n, 0)) rfl (fun _ => rfl) rfl ?_
  refine gxo_ref (a := 200) (c := 203) rfl g106 rfl rfl rfl rfl rfl ?_
  refine ex_go (S := (32, [(0, gx_r 200), (1, .inr (.inl x)), (3, .inl y1), (4, .inl y2), (5, .inl y3), (6, .inl y4)], [gx_r 200, gx_r 203], t106, n, 0)) rfl (fun _ => rfl) rfl ?_
  refine gxo_get (a := 200) rfl g106 rfl rfl k7 rfl ?_
  refine ex_go (S := (37, [(0, gx_r 200), (1, .inr (.inl x)), (3, .inl y1), (4, .inl y2), (5, .inl y3), (6, .inl y4)], [.inl y2, .inl c, gx_r 203], t106, n, 0)) rfl (fun _ => rfl) rfl ?_
  refine gx_ap rfl (fun _ => rfl) g106 rfl rfl rfl (show c < 6 from by omega) (gx_run1 (show c < 6 from hc)) (ai_in_h (by first | decide | omega) (by first | decide | omega) (by first | decide | omega)) rfl (fun t109 g109 k109 e109 => ?_)
  have k10 : ai_hv t109 200 5 = some (.inl c) := (e109 200 5 (by first | decide | omega)).trans k7
  have k11 : ai_hv t109 201 c = some (.inr (.inl x)) := (e109 201 c (by first | decide | omega)).trans k8
  have k12 : ai_hv t109 202 c = some (.inl y1) := (e109 202 c (by first | decide | omega)).trans k106
  refine ex_go (S := (39, [(0, gx_r 200), (1, .inr (.inl x)), (3, .inl y1), (4, .inl y2), (5, .inl y3), (6, .inl y4)], [gx_r 200], t109, n, 0)) rfl (fun _ => rfl) rfl ?_
  refine gxo_ref (a := 200) (c := 204) rfl g109 rfl rfl rfl rfl rfl ?_
  refine ex_go (S := (43, [(0, gx_r 200), (1, .inr (.inl x)), (3, .inl y1), (4, .inl y2), (5, .inl y3), (6, .inl y4)], [gx_r 200, gx_r 204], t109, n, 0)) rfl (fun _ => rfl) rfl ?_
  refine gxo_get (a := 200) rfl g109 rfl rfl k10 rfl ?_
  refine ex_go (S := (48, [(0, gx_r 200), (1, .inr (.inl x)), (3, .inl y1), (4, .inl y2), (5, .inl y3), (6, .inl y4)], [.inl y3, .inl c, gx_r 204], t109, n, 0)) rfl (fun _ => rfl) rfl ?_
  refine gx_ap rfl (fun _ => rfl) g109 rfl rfl rfl (show c < 6 from by omega) (gx_run1 (show c < 6 from hc)) (ai_in_h (by first | decide | omega) (by first | decide | omega) (by first | decide | omega)) rfl (fun t113 g113 k113 e113 => ?_)
  have k14 : ai_hv t113 200 5 = some (.inl c) := (e113 200 5 (by first | decide | omega)).trans k10
  have k15 : ai_hv t113 201 c = some (.inr (.inl x)) := (e113 201 c (by first | decide | omega)).trans k11
  have k16 : ai_hv t113 202 c = some (.inl y1) := (e113 202 c (by first | decide | omega)).trans k12
  have k17 : ai_hv t113 203 c = some (.inl y2) := (e113 203 c (by first | decide | omega)).trans k109
  refine ex_go (S := (50, [(0, gx_r 200), (1, .inr (.inl x)), (3, .inl y1), (4, .inl y2), (5, .inl y3), (6, .inl y4)], [gx_r 200], t113, n, 0)) rfl (fun _ => rfl) rfl ?_
  refine gxo_ref (a := 200) (c := 205) rfl g113 rfl rfl rfl rfl rfl ?_
  refine ex_go (S := (54, [(0, gx_r 200), (1, .inr (.inl x)), (3, .inl y1), (4, .inl y2), (5, .inl y3), (6, .inl y4)], [gx_r 200, gx_r 205], t113, n, 0)) rfl (fun _ => rfl) rfl ?_
  refine gxo_get (a := 200) rfl g113 rfl rfl k14 rfl ?_
  refine ex_go (S := (59, [(0, gx_r 200), (1, .inr (.inl x)), (3, .inl y1), (4, .inl y2), (5, .inl y3), (6, .inl y4)], [.inl y4, .inl c, gx_r 205], t113, n, 0)) rfl (fun _ => rfl) rfl ?_
  refine gx_ap rfl (fun _ => rfl) g113 rfl rfl rfl (show c < 6 from by omega) (gx_run1 (show c < 6 from hc)) (ai_in_h (by first | decide | omega) (by first | decide | omega) (by first | decide | omega)) rfl (fun t118 g118 k118 e118 => ?_)
  have k19 : ai_hv t118 200 5 = some (.inl c) := (e118 200 5 (by first | decide | omega)).trans k14
  have k20 : ai_hv t118 201 c = some (.inr (.inl x)) := (e118 201 c (by first | decide | omega)).trans k15
  have k21 : ai_hv t118 202 c = some (.inl y1) := (e118 202 c (by first | decide | omega)).trans k16
  have k22 : ai_hv t118 203 c = some (.inl y2) := (e118 203 c (by first | decide | omega)).trans k17
  have k23 : ai_hv t118 204 c = some (.inl y3) := (e118 204 c (by first | decide | omega)).trans k113
  refine ex_go (S := (61, [(0, gx_r 200), (1, .inr (.inl x)), (3, .inl y1), (4, .inl y2), (5, .inl y3), (6, .inl y4)], [gx_r 200], t118, n, 0)) rfl (fun _ => rfl) rfl ?_
  refine ex_go (S := (62, [(0, gx_r 200), (1, .inr (.inl x)), (3, .inl y1), (4, .inl y2), (5, .inl y3), (6, .inl y4)], [gx_r 200, gx_r 200], t118, n, 0)) rfl (fun _ => rfl) rfl ?_
  refine gxo_get (a := 200) rfl g118 rfl rfl k19 rfl ?_
  refine ex_go (S := (66, [(0, gx_r 200), (1, .inr (.inl x)), (3, .inl y1), (4, .inl y2), (5, .inl y3), (6, .inl y4)], [.inl 1, .inl c, gx_r 200], t118, n, 0)) rfl (fun _ => rfl) rfl ?_
  refine ex_iadd rfl (by first | decide | omega) rfl ?_
  refine gxo_put (a := 200) rfl g118 rfl rfl rfl (ai_in_h (by first | decide | omega) (by first | decide | omega) (by first | decide | omega)) rfl (fun t124 g124 k124 e124 => ?_)
  have k25 : ai_hv t124 201 c = some (.inr (.inl x)) := (e124 201 c (by first | decide | omega)).trans k20
  have k26 : ai_hv t124 202 c = some (.inl y1) := (e124 202 c (by first | decide | omega)).trans k21
  have k27 : ai_hv t124 203 c = some (.inl y2) := (e124 203 c (by first | decide | omega)).trans k22
  have k28 : ai_hv t124 204 c = some (.inl y3) := (e124 204 c (by first | decide | omega)).trans k23
  have k29 : ai_hv t124 205 c = some (.inl y4) := (e124 205 c (by first | decide | omega)).trans k118
  refine ex_ret (r := (none, t124, n, 0)) rfl (fun _ => rfl) ?_
  exact ⟨_, rfl, t124, rfl, g124, (fun c' i h => (e124 c' i (by first | decide | omega)).trans ((e118 c' i (by first | decide | omega)).trans ((e113 c' i (by first | decide | omega)).trans ((e109 c' i (by first | decide | omega)).trans ((e106 c' i (by first | decide | omega)).trans (e104 c' i (by first | decide | omega))))))), k124, k25, k26, k27, k28, k29⟩
theorem pc_isFull206 (d n : Nat) {c : Nat} {t0 : en_H} (g0 : ai_HG ah_G t0) (k5 : ai_hv t0 206 5 = some (.inl c)) (hc : c ≤ 2) : ∃ r, en_u (d + 1) 272 [gx_r 206] t0 n = some r ∧ ∃ b, r = (some (.inl b), t0, n, 0) ∧ b ≤ 1 ∧ (b = 1 ↔ c = 2) := by
  refine en_u_ex rfl ?_
  show en_ex _ _ _ _ (0, [(0, gx_r 206)], [], t0, n, 0) _
  refine ex_go (S := (1, [(0, gx_r 206)], [gx_r 206], t0, n, 0)) rfl (fun _ => rfl) rfl ?_
  refine gxo_get (a := 206) rfl g0 rfl rfl k5 rfl ?_
  refine ex_go (S := (5, [(0, gx_r 206)], [gx_r 206, .inl c], t0, n, 0)) rfl (fun _ => rfl) rfl ?_
  refine gxo_ref (a := 206) (c := 207) rfl g0 rfl rfl rfl rfl rfl ?_
  refine gx_alen (a := 207) (m := 2) rfl g0 rfl rfl rfl ?_
  by_cases hc1 : c < 2
  · refine gx_2t (c := .lt) rfl (by first | decide | omega) (by first | decide | omega) hc1 rfl ?_
    refine ex_go (S := (17, [(0, gx_r 206)], [.inl 0], t0, n, 0)) rfl (fun _ => rfl) rfl ?_
    refine ex_ret (r := (some (.inl 0), t0, n, 0)) rfl (fun _ => rfl) ?_
    exact ⟨_, rfl, 0, rfl, by omega⟩
  · refine gx_2f (c := .lt) rfl (by first | decide | omega) (by first | decide | omega) hc1 rfl ?_
    refine ex_go (S := (13, [(0, gx_r 206)], [.inl 1], t0, n, 0)) rfl (fun _ => rfl) rfl ?_
    refine ex_go (S := (17, [(0, gx_r 206)], [.inl 1], t0, n, 0)) rfl (fun _ => rfl) rfl ?_
    refine ex_ret (r := (some (.inl 1), t0, n, 0)) rfl (fun _ => rfl) ?_
    exact ⟨_, rfl, 1, rfl, by omega⟩
theorem pc_add206 (d n : Nat) {c x y1 y2 y3 y4 : Nat} {t0 : en_H} (g0 : ai_HG ah_G t0) (k5 : ai_hv t0 206 5 = some (.inl c)) (hc : c < 2) (h1 : 0 ≤ y1 ∧ y1 ≤ 5) (h2 : 0 ≤ y2 ∧ y2 ≤ 30) (h3 : 0 ≤ y3 ∧ y3 ≤ 9999) (h4 : 0 ≤ y4 ∧ y4 ≤ 0) : ∃ r, en_u (d + 2) 273 [gx_r 206, .inr (.inl x), .inl y1, .inl y2, .inl y3, .inl y4] t0 n = some r ∧ ∃ t', r = (none, t', n, 0) ∧ ai_HG ah_G t' ∧ (∀ c' i, ¬ ((c' = 206 ∧ i = 5) ∨ ((c' = 207 ∨ c' = 208 ∨ c' = 209 ∨ c' = 210 ∨ c' = 211) ∧ i = c)) → ai_hv t' c' i = ai_hv t0 c' i) ∧ ai_hv t' 206 5 = some (.inl (c + 1)) ∧ ai_hv t' 207 c = some (.inr (.inl x)) ∧ ai_hv t' 208 c = some (.inl y1) ∧ ai_hv t' 209 c = some (.inl y2) ∧ ai_hv t' 210 c = some (.inl y3) ∧ ai_hv t' 211 c = some (.inl y4) := by
  refine en_u_ex (d := d + 1) rfl ?_
  show en_ex _ _ _ _ (0, [(0, gx_r 206), (1, .inr (.inl x)), (3, .inl y1), (4, .inl y2), (5, .inl y3), (6, .inl y4)], [], t0, n, 0) _
  refine ex_go (S := (1, [(0, gx_r 206), (1, .inr (.inl x)), (3, .inl y1), (4, .inl y2), (5, .inl y3), (6, .inl y4)], [gx_r 206], t0, n, 0)) rfl (fun _ => rfl) rfl ?_
  obtain ⟨_, r1, b2, rfl, q3⟩ := pc_isFull206 (d) n g0 k5 (by first | decide | omega)
  refine gx_callo (a := 206) rfl rfl g0 rfl rfl rfl r1 rfl ?_
  show en_ex _ _ _ _ (4, [(0, gx_r 206), (1, .inr (.inl x)), (3, .inl y1), (4, .inl y2), (5, .inl y3), (6, .inl y4)], [.inl b2], t0, n, 0) _
  refine gx_1f (c := .ne) rfl (by first | decide | omega) (show ¬ (b2 ≠ 0) from by omega) rfl ?_
  refine ex_go (S := (8, [(0, gx_r 206), (1, .inr (.inl x)), (3, .inl y1), (4, .inl y2), (5, .inl y3), (6, .inl y4)], [gx_r 206], t0, n, 0)) rfl (fun _ => rfl) rfl ?_
  refine gxo_ref (a := 206) (c := 207) rfl g0 rfl rfl rfl rfl rfl ?_
  refine ex_go (S := (12, [(0, gx_r 206), (1, .inr (.inl x)), (3, .inl y1), (4, .inl y2), (5, .inl y3), (6, .inl y4)], [gx_r 206, gx_r 207], t0, n, 0)) rfl (fun _ => rfl) rfl ?_
  refine gxo_get (a := 206) rfl g0 rfl rfl k5 rfl ?_
  refine ex_go (S := (16, [(0, gx_r 206), (1, .inr (.inl x)), (3, .inl y1), (4, .inl y2), (5, .inl y3), (6, .inl y4)], [.inr (.inl x), .inl c, gx_r 207], t0, n, 0)) rfl (fun _ => rfl) rfl ?_
  refine gx_apv (d := 1) rfl (fun _ => rfl) g0 rfl rfl rfl (show c < 2 from by omega) (gx_run1 (show c < 2 from hc)) ⟨_, rfl⟩ rfl (fun t104 g104 k104 e104 => ?_)
  have k5 : ai_hv t104 206 5 = some (.inl c) := (e104 206 5 (by first | decide | omega)).trans k5
  refine ex_go (S := (18, [(0, gx_r 206), (1, .inr (.inl x)), (3, .inl y1), (4, .inl y2), (5, .inl y3), (6, .inl y4)], [gx_r 206], t104, n, 0)) rfl (fun _ => rfl) rfl ?_
  refine gxo_ref (a := 206) (c := 208) rfl g104 rfl rfl rfl rfl rfl ?_
  refine ex_go (S := (22, [(0, gx_r 206), (1, .inr (.inl x)), (3, .inl y1), (4, .inl y2), (5, .inl y3), (6, .inl y4)], [gx_r 206, gx_r 208], t104, n, 0)) rfl (fun _ => rfl) rfl ?_
  refine gxo_get (a := 206) rfl g104 rfl rfl k5 rfl ?_
  refine ex_go (S := (26, [(0, gx_r 206), (1, .inr (.inl x)), (3, .inl y1), (4, .inl y2), (5, .inl y3), (6, .inl y4)], [.inl y1, .inl c, gx_r 208], t104, n, 0)) rfl (fun _ => rfl) rfl ?_
  refine gx_ap rfl (fun _ => rfl) g104 rfl rfl rfl (show c < 2 from by omega) (gx_run1 (show c < 2 from hc)) (ai_in_h (by first | decide | omega) (by first | decide | omega) (by first | decide | omega)) rfl (fun t106 g106 k106 e106 => ?_)
  have k7 : ai_hv t106 206 5 = some (.inl c) := (e106 206 5 (by first | decide | omega)).trans k5
  have k8 : ai_hv t106 207 c = some (.inr (.inl x)) := (e106 207 c (by first | decide | omega)).trans k104
  refine ex_go (S := (28, [(0, gx_r 206), (1, .inr (.inl x)), (3, .inl y1), (4, .inl y2), (5, .inl y3), (6, .inl y4)], [gx_r 206], t106, n, 0)) rfl (fun _ => rfl) rfl ?_
  refine gxo_ref (a := 206) (c := 209) rfl g106 rfl rfl rfl rfl rfl ?_
  refine ex_go (S := (32, [(0, gx_r 206), (1, .inr (.inl x)), (3, .inl y1), (4, .inl y2), (5, .inl y3), (6, .inl y4)], [gx_r 206, gx_r 209], t106, n, 0)) rfl (fun _ => rfl) rfl ?_
  refine gxo_get (a := 206) rfl g106 rfl rfl k7 rfl ?_
  refine ex_go (S := (37, [(0, gx_r 206), (1, .inr (.inl x)), (3, .inl y1), (4, .inl y2), (5, .inl y3), (6, .inl y4)], [.inl y2, .inl c, gx_r 209], t106, n, 0)) rfl (fun _ => rfl) rfl ?_
  refine gx_ap rfl (fun _ => rfl) g106 rfl rfl rfl (show c < 2 from by omega) (gx_run1 (show c < 2 from hc)) (ai_in_h (by first | decide | omega) (by first | decide | omega) (by first | decide | omega)) rfl (fun t109 g109 k109 e109 => ?_)
  have k10 : ai_hv t109 206 5 = some (.inl c) := (e109 206 5 (by first | decide | omega)).trans k7
  have k11 : ai_hv t109 207 c = some (.inr (.inl x)) := (e109 207 c (by first | decide | omega)).trans k8
  have k12 : ai_hv t109 208 c = some (.inl y1) := (e109 208 c (by first | decide | omega)).trans k106
  refine ex_go (S := (39, [(0, gx_r 206), (1, .inr (.inl x)), (3, .inl y1), (4, .inl y2), (5, .inl y3), (6, .inl y4)], [gx_r 206], t109, n, 0)) rfl (fun _ => rfl) rfl ?_
  refine gxo_ref (a := 206) (c := 210) rfl g109 rfl rfl rfl rfl rfl ?_
  refine ex_go (S := (43, [(0, gx_r 206), (1, .inr (.inl x)), (3, .inl y1), (4, .inl y2), (5, .inl y3), (6, .inl y4)], [gx_r 206, gx_r 210], t109, n, 0)) rfl (fun _ => rfl) rfl ?_
  refine gxo_get (a := 206) rfl g109 rfl rfl k10 rfl ?_
  refine ex_go (S := (48, [(0, gx_r 206), (1, .inr (.inl x)), (3, .inl y1), (4, .inl y2), (5, .inl y3), (6, .inl y4)], [.inl y3, .inl c, gx_r 210], t109, n, 0)) rfl (fun _ => rfl) rfl ?_
  refine gx_ap rfl (fun _ => rfl) g109 rfl rfl rfl (show c < 2 from by omega) (gx_run1 (show c < 2 from hc)) (ai_in_h (by first | decide | omega) (by first | decide | omega) (by first | decide | omega)) rfl (fun t113 g113 k113 e113 => ?_)
  have k14 : ai_hv t113 206 5 = some (.inl c) := (e113 206 5 (by first | decide | omega)).trans k10
  have k15 : ai_hv t113 207 c = some (.inr (.inl x)) := (e113 207 c (by first | decide | omega)).trans k11
  have k16 : ai_hv t113 208 c = some (.inl y1) := (e113 208 c (by first | decide | omega)).trans k12
  have k17 : ai_hv t113 209 c = some (.inl y2) := (e113 209 c (by first | decide | omega)).trans k109
  refine ex_go (S := (50, [(0, gx_r 206), (1, .inr (.inl x)), (3, .inl y1), (4, .inl y2), (5, .inl y3), (6, .inl y4)], [gx_r 206], t113, n, 0)) rfl (fun _ => rfl) rfl ?_
  refine gxo_ref (a := 206) (c := 211) rfl g113 rfl rfl rfl rfl rfl ?_
  refine ex_go (S := (54, [(0, gx_r 206), (1, .inr (.inl x)), (3, .inl y1), (4, .inl y2), (5, .inl y3), (6, .inl y4)], [gx_r 206, gx_r 211], t113, n, 0)) rfl (fun _ => rfl) rfl ?_
  refine gxo_get (a := 206) rfl g113 rfl rfl k14 rfl ?_
  refine ex_go (S := (59, [(0, gx_r 206), (1, .inr (.inl x)), (3, .inl y1), (4, .inl y2), (5, .inl y3), (6, .inl y4)], [.inl y4, .inl c, gx_r 211], t113, n, 0)) rfl (fun _ => rfl) rfl ?_
  refine gx_ap rfl (fun _ => rfl) g113 rfl rfl rfl (show c < 2 from by omega) (gx_run1 (show c < 2 from hc)) (ai_in_h (by first | decide | omega) (by first | decide | omega) (by first | decide | omega)) rfl (fun t118 g118 k118 e118 => ?_)
  have k19 : ai_hv t118 206 5 = some (.inl c) := (e118 206 5 (by first | decide | omega)).trans k14
  have k20 : ai_hv t118 207 c = some (.inr (.inl x)) := (e118 207 c (by first | decide | omega)).trans k15
  have k21 : ai_hv t118 208 c = some (.inl y1) := (e118 208 c (by first | decide | omega)).trans k16
  have k22 : ai_hv t118 209 c = some (.inl y2) := (e118 209 c (by first | decide | omega)).trans k17
  have k23 : ai_hv t118 210 c = some (.inl y3) := (e118 210 c (by first | decide | omega)).trans k113
  refine ex_go (S := (61, [(0, gx_r 206), (1, .inr (.inl x)), (3, .inl y1), (4, .inl y2), (5, .inl y3), (6, .inl y4)], [gx_r 206], t118, n, 0)) rfl (fun _ => rfl) rfl ?_
  refine ex_go (S := (62, [(0, gx_r 206), (1, .inr (.inl x)), (3, .inl y1), (4, .inl y2), (5, .inl y3), (6, .inl y4)], [gx_r 206, gx_r 206], t118, n, 0)) rfl (fun _ => rfl) rfl ?_
  refine gxo_get (a := 206) rfl g118 rfl rfl k19 rfl ?_
  refine ex_go (S := (66, [(0, gx_r 206), (1, .inr (.inl x)), (3, .inl y1), (4, .inl y2), (5, .inl y3), (6, .inl y4)], [.inl 1, .inl c, gx_r 206], t118, n, 0)) rfl (fun _ => rfl) rfl ?_
  refine ex_iadd rfl (by first | decide | omega) rfl ?_
  refine gxo_put (a := 206) rfl g118 rfl rfl rfl (ai_in_h (by first | decide | omega) (by first | decide | omega) (by first | decide | omega)) rfl (fun t124 g124 k124 e124 => ?_)
  have k25 : ai_hv t124 207 c = some (.inr (.inl x)) := (e124 207 c (by first | decide | omega)).trans k20
  have k26 : ai_hv t124 208 c = some (.inl y1) := (e124 208 c (by first | decide | omega)).trans k21
  have k27 : ai_hv t124 209 c = some (.inl y2) := (e124 209 c (by first | decide | omega)).trans k22
  have k28 : ai_hv t124 210 c = some (.inl y3) := (e124 210 c (by first | decide | omega)).trans k23
  have k29 : ai_hv t124 211 c = some (.inl y4) := (e124 211 c (by first | decide | omega)).trans k118
  refine ex_ret (r := (none, t124, n, 0)) rfl (fun _ => rfl) ?_
  exact ⟨_, rfl, t124, rfl, g124, (fun c' i h => (e124 c' i (by first | decide | omega)).trans ((e118 c' i (by first | decide | omega)).trans ((e113 c' i (by first | decide | omega)).trans ((e109 c' i (by first | decide | omega)).trans ((e106 c' i (by first | decide | omega)).trans (e104 c' i (by first | decide | omega))))))), k124, k25, k26, k27, k28, k29⟩
theorem pc_isFull212 (d n : Nat) {c : Nat} {t0 : en_H} (g0 : ai_HG ah_G t0) (k5 : ai_hv t0 212 5 = some (.inl c)) (hc : c ≤ 5) : ∃ r, en_u (d + 1) 272 [gx_r 212] t0 n = some r ∧ ∃ b, r = (some (.inl b), t0, n, 0) ∧ b ≤ 1 ∧ (b = 1 ↔ c = 5) := by
  refine en_u_ex rfl ?_
  show en_ex _ _ _ _ (0, [(0, gx_r 212)], [], t0, n, 0) _
  refine ex_go (S := (1, [(0, gx_r 212)], [gx_r 212], t0, n, 0)) rfl (fun _ => rfl) rfl ?_
  refine gxo_get (a := 212) rfl g0 rfl rfl k5 rfl ?_
  refine ex_go (S := (5, [(0, gx_r 212)], [gx_r 212, .inl c], t0, n, 0)) rfl (fun _ => rfl) rfl ?_
  refine gxo_ref (a := 212) (c := 213) rfl g0 rfl rfl rfl rfl rfl ?_
  refine gx_alen (a := 213) (m := 5) rfl g0 rfl rfl rfl ?_
  by_cases hc1 : c < 5
  · refine gx_2t (c := .lt) rfl (by first | decide | omega) (by first | decide | omega) hc1 rfl ?_
    refine ex_go (S := (17, [(0, gx_r 212)], [.inl 0], t0, n, 0)) rfl (fun _ => rfl) rfl ?_
    refine ex_ret (r := (some (.inl 0), t0, n, 0)) rfl (fun _ => rfl) ?_
    exact ⟨_, rfl, 0, rfl, by omega⟩
  · refine gx_2f (c := .lt) rfl (by first | decide | omega) (by first | decide | omega) hc1 rfl ?_
    refine ex_go (S := (13, [(0, gx_r 212)], [.inl 1], t0, n, 0)) rfl (fun _ => rfl) rfl ?_
    refine ex_go (S := (17, [(0, gx_r 212)], [.inl 1], t0, n, 0)) rfl (fun _ => rfl) rfl ?_
    refine ex_ret (r := (some (.inl 1), t0, n, 0)) rfl (fun _ => rfl) ?_
    exact ⟨_, rfl, 1, rfl, by omega⟩
theorem pc_add212 (d n : Nat) {c x y1 y2 y3 y4 : Nat} {t0 : en_H} (g0 : ai_HG ah_G t0) (k5 : ai_hv t0 212 5 = some (.inl c)) (hc : c < 5) (h1 : 0 ≤ y1 ∧ y1 ≤ 10) (h2 : 0 ≤ y2 ∧ y2 ≤ 10) (h3 : 0 ≤ y3 ∧ y3 ≤ 0) (h4 : 0 ≤ y4 ∧ y4 ≤ 0) : ∃ r, en_u (d + 2) 273 [gx_r 212, .inr (.inl x), .inl y1, .inl y2, .inl y3, .inl y4] t0 n = some r ∧ ∃ t', r = (none, t', n, 0) ∧ ai_HG ah_G t' ∧ (∀ c' i, ¬ ((c' = 212 ∧ i = 5) ∨ ((c' = 213 ∨ c' = 214 ∨ c' = 215 ∨ c' = 216 ∨ c' = 217) ∧ i = c)) → ai_hv t' c' i = ai_hv t0 c' i) ∧ ai_hv t' 212 5 = some (.inl (c + 1)) ∧ ai_hv t' 213 c = some (.inr (.inl x)) ∧ ai_hv t' 214 c = some (.inl y1) ∧ ai_hv t' 215 c = some (.inl y2) ∧ ai_hv t' 216 c = some (.inl y3) ∧ ai_hv t' 217 c = some (.inl y4) := by
  refine en_u_ex (d := d + 1) rfl ?_
  show en_ex _ _ _ _ (0, [(0, gx_r 212), (1, .inr (.inl x)), (3, .inl y1), (4, .inl y2), (5, .inl y3), (6, .inl y4)], [], t0, n, 0) _
  refine ex_go (S := (1, [(0, gx_r 212), (1, .inr (.inl x)), (3, .inl y1), (4, .inl y2), (5, .inl y3), (6, .inl y4)], [gx_r 212], t0, n, 0)) rfl (fun _ => rfl) rfl ?_
  obtain ⟨_, r1, b2, rfl, q3⟩ := pc_isFull212 (d) n g0 k5 (by first | decide | omega)
  refine gx_callo (a := 212) rfl rfl g0 rfl rfl rfl r1 rfl ?_
  show en_ex _ _ _ _ (4, [(0, gx_r 212), (1, .inr (.inl x)), (3, .inl y1), (4, .inl y2), (5, .inl y3), (6, .inl y4)], [.inl b2], t0, n, 0) _
  refine gx_1f (c := .ne) rfl (by first | decide | omega) (show ¬ (b2 ≠ 0) from by omega) rfl ?_
  refine ex_go (S := (8, [(0, gx_r 212), (1, .inr (.inl x)), (3, .inl y1), (4, .inl y2), (5, .inl y3), (6, .inl y4)], [gx_r 212], t0, n, 0)) rfl (fun _ => rfl) rfl ?_
  refine gxo_ref (a := 212) (c := 213) rfl g0 rfl rfl rfl rfl rfl ?_
  refine ex_go (S := (12, [(0, gx_r 212), (1, .inr (.inl x)), (3, .inl y1), (4, .inl y2), (5, .inl y3), (6, .inl y4)], [gx_r 212, gx_r 213], t0, n, 0)) rfl (fun _ => rfl) rfl ?_
  refine gxo_get (a := 212) rfl g0 rfl rfl k5 rfl ?_
  refine ex_go (S := (16, [(0, gx_r 212), (1, .inr (.inl x)), (3, .inl y1), (4, .inl y2), (5, .inl y3), (6, .inl y4)], [.inr (.inl x), .inl c, gx_r 213], t0, n, 0)) rfl (fun _ => rfl) rfl ?_
  refine gx_apv (d := 1) rfl (fun _ => rfl) g0 rfl rfl rfl (show c < 5 from by omega) (gx_run1 (show c < 5 from hc)) ⟨_, rfl⟩ rfl (fun t104 g104 k104 e104 => ?_)
  have k5 : ai_hv t104 212 5 = some (.inl c) := (e104 212 5 (by first | decide | omega)).trans k5
  refine ex_go (S := (18, [(0, gx_r 212), (1, .inr (.inl x)), (3, .inl y1), (4, .inl y2), (5, .inl y3), (6, .inl y4)], [gx_r 212], t104, n, 0)) rfl (fun _ => rfl) rfl ?_
  refine gxo_ref (a := 212) (c := 214) rfl g104 rfl rfl rfl rfl rfl ?_
  refine ex_go (S := (22, [(0, gx_r 212), (1, .inr (.inl x)), (3, .inl y1), (4, .inl y2), (5, .inl y3), (6, .inl y4)], [gx_r 212, gx_r 214], t104, n, 0)) rfl (fun _ => rfl) rfl ?_
  refine gxo_get (a := 212) rfl g104 rfl rfl k5 rfl ?_
  refine ex_go (S := (26, [(0, gx_r 212), (1, .inr (.inl x)), (3, .inl y1), (4, .inl y2), (5, .inl y3), (6, .inl y4)], [.inl y1, .inl c, gx_r 214], t104, n, 0)) rfl (fun _ => rfl) rfl ?_
  refine gx_ap rfl (fun _ => rfl) g104 rfl rfl rfl (show c < 5 from by omega) (gx_run1 (show c < 5 from hc)) (ai_in_h (by first | decide | omega) (by first | decide | omega) (by first | decide | omega)) rfl (fun t106 g106 k106 e106 => ?_)
  have k7 : ai_hv t106 212 5 = some (.inl c) := (e106 212 5 (by first | decide | omega)).trans k5
  have k8 : ai_hv t106 213 c = some (.inr (.inl x)) := (e106 213 c (by first | decide | omega)).trans k104
  refine ex_go (S := (28, [(0, gx_r 212), (1, .inr (.inl x)), (3, .inl y1), (4, .inl y2), (5, .inl y3), (6, .inl y4)], [gx_r 212], t106, n, 0)) rfl (fun _ => rfl) rfl ?_
  refine gxo_ref (a := 212) (c := 215) rfl g106 rfl rfl rfl rfl rfl ?_
  refine ex_go (S := (32, [(0, gx_r 212), (1, .inr (.inl x)), (3, .inl y1), (4, .inl y2), (5, .inl y3), (6, .inl y4)], [gx_r 212, gx_r 215], t106, n, 0)) rfl (fun _ => rfl) rfl ?_
  refine gxo_get (a := 212) rfl g106 rfl rfl k7 rfl ?_
  refine ex_go (S := (37, [(0, gx_r 212), (1, .inr (.inl x)), (3, .inl y1), (4, .inl y2), (5, .inl y3), (6, .inl y4)], [.inl y2, .inl c, gx_r 215], t106, n, 0)) rfl (fun _ => rfl) rfl ?_
  refine gx_ap rfl (fun _ => rfl) g106 rfl rfl rfl (show c < 5 from by omega) (gx_run1 (show c < 5 from hc)) (ai_in_h (by first | decide | omega) (by first | decide | omega) (by first | decide | omega)) rfl (fun t109 g109 k109 e109 => ?_)
  have k10 : ai_hv t109 212 5 = some (.inl c) := (e109 212 5 (by first | decide | omega)).trans k7
  have k11 : ai_hv t109 213 c = some (.inr (.inl x)) := (e109 213 c (by first | decide | omega)).trans k8
  have k12 : ai_hv t109 214 c = some (.inl y1) := (e109 214 c (by first | decide | omega)).trans k106
  refine ex_go (S := (39, [(0, gx_r 212), (1, .inr (.inl x)), (3, .inl y1), (4, .inl y2), (5, .inl y3), (6, .inl y4)], [gx_r 212], t109, n, 0)) rfl (fun _ => rfl) rfl ?_
  refine gxo_ref (a := 212) (c := 216) rfl g109 rfl rfl rfl rfl rfl ?_
  refine ex_go (S := (43, [(0, gx_r 212), (1, .inr (.inl x)), (3, .inl y1), (4, .inl y2), (5, .inl y3), (6, .inl y4)], [gx_r 212, gx_r 216], t109, n, 0)) rfl (fun _ => rfl) rfl ?_
  refine gxo_get (a := 212) rfl g109 rfl rfl k10 rfl ?_
  refine ex_go (S := (48, [(0, gx_r 212), (1, .inr (.inl x)), (3, .inl y1), (4, .inl y2), (5, .inl y3), (6, .inl y4)], [.inl y3, .inl c, gx_r 216], t109, n, 0)) rfl (fun _ => rfl) rfl ?_
  refine gx_ap rfl (fun _ => rfl) g109 rfl rfl rfl (show c < 5 from by omega) (gx_run1 (show c < 5 from hc)) (ai_in_h (by first | decide | omega) (by first | decide | omega) (by first | decide | omega)) rfl (fun t113 g113 k113 e113 => ?_)
  have k14 : ai_hv t113 212 5 = some (.inl c) := (e113 212 5 (by first | decide | omega)).trans k10
  have k15 : ai_hv t113 213 c = some (.inr (.inl x)) := (e113 213 c (by first | decide | omega)).trans k11
  have k16 : ai_hv t113 214 c = some (.inl y1) := (e113 214 c (by first | decide | omega)).trans k12
  have k17 : ai_hv t113 215 c = some (.inl y2) := (e113 215 c (by first | decide | omega)).trans k109
  refine ex_go (S := (50, [(0, gx_r 212), (1, .inr (.inl x)), (3, .inl y1), (4, .inl y2), (5, .inl y3), (6, .inl y4)], [gx_r 212], t113, n, 0)) rfl (fun _ => rfl) rfl ?_
  refine gxo_ref (a := 212) (c := 217) rfl g113 rfl rfl rfl rfl rfl ?_
  refine ex_go (S := (54, [(0, gx_r 212), (1, .inr (.inl x)), (3, .inl y1), (4, .inl y2), (5, .inl y3), (6, .inl y4)], [gx_r 212, gx_r 217], t113, n, 0)) rfl (fun _ => rfl) rfl ?_
  refine gxo_get (a := 212) rfl g113 rfl rfl k14 rfl ?_
  refine ex_go (S := (59, [(0, gx_r 212), (1, .inr (.inl x)), (3, .inl y1), (4, .inl y2), (5, .inl y3), (6, .inl y4)], [.inl y4, .inl c, gx_r 217], t113, n, 0)) rfl (fun _ => rfl) rfl ?_
  refine gx_ap rfl (fun _ => rfl) g113 rfl rfl rfl (show c < 5 from by omega) (gx_run1 (show c < 5 from hc)) (ai_in_h (by first | decide | omega) (by first | decide | omega) (by first | decide | omega)) rfl (fun t118 g118 k118 e118 => ?_)
  have k19 : ai_hv t118 212 5 = some (.inl c) := (e118 212 5 (by first | decide | omega)).trans k14
  have k20 : ai_hv t118 213 c = some (.inr (.inl x)) := (e118 213 c (by first | decide | omega)).trans k15
  have k21 : ai_hv t118 214 c = some (.inl y1) := (e118 214 c (by first | decide | omega)).trans k16
  have k22 : ai_hv t118 215 c = some (.inl y2) := (e118 215 c (by first | decide | omega)).trans k17
  have k23 : ai_hv t118 216 c = some (.inl y3) := (e118 216 c (by first | decide | omega)).trans k113
  refine ex_go (S := (61, [(0, gx_r 212), (1, .inr (.inl x)), (3, .inl y1), (4, .inl y2), (5, .inl y3), (6, .inl y4)], [gx_r 212], t118, n, 0)) rfl (fun _ => rfl) rfl ?_
  refine ex_go (S := (62, [(0, gx_r 212), (1, .inr (.inl x)), (3, .inl y1), (4, .inl y2), (5, .inl y3), (6, .inl y4)], [gx_r 212, gx_r 212], t118, n, 0)) rfl (fun _ => rfl) rfl ?_
  refine gxo_get (a := 212) rfl g118 rfl rfl k19 rfl ?_
  refine ex_go (S := (66, [(0, gx_r 212), (1, .inr (.inl x)), (3, .inl y1), (4, .inl y2), (5, .inl y3), (6, .inl y4)], [.inl 1, .inl c, gx_r 212], t118, n, 0)) rfl (fun _ => rfl) rfl ?_
  refine ex_iadd rfl (by first | decide | omega) rfl ?_
  refine gxo_put (a := 212) rfl g118 rfl rfl rfl (ai_in_h (by first | decide | omega) (by first | decide | omega) (by first | decide | omega)) rfl (fun t124 g124 k124 e124 => ?_)
  have k25 : ai_hv t124 213 c = some (.inr (.inl x)) := (e124 213 c (by first | decide | omega)).trans k20
  have k26 : ai_hv t124 214 c = some (.inl y1) := (e124 214 c (by first | decide | omega)).trans k21
  have k27 : ai_hv t124 215 c = some (.inl y2) := (e124 215 c (by first | decide | omega)).trans k22
  have k28 : ai_hv t124 216 c = some (.inl y3) := (e124 216 c (by first | decide | omega)).trans k23
  have k29 : ai_hv t124 217 c = some (.inl y4) := (e124 217 c (by first | decide | omega)).trans k118
  refine ex_ret (r := (none, t124, n, 0)) rfl (fun _ => rfl) ?_
  exact ⟨_, rfl, t124, rfl, g124, (fun c' i h => (e124 c' i (by first | decide | omega)).trans ((e118 c' i (by first | decide | omega)).trans ((e113 c' i (by first | decide | omega)).trans ((e109 c' i (by first | decide | omega)).trans ((e106 c' i (by first | decide | omega)).trans (e104 c' i (by first | decide | omega))))))), k124, k25, k26, k27, k28, k29⟩
theorem pc_find212_l {fn : en_F} {n c x : Nat} {t0 : en_H} {w : Nat → Nat} (g0 : ai_HG ah_G t0) (k5 : ai_hv t0 212 5 = some (.inl c)) (hc : c ≤ 5) (hn : ∀ i, i < c → ai_hv t0 213 i = some (.inr (.inl (w i)))) : ∀ j k, k + j = c → en_ex none fn (en_code 274) (fun _ => false) (2, [(3, .inl k), (0, gx_r 212), (1, .inr (.inl x))], [], t0, n, 0) (fun o => ∃ r, o = .inl r ∧ ∃ b, r = (some (.inl b), t0, n, 0) ∧ ((sp_fi (fun i => nq (w i) x) j k < c ∧ b = sp_fi (fun i => nq (w i) x) j k) ∨ (sp_fi (fun i => nq (w i) x) j k = c ∧ b = 4294967295))) := by
  intro j
  induction j with
  | zero =>
    intro k hk
    refine ex_go (S := (3, [(3, .inl k), (0, gx_r 212), (1, .inr (.inl x))], [.inl k], t0, n, 0)) rfl (fun _ => rfl) rfl ?_
    refine ex_go (S := (4, [(3, .inl k), (0, gx_r 212), (1, .inr (.inl x))], [gx_r 212, .inl k], t0, n, 0)) rfl (fun _ => rfl) rfl ?_
    refine gxo_get (a := 212) rfl g0 rfl rfl k5 rfl ?_
    refine gx_2t (c := .ge) rfl (by first | decide | omega) (by first | decide | omega) (show c ≤ k from by omega) rfl ?_
    refine ex_go (S := (30, [(3, .inl k), (0, gx_r 212), (1, .inr (.inl x))], [.inl 4294967295], t0, n, 0)) rfl (fun _ => rfl) rfl ?_
    refine ex_ret (r := (some (.inl 4294967295), t0, n, 0)) rfl (fun _ => rfl) ?_
    exact ⟨_, rfl, _, rfl, Or.inr ⟨by show k = _; omega, rfl⟩⟩
  | succ j ih =>
    intro k hk
    have kn := hn k (by first | decide | omega)
    refine ex_go (S := (3, [(3, .inl k), (0, gx_r 212), (1, .inr (.inl x))], [.inl k], t0, n, 0)) rfl (fun _ => rfl) rfl ?_
    refine ex_go (S := (4, [(3, .inl k), (0, gx_r 212), (1, .inr (.inl x))], [gx_r 212, .inl k], t0, n, 0)) rfl (fun _ => rfl) rfl ?_
    refine gxo_get (a := 212) rfl g0 rfl rfl k5 rfl ?_
    refine gx_2f (c := .ge) rfl (by first | decide | omega) (by first | decide | omega) (show ¬ (c ≤ k) from by omega) rfl ?_
    refine ex_go (S := (11, [(3, .inl k), (0, gx_r 212), (1, .inr (.inl x))], [gx_r 212], t0, n, 0)) rfl (fun _ => rfl) rfl ?_
    refine gxo_ref (a := 212) (c := 213) rfl g0 rfl rfl rfl rfl rfl ?_
    refine ex_go (S := (15, [(3, .inl k), (0, gx_r 212), (1, .inr (.inl x))], [.inl k, gx_r 213], t0, n, 0)) rfl (fun _ => rfl) rfl ?_
    refine gx_ag (v := .inr (.inl (w k))) (cb := fun c => Nat.beq c 3) rfl (fun _ => rfl) g0 rfl rfl kn (by first | decide | omega) rfl ?_
    refine ex_go (S := (17, [(3, .inl k), (0, gx_r 212), (1, .inr (.inl x))], [.inr (.inl x), .inr (.inl (w k))], t0, n, 0)) rfl (fun _ => rfl) rfl ?_
    refine gx_lcmp rfl rfl (fun hl1 => ?_) (fun hl1 => ?_) (fun hl1 => ?_)
    · refine ex_go (S := (21, [(3, .inl k), (0, gx_r 212), (1, .inr (.inl x))], [], t0, n, 0)) rfl (fun _ => rfl) rfl ?_
      refine ex_go (S := (22, [(3, .inl k), (0, gx_r 212), (1, .inr (.inl x))], [.inl k], t0, n, 0)) rfl (fun _ => rfl) rfl ?_
      refine ex_ret (r := (some (.inl k), t0, n, 0)) rfl (fun _ => rfl) ?_
      have z9 : sp_fi (fun i => nq (w i) x) (j + 1) k = k := cif_t (show (lN (w k)).toInt = (lN x).toInt by omega)
      rw [z9]
      exact ⟨_, rfl, _, rfl, Or.inl ⟨by omega, rfl⟩⟩
    · refine ex_go (S := (23, [(3, .inl k), (0, gx_r 212), (1, .inr (.inl x))], [], t0, n, 0)) rfl (fun _ => rfl) rfl ?_
      refine gx_iinc (i := 3) (k := 1) rfl (fun _ => rfl) (by first | decide | omega) rfl ?_
      show en_ex _ _ _ _ (26, [(3, .inl (k + 1)), (0, gx_r 212), (1, .inr (.inl x))], [], t0, n, 0) _
      refine ex_go (S := (2, [(3, .inl (k + 1)), (0, gx_r 212), (1, .inr (.inl x))], [], t0, n, 0)) rfl (fun _ => rfl) rfl ?_
      have z9 : sp_fi (fun i => nq (w i) x) (j + 1) k = sp_fi (fun i => nq (w i) x) j (k + 1) := cif_f (fun z => by have z : (lN (w k)).toInt = (lN x).toInt := z; omega)
      rw [z9]
      exact ih (k + 1) (by first | decide | omega)
    · refine ex_go (S := (23, [(3, .inl k), (0, gx_r 212), (1, .inr (.inl x))], [], t0, n, 0)) rfl (fun _ => rfl) rfl ?_
      refine gx_iinc (i := 3) (k := 1) rfl (fun _ => rfl) (by first | decide | omega) rfl ?_
      show en_ex _ _ _ _ (26, [(3, .inl (k + 1)), (0, gx_r 212), (1, .inr (.inl x))], [], t0, n, 0) _
      refine ex_go (S := (2, [(3, .inl (k + 1)), (0, gx_r 212), (1, .inr (.inl x))], [], t0, n, 0)) rfl (fun _ => rfl) rfl ?_
      have z9 : sp_fi (fun i => nq (w i) x) (j + 1) k = sp_fi (fun i => nq (w i) x) j (k + 1) := cif_f (fun z => by have z : (lN (w k)).toInt = (lN x).toInt := z; omega)
      rw [z9]
      exact ih (k + 1) (by first | decide | omega)
theorem pc_find212 (d n : Nat) {c x : Nat} {t0 : en_H} {w : Nat → Nat} (g0 : ai_HG ah_G t0) (k5 : ai_hv t0 212 5 = some (.inl c)) (hc : c ≤ 5) (hn : ∀ i, i < c → ai_hv t0 213 i = some (.inr (.inl (w i)))) : ∃ r, en_u (d + 1) 274 [gx_r 212, .inr (.inl x)] t0 n = some r ∧ ∃ b, r = (some (.inl b), t0, n, 0) ∧ ((sp_fi (fun i => nq (w i) x) c 0 < c ∧ b = sp_fi (fun i => nq (w i) x) c 0) ∨ (sp_fi (fun i => nq (w i) x) c 0 = c ∧ b = 4294967295)) := by
  refine en_u_ex rfl ?_
  show en_ex _ _ _ _ (0, [(0, gx_r 212), (1, .inr (.inl x))], [], t0, n, 0) _
  refine ex_go (S := (1, [(0, gx_r 212), (1, .inr (.inl x))], [.inl 0], t0, n, 0)) rfl (fun _ => rfl) rfl ?_
  refine ex_go (S := (2, [(3, .inl 0), (0, gx_r 212), (1, .inr (.inl x))], [], t0, n, 0)) rfl (fun _ => rfl) rfl ?_
  exact pc_find212_l g0 k5 hc hn c 0 (by first | decide | omega)
theorem pc_isFull218 (d n : Nat) {c : Nat} {t0 : en_H} (g0 : ai_HG ah_G t0) (k5 : ai_hv t0 218 5 = some (.inl c)) (hc : c ≤ 6) : ∃ r, en_u (d + 1) 272 [gx_r 218] t0 n = some r ∧ ∃ b, r = (some (.inl b), t0, n, 0) ∧ b ≤ 1 ∧ (b = 1 ↔ c = 6) := by
  refine en_u_ex rfl ?_
  show en_ex _ _ _ _ (0, [(0, gx_r 218)], [], t0, n, 0) _
  refine ex_go (S := (1, [(0, gx_r 218)], [gx_r 218], t0, n, 0)) rfl (fun _ => rfl) rfl ?_
  refine gxo_get (a := 218) rfl g0 rfl rfl k5 rfl ?_
  refine ex_go (S := (5, [(0, gx_r 218)], [gx_r 218, .inl c], t0, n, 0)) rfl (fun _ => rfl) rfl ?_
  refine gxo_ref (a := 218) (c := 219) rfl g0 rfl rfl rfl rfl rfl ?_
  refine gx_alen (a := 219) (m := 6) rfl g0 rfl rfl rfl ?_
  by_cases hc1 : c < 6
  · refine gx_2t (c := .lt) rfl (by first | decide | omega) (by first | decide | omega) hc1 rfl ?_
    refine ex_go (S := (17, [(0, gx_r 218)], [.inl 0], t0, n, 0)) rfl (fun _ => rfl) rfl ?_
    refine ex_ret (r := (some (.inl 0), t0, n, 0)) rfl (fun _ => rfl) ?_
    exact ⟨_, rfl, 0, rfl, by omega⟩
  · refine gx_2f (c := .lt) rfl (by first | decide | omega) (by first | decide | omega) hc1 rfl ?_
    refine ex_go (S := (13, [(0, gx_r 218)], [.inl 1], t0, n, 0)) rfl (fun _ => rfl) rfl ?_
    refine ex_go (S := (17, [(0, gx_r 218)], [.inl 1], t0, n, 0)) rfl (fun _ => rfl) rfl ?_
    refine ex_ret (r := (some (.inl 1), t0, n, 0)) rfl (fun _ => rfl) ?_
    exact ⟨_, rfl, 1, rfl, by omega⟩
theorem pc_add218 (d n : Nat) {c x y1 y2 y3 y4 : Nat} {t0 : en_H} (g0 : ai_HG ah_G t0) (k5 : ai_hv t0 218 5 = some (.inl c)) (hc : c < 6) (h1 : 0 ≤ y1 ∧ y1 ≤ 99) (h2 : 0 ≤ y2 ∧ y2 ≤ 0) (h3 : 0 ≤ y3 ∧ y3 ≤ 0) (h4 : 0 ≤ y4 ∧ y4 ≤ 0) : ∃ r, en_u (d + 2) 273 [gx_r 218, .inr (.inl x), .inl y1, .inl y2, .inl y3, .inl y4] t0 n = some r ∧ ∃ t', r = (none, t', n, 0) ∧ ai_HG ah_G t' ∧ (∀ c' i, ¬ ((c' = 218 ∧ i = 5) ∨ ((c' = 219 ∨ c' = 220 ∨ c' = 221 ∨ c' = 222 ∨ c' = 223) ∧ i = c)) → ai_hv t' c' i = ai_hv t0 c' i) ∧ ai_hv t' 218 5 = some (.inl (c + 1)) ∧ ai_hv t' 219 c = some (.inr (.inl x)) ∧ ai_hv t' 220 c = some (.inl y1) ∧ ai_hv t' 221 c = some (.inl y2) ∧ ai_hv t' 222 c = some (.inl y3) ∧ ai_hv t' 223 c = some (.inl y4) := by
  refine en_u_ex (d := d + 1) rfl ?_
  show en_ex _ _ _ _ (0, [(0, gx_r 218), (1, .inr (.inl x)), (3, .inl y1), (4, .inl y2), (5, .inl y3), (6, .inl y4)], [], t0, n, 0) _
  refine ex_go (S := (1, [(0, gx_r 218), (1, .inr (.inl x)), (3, .inl y1), (4, .inl y2), (5, .inl y3), (6, .inl y4)], [gx_r 218], t0, n, 0)) rfl (fun _ => rfl) rfl ?_
  obtain ⟨_, r1, b2, rfl, q3⟩ := pc_isFull218 (d) n g0 k5 (by first | decide | omega)
  refine gx_callo (a := 218) rfl rfl g0 rfl rfl rfl r1 rfl ?_
  show en_ex _ _ _ _ (4, [(0, gx_r 218), (1, .inr (.inl x)), (3, .inl y1), (4, .inl y2), (5, .inl y3), (6, .inl y4)], [.inl b2], t0, n, 0) _
  refine gx_1f (c := .ne) rfl (by first | decide | omega) (show ¬ (b2 ≠ 0) from by omega) rfl ?_
  refine ex_go (S := (8, [(0, gx_r 218), (1, .inr (.inl x)), (3, .inl y1), (4, .inl y2), (5, .inl y3), (6, .inl y4)], [gx_r 218], t0, n, 0)) rfl (fun _ => rfl) rfl ?_
  refine gxo_ref (a := 218) (c := 219) rfl g0 rfl rfl rfl rfl rfl ?_
  refine ex_go (S := (12, [(0, gx_r 218), (1, .inr (.inl x)), (3, .inl y1), (4, .inl y2), (5, .inl y3), (6, .inl y4)], [gx_r 218, gx_r 219], t0, n, 0)) rfl (fun _ => rfl) rfl ?_
  refine gxo_get (a := 218) rfl g0 rfl rfl k5 rfl ?_
  refine ex_go (S := (16, [(0, gx_r 218), (1, .inr (.inl x)), (3, .inl y1), (4, .inl y2), (5, .inl y3), (6, .inl y4)], [.inr (.inl x), .inl c, gx_r 219], t0, n, 0)) rfl (fun _ => rfl) rfl ?_
  refine gx_apv (d := 1) rfl (fun _ => rfl) g0 rfl rfl rfl (show c < 6 from by omega) (gx_run1 (show c < 6 from hc)) ⟨_, rfl⟩ rfl (fun t104 g104 k104 e104 => ?_)
  have k5 : ai_hv t104 218 5 = some (.inl c) := (e104 218 5 (by first | decide | omega)).trans k5
  refine ex_go (S := (18, [(0, gx_r 218), (1, .inr (.inl x)), (3, .inl y1), (4, .inl y2), (5, .inl y3), (6, .inl y4)], [gx_r 218], t104, n, 0)) rfl (fun _ => rfl) rfl ?_
  refine gxo_ref (a := 218) (c := 220) rfl g104 rfl rfl rfl rfl rfl ?_
  refine ex_go (S := (22, [(0, gx_r 218), (1, .inr (.inl x)), (3, .inl y1), (4, .inl y2), (5, .inl y3), (6, .inl y4)], [gx_r 218, gx_r 220], t104, n, 0)) rfl (fun _ => rfl) rfl ?_
  refine gxo_get (a := 218) rfl g104 rfl rfl k5 rfl ?_
  refine ex_go (S := (26, [(0, gx_r 218), (1, .inr (.inl x)), (3, .inl y1), (4, .inl y2), (5, .inl y3), (6, .inl y4)], [.inl y1, .inl c, gx_r 220], t104, n, 0)) rfl (fun _ => rfl) rfl ?_
  refine gx_ap rfl (fun _ => rfl) g104 rfl rfl rfl (show c < 6 from by omega) (gx_run1 (show c < 6 from hc)) (ai_in_h (by first | decide | omega) (by first | decide | omega) (by first | decide | omega)) rfl (fun t106 g106 k106 e106 => ?_)
  have k7 : ai_hv t106 218 5 = some (.inl c) := (e106 218 5 (by first | decide | omega)).trans k5
  have k8 : ai_hv t106 219 c = some (.inr (.inl x)) := (e106 219 c (by first | decide | omega)).trans k104
  refine ex_go (S := (28, [(0, gx_r 218), (1, .inr (.inl x)), (3, .inl y1), (4, .inl y2), (5, .inl y3), (6, .inl y4)], [gx_r 218], t106, n, 0)) rfl (fun _ => rfl) rfl ?_
  refine gxo_ref (a := 218) (c := 221) rfl g106 rfl rfl rfl rfl rfl ?_
  refine ex_go (S := (32, [(0, gx_r 218), (1, .inr (.inl x)), (3, .inl y1), (4, .inl y2), (5, .inl y3), (6, .inl y4)], [gx_r 218, gx_r 221], t106, n, 0)) rfl (fun _ => rfl) rfl ?_
  refine gxo_get (a := 218) rfl g106 rfl rfl k7 rfl ?_
  refine ex_go (S := (37, [(0, gx_r 218), (1, .inr (.inl x)), (3, .inl y1), (4, .inl y2), (5, .inl y3), (6, .inl y4)], [.inl y2, .inl c, gx_r 221], t106, n, 0)) rfl (fun _ => rfl) rfl ?_
  refine gx_ap rfl (fun _ => rfl) g106 rfl rfl rfl (show c < 6 from by omega) (gx_run1 (show c < 6 from hc)) (ai_in_h (by first | decide | omega) (by first | decide | omega) (by first | decide | omega)) rfl (fun t109 g109 k109 e109 => ?_)
  have k10 : ai_hv t109 218 5 = some (.inl c) := (e109 218 5 (by first | decide | omega)).trans k7
  have k11 : ai_hv t109 219 c = some (.inr (.inl x)) := (e109 219 c (by first | decide | omega)).trans k8
  have k12 : ai_hv t109 220 c = some (.inl y1) := (e109 220 c (by first | decide | omega)).trans k106
  refine ex_go (S := (39, [(0, gx_r 218), (1, .inr (.inl x)), (3, .inl y1), (4, .inl y2), (5, .inl y3), (6, .inl y4)], [gx_r 218], t109, n, 0)) rfl (fun _ => rfl) rfl ?_
  refine gxo_ref (a := 218) (c := 222) rfl g109 rfl rfl rfl rfl rfl ?_
  refine ex_go (S := (43, [(0, gx_r 218), (1, .inr (.inl x)), (3, .inl y1), (4, .inl y2), (5, .inl y3), (6, .inl y4)], [gx_r 218, gx_r 222], t109, n, 0)) rfl (fun _ => rfl) rfl ?_
  refine gxo_get (a := 218) rfl g109 rfl rfl k10 rfl ?_
  refine ex_go (S := (48, [(0, gx_r 218), (1, .inr (.inl x)), (3, .inl y1), (4, .inl y2), (5, .inl y3), (6, .inl y4)], [.inl y3, .inl c, gx_r 222], t109, n, 0)) rfl (fun _ => rfl) rfl ?_
  refine gx_ap rfl (fun _ => rfl) g109 rfl rfl rfl (show c < 6 from by omega) (gx_run1 (show c < 6 from hc)) (ai_in_h (by first | decide | omega) (by first | decide | omega) (by first | decide | omega)) rfl (fun t113 g113 k113 e113 => ?_)
  have k14 : ai_hv t113 218 5 = some (.inl c) := (e113 218 5 (by first | decide | omega)).trans k10
  have k15 : ai_hv t113 219 c = some (.inr (.inl x)) := (e113 219 c (by first | decide | omega)).trans k11
  have k16 : ai_hv t113 220 c = some (.inl y1) := (e113 220 c (by first | decide | omega)).trans k12
  have k17 : ai_hv t113 221 c = some (.inl y2) := (e113 221 c (by first | decide | omega)).trans k109
  refine ex_go (S := (50, [(0, gx_r 218), (1, .inr (.inl x)), (3, .inl y1), (4, .inl y2), (5, .inl y3), (6, .inl y4)], [gx_r 218], t113, n, 0)) rfl (fun _ => rfl) rfl ?_
  refine gxo_ref (a := 218) (c := 223) rfl g113 rfl rfl rfl rfl rfl ?_
  refine ex_go (S := (54, [(0, gx_r 218), (1, .inr (.inl x)), (3, .inl y1), (4, .inl y2), (5, .inl y3), (6, .inl y4)], [gx_r 218, gx_r 223], t113, n, 0)) rfl (fun _ => rfl) rfl ?_
  refine gxo_get (a := 218) rfl g113 rfl rfl k14 rfl ?_
  refine ex_go (S := (59, [(0, gx_r 218), (1, .inr (.inl x)), (3, .inl y1), (4, .inl y2), (5, .inl y3), (6, .inl y4)], [.inl y4, .inl c, gx_r 223], t113, n, 0)) rfl (fun _ => rfl) rfl ?_
  refine gx_ap rfl (fun _ => rfl) g113 rfl rfl rfl (show c < 6 from by omega) (gx_run1 (show c < 6 from hc)) (ai_in_h (by first | decide | omega) (by first | decide | omega) (by first | decide | omega)) rfl (fun t118 g118 k118 e118 => ?_)
  have k19 : ai_hv t118 218 5 = some (.inl c) := (e118 218 5 (by first | decide | omega)).trans k14
  have k20 : ai_hv t118 219 c = some (.inr (.inl x)) := (e118 219 c (by first | decide | omega)).trans k15
  have k21 : ai_hv t118 220 c = some (.inl y1) := (e118 220 c (by first | decide | omega)).trans k16
  have k22 : ai_hv t118 221 c = some (.inl y2) := (e118 221 c (by first | decide | omega)).trans k17
  have k23 : ai_hv t118 222 c = some (.inl y3) := (e118 222 c (by first | decide | omega)).trans k113
  refine ex_go (S := (61, [(0, gx_r 218), (1, .inr (.inl x)), (3, .inl y1), (4, .inl y2), (5, .inl y3), (6, .inl y4)], [gx_r 218], t118, n, 0)) rfl (fun _ => rfl) rfl ?_
  refine ex_go (S := (62, [(0, gx_r 218), (1, .inr (.inl x)), (3, .inl y1), (4, .inl y2), (5, .inl y3), (6, .inl y4)], [gx_r 218, gx_r 218], t118, n, 0)) rfl (fun _ => rfl) rfl ?_
  refine gxo_get (a := 218) rfl g118 rfl rfl k19 rfl ?_
  refine ex_go (S := (66, [(0, gx_r 218), (1, .inr (.inl x)), (3, .inl y1), (4, .inl y2), (5, .inl y3), (6, .inl y4)], [.inl 1, .inl c, gx_r 218], t118, n, 0)) rfl (fun _ => rfl) rfl ?_
  refine ex_iadd rfl (by first | decide | omega) rfl ?_
  refine gxo_put (a := 218) rfl g118 rfl rfl rfl (ai_in_h (by first | decide | omega) (by first | decide | omega) (by first | decide | omega)) rfl (fun t124 g124 k124 e124 => ?_)
  have k25 : ai_hv t124 219 c = some (.inr (.inl x)) := (e124 219 c (by first | decide | omega)).trans k20
  have k26 : ai_hv t124 220 c = some (.inl y1) := (e124 220 c (by first | decide | omega)).trans k21
  have k27 : ai_hv t124 221 c = some (.inl y2) := (e124 221 c (by first | decide | omega)).trans k22
  have k28 : ai_hv t124 222 c = some (.inl y3) := (e124 222 c (by first | decide | omega)).trans k23
  have k29 : ai_hv t124 223 c = some (.inl y4) := (e124 223 c (by first | decide | omega)).trans k118
  refine ex_ret (r := (none, t124, n, 0)) rfl (fun _ => rfl) ?_
  exact ⟨_, rfl, t124, rfl, g124, (fun c' i h => (e124 c' i (by first | decide | omega)).trans ((e118 c' i (by first | decide | omega)).trans ((e113 c' i (by first | decide | omega)).trans ((e109 c' i (by first | decide | omega)).trans ((e106 c' i (by first | decide | omega)).trans (e104 c' i (by first | decide | omega))))))), k124, k25, k26, k27, k28, k29⟩
theorem pc_find218_l {fn : en_F} {n c x : Nat} {t0 : en_H} {w : Nat → Nat} (g0 : ai_HG ah_G t0) (k5 : ai_hv t0 218 5 = some (.inl c)) (hc : c ≤ 6) (hn : ∀ i, i < c → ai_hv t0 219 i = some (.inr (.inl (w i)))) : ∀ j k, k + j = c → en_ex none fn (en_code 274) (fun _ => false) (2, [(3, .inl k), (0, gx_r 218), (1, .inr (.inl x))], [], t0, n, 0) (fun o => ∃ r, o = .inl r ∧ ∃ b, r = (some (.inl b), t0, n, 0) ∧ ((sp_fi (fun i => nq (w i) x) j k < c ∧ b = sp_fi (fun i => nq (w i) x) j k) ∨ (sp_fi (fun i => nq (w i) x) j k = c ∧ b = 4294967295))) := by
  intro j
  induction j with
  | zero =>
    intro k hk
    refine ex_go (S := (3, [(3, .inl k), (0, gx_r 218), (1, .inr (.inl x))], [.inl k], t0, n, 0)) rfl (fun _ => rfl) rfl ?_
    refine ex_go (S := (4, [(3, .inl k), (0, gx_r 218), (1, .inr (.inl x))], [gx_r 218, .inl k], t0, n, 0)) rfl (fun _ => rfl) rfl ?_
    refine gxo_get (a := 218) rfl g0 rfl rfl k5 rfl ?_
    refine gx_2t (c := .ge) rfl (by first | decide | omega) (by first | decide | omega) (show c ≤ k from by omega) rfl ?_
    refine ex_go (S := (30, [(3, .inl k), (0, gx_r 218), (1, .inr (.inl x))], [.inl 4294967295], t0, n, 0)) rfl (fun _ => rfl) rfl ?_
    refine ex_ret (r := (some (.inl 4294967295), t0, n, 0)) rfl (fun _ => rfl) ?_
    exact ⟨_, rfl, _, rfl, Or.inr ⟨by show k = _; omega, rfl⟩⟩
  | succ j ih =>
    intro k hk
    have kn := hn k (by first | decide | omega)
    refine ex_go (S := (3, [(3, .inl k), (0, gx_r 218), (1, .inr (.inl x))], [.inl k], t0, n, 0)) rfl (fun _ => rfl) rfl ?_
    refine ex_go (S := (4, [(3, .inl k), (0, gx_r 218), (1, .inr (.inl x))], [gx_r 218, .inl k], t0, n, 0)) rfl (fun _ => rfl) rfl ?_
    refine gxo_get (a := 218) rfl g0 rfl rfl k5 rfl ?_
    refine gx_2f (c := .ge) rfl (by first | decide | omega) (by first | decide | omega) (show ¬ (c ≤ k) from by omega) rfl ?_
    refine ex_go (S := (11, [(3, .inl k), (0, gx_r 218), (1, .inr (.inl x))], [gx_r 218], t0, n, 0)) rfl (fun _ => rfl) rfl ?_
    refine gxo_ref (a := 218) (c := 219) rfl g0 rfl rfl rfl rfl rfl ?_
    refine ex_go (S := (15, [(3, .inl k), (0, gx_r 218), (1, .inr (.inl x))], [.inl k, gx_r 219], t0, n, 0)) rfl (fun _ => rfl) rfl ?_
    refine gx_ag (v := .inr (.inl (w k))) (cb := fun c => Nat.beq c 3) rfl (fun _ => rfl) g0 rfl rfl kn (by first | decide | omega) rfl ?_
    refine ex_go (S := (17, [(3, .inl k), (0, gx_r 218), (1, .inr (.inl x))], [.inr (.inl x), .inr (.inl (w k))], t0, n, 0)) rfl (fun _ => rfl) rfl ?_
    refine gx_lcmp rfl rfl (fun hl1 => ?_) (fun hl1 => ?_) (fun hl1 => ?_)
    · refine ex_go (S := (21, [(3, .inl k), (0, gx_r 218), (1, .inr (.inl x))], [], t0, n, 0)) rfl (fun _ => rfl) rfl ?_
      refine ex_go (S := (22, [(3, .inl k), (0, gx_r 218), (1, .inr (.inl x))], [.inl k], t0, n, 0)) rfl (fun _ => rfl) rfl ?_
      refine ex_ret (r := (some (.inl k), t0, n, 0)) rfl (fun _ => rfl) ?_
      have z9 : sp_fi (fun i => nq (w i) x) (j + 1) k = k := cif_t (show (lN (w k)).toInt = (lN x).toInt by omega)
      rw [z9]
      exact ⟨_, rfl, _, rfl, Or.inl ⟨by omega, rfl⟩⟩
    · refine ex_go (S := (23, [(3, .inl k), (0, gx_r 218), (1, .inr (.inl x))], [], t0, n, 0)) rfl (fun _ => rfl) rfl ?_
      refine gx_iinc (i := 3) (k := 1) rfl (fun _ => rfl) (by first | decide | omega) rfl ?_
      show en_ex _ _ _ _ (26, [(3, .inl (k + 1)), (0, gx_r 218), (1, .inr (.inl x))], [], t0, n, 0) _
      refine ex_go (S := (2, [(3, .inl (k + 1)), (0, gx_r 218), (1, .inr (.inl x))], [], t0, n, 0)) rfl (fun _ => rfl) rfl ?_
      have z9 : sp_fi (fun i => nq (w i) x) (j + 1) k = sp_fi (fun i => nq (w i) x) j (k + 1) := cif_f (fun z => by have z : (lN (w k)).toInt = (lN x).toInt := z; omega)
      rw [z9]
      exact ih (k + 1) (by first | decide | omega)
    · refine ex_go (S := (23, [(3, .inl k), (0, gx_r 218), (1, .inr (.inl x))], [], t0, n, 0)) rfl (fun _ => rfl) rfl ?_
      refine gx_iinc (i := 3) (k := 1) rfl (fun _ => rfl) (by first | decide | omega) rfl ?_
      show en_ex _ _ _ _ (26, [(3, .inl (k + 1)), (0, gx_r 218), (1, .inr (.inl x))], [], t0, n, 0) _
      refine ex_go (S := (2, [(3, .inl (k + 1)), (0, gx_r 218), (1, .inr (.inl x))], [], t0, n, 0)) rfl (fun _ => rfl) rfl ?_
      have z9 : sp_fi (fun i => nq (w i) x) (j + 1) k = sp_fi (fun i => nq (w i) x) j (k + 1) := cif_f (fun z => by have z : (lN (w k)).toInt = (lN x).toInt := z; omega)
      rw [z9]
      exact ih (k + 1) (by first | decide | omega)
theorem pc_find218 (d n : Nat) {c x : Nat} {t0 : en_H} {w : Nat → Nat} (g0 : ai_HG ah_G t0) (k5 : ai_hv t0 218 5 = some (.inl c)) (hc : c ≤ 6) (hn : ∀ i, i < c → ai_hv t0 219 i = some (.inr (.inl (w i)))) : ∃ r, en_u (d + 1) 274 [gx_r 218, .inr (.inl x)] t0 n = some r ∧ ∃ b, r = (some (.inl b), t0, n, 0) ∧ ((sp_fi (fun i => nq (w i) x) c 0 < c ∧ b = sp_fi (fun i => nq (w i) x) c 0) ∨ (sp_fi (fun i => nq (w i) x) c 0 = c ∧ b = 4294967295)) := by
  refine en_u_ex rfl ?_
  show en_ex _ _ _ _ (0, [(0, gx_r 218), (1, .inr (.inl x))], [], t0, n, 0) _
  refine ex_go (S := (1, [(0, gx_r 218), (1, .inr (.inl x))], [.inl 0], t0, n, 0)) rfl (fun _ => rfl) rfl ?_
  refine ex_go (S := (2, [(3, .inl 0), (0, gx_r 218), (1, .inr (.inl x))], [], t0, n, 0)) rfl (fun _ => rfl) rfl ?_
  exact pc_find218_l g0 k5 hc hn c 0 (by first | decide | omega)
theorem pc_isFull224 (d n : Nat) {c : Nat} {t0 : en_H} (g0 : ai_HG ah_G t0) (k5 : ai_hv t0 224 5 = some (.inl c)) (hc : c ≤ 6) : ∃ r, en_u (d + 1) 272 [gx_r 224] t0 n = some r ∧ ∃ b, r = (some (.inl b), t0, n, 0) ∧ b ≤ 1 ∧ (b = 1 ↔ c = 6) := by
  refine en_u_ex rfl ?_
  show en_ex _ _ _ _ (0, [(0, gx_r 224)], [], t0, n, 0) _
  refine ex_go (S := (1, [(0, gx_r 224)], [gx_r 224], t0, n, 0)) rfl (fun _ => rfl) rfl ?_
  refine gxo_get (a := 224) rfl g0 rfl rfl k5 rfl ?_
  refine ex_go (S := (5, [(0, gx_r 224)], [gx_r 224, .inl c], t0, n, 0)) rfl (fun _ => rfl) rfl ?_
  refine gxo_ref (a := 224) (c := 225) rfl g0 rfl rfl rfl rfl rfl ?_
  refine gx_alen (a := 225) (m := 6) rfl g0 rfl rfl rfl ?_
  by_cases hc1 : c < 6
  · refine gx_2t (c := .lt) rfl (by first | decide | omega) (by first | decide | omega) hc1 rfl ?_
    refine ex_go (S := (17, [(0, gx_r 224)], [.inl 0], t0, n, 0)) rfl (fun _ => rfl) rfl ?_
    refine ex_ret (r := (some (.inl 0), t0, n, 0)) rfl (fun _ => rfl) ?_
    exact ⟨_, rfl, 0, rfl, by omega⟩
  · refine gx_2f (c := .lt) rfl (by first | decide | omega) (by first | decide | omega) hc1 rfl ?_
    refine ex_go (S := (13, [(0, gx_r 224)], [.inl 1], t0, n, 0)) rfl (fun _ => rfl) rfl ?_
    refine ex_go (S := (17, [(0, gx_r 224)], [.inl 1], t0, n, 0)) rfl (fun _ => rfl) rfl ?_
    refine ex_ret (r := (some (.inl 1), t0, n, 0)) rfl (fun _ => rfl) ?_
    exact ⟨_, rfl, 1, rfl, by omega⟩
theorem pc_add224 (d n : Nat) {c x y1 y2 y3 y4 : Nat} {t0 : en_H} (g0 : ai_HG ah_G t0) (k5 : ai_hv t0 224 5 = some (.inl c)) (hc : c < 6) (h1 : 0 ≤ y1 ∧ y1 ≤ 999) (h2 : 0 ≤ y2 ∧ y2 ≤ 9) (h3 : 0 ≤ y3 ∧ y3 ≤ 0) (h4 : 0 ≤ y4 ∧ y4 ≤ 0) : ∃ r, en_u (d + 2) 273 [gx_r 224, .inr (.inl x), .inl y1, .inl y2, .inl y3, .inl y4] t0 n = some r ∧ ∃ t', r = (none, t', n, 0) ∧ ai_HG ah_G t' ∧ (∀ c' i, ¬ ((c' = 224 ∧ i = 5) ∨ ((c' = 225 ∨ c' = 226 ∨ c' = 227 ∨ c' = 228 ∨ c' = 229) ∧ i = c)) → ai_hv t' c' i = ai_hv t0 c' i) ∧ ai_hv t' 224 5 = some (.inl (c + 1)) ∧ ai_hv t' 225 c = some (.inr (.inl x)) ∧ ai_hv t' 226 c = some (.inl y1) ∧ ai_hv t' 227 c = some (.inl y2) ∧ ai_hv t' 228 c = some (.inl y3) ∧ ai_hv t' 229 c = some (.inl y4) := by
  refine en_u_ex (d := d + 1) rfl ?_
  show en_ex _ _ _ _ (0, [(0, gx_r 224), (1, .inr (.inl x)), (3, .inl y1), (4, .inl y2), (5, .inl y3), (6, .inl y4)], [], t0, n, 0) _
  refine ex_go (S := (1, [(0, gx_r 224), (1, .inr (.inl x)), (3, .inl y1), (4, .inl y2), (5, .inl y3), (6, .inl y4)], [gx_r 224], t0, n, 0)) rfl (fun _ => rfl) rfl ?_
  obtain ⟨_, r1, b2, rfl, q3⟩ := pc_isFull224 (d) n g0 k5 (by first | decide | omega)
  refine gx_callo (a := 224) rfl rfl g0 rfl rfl rfl r1 rfl ?_
  show en_ex _ _ _ _ (4, [(0, gx_r 224), (1, .inr (.inl x)), (3, .inl y1), (4, .inl y2), (5, .inl y3), (6, .inl y4)], [.inl b2], t0, n, 0) _
  refine gx_1f (c := .ne) rfl (by first | decide | omega) (show ¬ (b2 ≠ 0) from by omega) rfl ?_
  refine ex_go (S := (8, [(0, gx_r 224), (1, .inr (.inl x)), (3, .inl y1), (4, .inl y2), (5, .inl y3), (6, .inl y4)], [gx_r 224], t0, n, 0)) rfl (fun _ => rfl) rfl ?_
  refine gxo_ref (a := 224) (c := 225) rfl g0 rfl rfl rfl rfl rfl ?_
  refine ex_go (S := (12, [(0, gx_r 224), (1, .inr (.inl x)), (3, .inl y1), (4, .inl y2), (5, .inl y3), (6, .inl y4)], [gx_r 224, gx_r 225], t0, n, 0)) rfl (fun _ => rfl) rfl ?_
  refine gxo_get (a := 224) rfl g0 rfl rfl k5 rfl ?_
  refine ex_go (S := (16, [(0, gx_r 224), (1, .inr (.inl x)), (3, .inl y1), (4, .inl y2), (5, .inl y3), (6, .inl y4)], [.inr (.inl x), .inl c, gx_r 225], t0, n, 0)) rfl (fun _ => rfl) rfl ?_
  refine gx_apv (d := 1) rfl (fun _ => rfl) g0 rfl rfl rfl (show c < 6 from by omega) (gx_run1 (show c < 6 from hc)) ⟨_, rfl⟩ rfl (fun t104 g104 k104 e104 => ?_)
  have k5 : ai_hv t104 224 5 = some (.inl c) := (e104 224 5 (by first | decide | omega)).trans k5
  refine ex_go (S := (18, [(0, gx_r 224), (1, .inr (.inl x)), (3, .inl y1), (4, .inl y2), (5, .inl y3), (6, .inl y4)], [gx_r 224], t104, n, 0)) rfl (fun _ => rfl) rfl ?_
  refine gxo_ref (a := 224) (c := 226) rfl g104 rfl rfl rfl rfl rfl ?_
  refine ex_go (S := (22, [(0, gx_r 224), (1, .inr (.inl x)), (3, .inl y1), (4, .inl y2), (5, .inl y3), (6, .inl y4)], [gx_r 224, gx_r 226], t104, n, 0)) rfl (fun _ => rfl) rfl ?_
  refine gxo_get (a := 224) rfl g104 rfl rfl k5 rfl ?_
  refine ex_go (S := (26, [(0, gx_r 224), (1, .inr (.inl x)), (3, .inl y1), (4, .inl y2), (5, .inl y3), (6, .inl y4)], [.inl y1, .inl c, gx_r 226], t104, n, 0)) rfl (fun _ => rfl) rfl ?_
  refine gx_ap rfl (fun _ => rfl) g104 rfl rfl rfl (show c < 6 from by omega) (gx_run1 (show c < 6 from hc)) (ai_in_h (by first | decide | omega) (by first | decide | omega) (by first | decide | omega)) rfl (fun t106 g106 k106 e106 => ?_)
  have k7 : ai_hv t106 224 5 = some (.inl c) := (e106 224 5 (by first | decide | omega)).trans k5
  have k8 : ai_hv t106 225 c = some (.inr (.inl x)) := (e106 225 c (by first | decide | omega)).trans k104
  refine ex_go (S := (28, [(0, gx_r 224), (1, .inr (.inl x)), (3, .inl y1), (4, .inl y2), (5, .inl y3), (6, .inl y4)], [gx_r 224], t106, n, 0)) rfl (fun _ => rfl) rfl ?_
  refine gxo_ref (a := 224) (c := 227) rfl g106 rfl rfl rfl rfl rfl ?_
  refine ex_go (S := (32, [(0, gx_r 224), (1, .inr (.inl x)), (3, .inl y1), (4, .inl y2), (5, .inl y3), (6, .inl y4)], [gx_r 224, gx_r 227], t106, n, 0)) rfl (fun _ => rfl) rfl ?_
  refine gxo_get (a := 224) rfl g106 rfl rfl k7 rfl ?_
  refine ex_go (S := (37, [(0, gx_r 224), (1, .inr (.inl x)), (3, .inl y1), (4, .inl y2), (5, .inl y3), (6, .inl y4)], [.inl y2, .inl c, gx_r 227], t106, n, 0)) rfl (fun _ => rfl) rfl ?_
  refine gx_ap rfl (fun _ => rfl) g106 rfl rfl rfl (show c < 6 from by omega) (gx_run1 (show c < 6 from hc)) (ai_in_h (by first | decide | omega) (by first | decide | omega) (by first | decide | omega)) rfl (fun t109 g109 k109 e109 => ?_)
  have k10 : ai_hv t109 224 5 = some (.inl c) := (e109 224 5 (by first | decide | omega)).trans k7
  have k11 : ai_hv t109 225 c = some (.inr (.inl x)) := (e109 225 c (by first | decide | omega)).trans k8
  have k12 : ai_hv t109 226 c = some (.inl y1) := (e109 226 c (by first | decide | omega)).trans k106
  refine ex_go (S := (39, [(0, gx_r 224), (1, .inr (.inl x)), (3, .inl y1), (4, .inl y2), (5, .inl y3), (6, .inl y4)], [gx_r 224], t109, n, 0)) rfl (fun _ => rfl) rfl ?_
  refine gxo_ref (a := 224) (c := 228) rfl g109 rfl rfl rfl rfl rfl ?_
  refine ex_go (S := (43, [(0, gx_r 224), (1, .inr (.inl x)), (3, .inl y1), (4, .inl y2), (5, .inl y3), (6, .inl y4)], [gx_r 224, gx_r 228], t109, n, 0)) rfl (fun _ => rfl) rfl ?_
  refine gxo_get (a := 224) rfl g109 rfl rfl k10 rfl ?_
  refine ex_go (S := (48, [(0, gx_r 224), (1, .inr (.inl x)), (3, .inl y1), (4, .inl y2), (5, .inl y3), (6, .inl y4)], [.inl y3, .inl c, gx_r 228], t109, n, 0)) rfl (fun _ => rfl) rfl ?_
  refine gx_ap rfl (fun _ => rfl) g109 rfl rfl rfl (show c < 6 from by omega) (gx_run1 (show c < 6 from hc)) (ai_in_h (by first | decide | omega) (by first | decide | omega) (by first | decide | omega)) rfl (fun t113 g113 k113 e113 => ?_)
  have k14 : ai_hv t113 224 5 = some (.inl c) := (e113 224 5 (by first | decide | omega)).trans k10
  have k15 : ai_hv t113 225 c = some (.inr (.inl x)) := (e113 225 c (by first | decide | omega)).trans k11
  have k16 : ai_hv t113 226 c = some (.inl y1) := (e113 226 c (by first | decide | omega)).trans k12
  have k17 : ai_hv t113 227 c = some (.inl y2) := (e113 227 c (by first | decide | omega)).trans k109
  refine ex_go (S := (50, [(0, gx_r 224), (1, .inr (.inl x)), (3, .inl y1), (4, .inl y2), (5, .inl y3), (6, .inl y4)], [gx_r 224], t113, n, 0)) rfl (fun _ => rfl) rfl ?_
  refine gxo_ref (a := 224) (c := 229) rfl g113 rfl rfl rfl rfl rfl ?_
  refine ex_go (S := (54, [(0, gx_r 224), (1, .inr (.inl x)), (3, .inl y1), (4, .inl y2), (5, .inl y3), (6, .inl y4)], [gx_r 224, gx_r 229], t113, n, 0)) rfl (fun _ => rfl) rfl ?_
  refine gxo_get (a := 224) rfl g113 rfl rfl k14 rfl ?_
  refine ex_go (S := (59, [(0, gx_r 224), (1, .inr (.inl x)), (3, .inl y1), (4, .inl y2), (5, .inl y3), (6, .inl y4)], [.inl y4, .inl c, gx_r 229], t113, n, 0)) rfl (fun _ => rfl) rfl ?_
  refine gx_ap rfl (fun _ => rfl) g113 rfl rfl rfl (show c < 6 from by omega) (gx_run1 (show c < 6 from hc)) (ai_in_h (by first | decide | omega) (by first | decide | omega) (by first | decide | omega)) rfl (fun t118 g118 k118 e118 => ?_)
  have k19 : ai_hv t118 224 5 = some (.inl c) := (e118 224 5 (by first | decide | omega)).trans k14
  have k20 : ai_hv t118 225 c = some (.inr (.inl x)) := (e118 225 c (by first | decide | omega)).trans k15
  have k21 : ai_hv t118 226 c = some (.inl y1) := (e118 226 c (by first | decide | omega)).trans k16
  have k22 : ai_hv t118 227 c = some (.inl y2) := (e118 227 c (by first | decide | omega)).trans k17
  have k23 : ai_hv t118 228 c = some (.inl y3) := (e118 228 c (by first | decide | omega)).trans k113
  refine ex_go (S := (61, [(0, gx_r 224), (1, .inr (.inl x)), (3, .inl y1), (4, .inl y2), (5, .inl y3), (6, .inl y4)], [gx_r 224], t118, n, 0)) rfl (fun _ => rfl) rfl ?_
  refine ex_go (S := (62, [(0, gx_r 224), (1, .inr (.inl x)), (3, .inl y1), (4, .inl y2), (5, .inl y3), (6, .inl y4)], [gx_r 224, gx_r 224], t118, n, 0)) rfl (fun _ => rfl) rfl ?_
  refine gxo_get (a := 224) rfl g118 rfl rfl k19 rfl ?_
  refine ex_go (S := (66, [(0, gx_r 224), (1, .inr (.inl x)), (3, .inl y1), (4, .inl y2), (5, .inl y3), (6, .inl y4)], [.inl 1, .inl c, gx_r 224], t118, n, 0)) rfl (fun _ => rfl) rfl ?_
  refine ex_iadd rfl (by first | decide | omega) rfl ?_
  refine gxo_put (a := 224) rfl g118 rfl rfl rfl (ai_in_h (by first | decide | omega) (by first | decide | omega) (by first | decide | omega)) rfl (fun t124 g124 k124 e124 => ?_)
  have k25 : ai_hv t124 225 c = some (.inr (.inl x)) := (e124 225 c (by first | decide | omega)).trans k20
  have k26 : ai_hv t124 226 c = some (.inl y1) := (e124 226 c (by first | decide | omega)).trans k21
  have k27 : ai_hv t124 227 c = some (.inl y2) := (e124 227 c (by first | decide | omega)).trans k22
  have k28 : ai_hv t124 228 c = some (.inl y3) := (e124 228 c (by first | decide | omega)).trans k23
  have k29 : ai_hv t124 229 c = some (.inl y4) := (e124 229 c (by first | decide | omega)).trans k118
  refine ex_ret (r := (none, t124, n, 0)) rfl (fun _ => rfl) ?_
  exact ⟨_, rfl, t124, rfl, g124, (fun c' i h => (e124 c' i (by first | decide | omega)).trans ((e118 c' i (by first | decide | omega)).trans ((e113 c' i (by first | decide | omega)).trans ((e109 c' i (by first | decide | omega)).trans ((e106 c' i (by first | decide | omega)).trans (e104 c' i (by first | decide | omega))))))), k124, k25, k26, k27, k28, k29⟩
theorem pc_find224_l {fn : en_F} {n c x : Nat} {t0 : en_H} {w : Nat → Nat} (g0 : ai_HG ah_G t0) (k5 : ai_hv t0 224 5 = some (.inl c)) (hc : c ≤ 6) (hn : ∀ i, i < c → ai_hv t0 225 i = some (.inr (.inl (w i)))) : ∀ j k, k + j = c → en_ex none fn (en_code 274) (fun _ => false) (2, [(3, .inl k), (0, gx_r 224), (1, .inr (.inl x))], [], t0, n, 0) (fun o => ∃ r, o = .inl r ∧ ∃ b, r = (some (.inl b), t0, n, 0) ∧ ((sp_fi (fun i => nq (w i) x) j k < c ∧ b = sp_fi (fun i => nq (w i) x) j k) ∨ (sp_fi (fun i => nq (w i) x) j k = c ∧ b = 4294967295))) := by
  intro j
  induction j with
  | zero =>
    intro k hk
    refine ex_go (S := (3, [(3, .inl k), (0, gx_r 224), (1, .inr (.inl x))], [.inl k], t0, n, 0)) rfl (fun _ => rfl) rfl ?_
    refine ex_go (S := (4, [(3, .inl k), (0, gx_r 224), (1, .inr (.inl x))], [gx_r 224, .inl k], t0, n, 0)) rfl (fun _ => rfl) rfl ?_
    refine gxo_get (a := 224) rfl g0 rfl rfl k5 rfl ?_
    refine gx_2t (c := .ge) rfl (by first | decide | omega) (by first | decide | omega) (show c ≤ k from by omega) rfl ?_
    refine ex_go (S := (30, [(3, .inl k), (0, gx_r 224), (1, .inr (.inl x))], [.inl 4294967295], t0, n, 0)) rfl (fun _ => rfl) rfl ?_
    refine ex_ret (r := (some (.inl 4294967295), t0, n, 0)) rfl (fun _ => rfl) ?_
    exact ⟨_, rfl, _, rfl, Or.inr ⟨by show k = _; omega, rfl⟩⟩
  | succ j ih =>
    intro k hk
    have kn := hn k (by first | decide | omega)
    refine ex_go (S := (3, [(3, .inl k), (0, gx_r 224), (1, .inr (.inl x))], [.inl k], t0, n, 0)) rfl (fun _ => rfl) rfl ?_
    refine ex_go (S := (4, [(3, .inl k), (0, gx_r 224), (1, .inr (.inl x))], [gx_r 224, .inl k], t0, n, 0)) rfl (fun _ => rfl) rfl ?_
    refine gxo_get (a := 224) rfl g0 rfl rfl k5 rfl ?_
    refine gx_2f (c := .ge) rfl (by first | decide | omega) (by first | decide | omega) (show ¬ (c ≤ k) from by omega) rfl ?_
    refine ex_go (S := (11, [(3, .inl k), (0, gx_r 224), (1, .inr (.inl x))], [gx_r 224], t0, n, 0)) rfl (fun _ => rfl) rfl ?_
    refine gxo_ref (a := 224) (c := 225) rfl g0 rfl rfl rfl rfl rfl ?_
    refine ex_go (S := (15, [(3, .inl k), (0, gx_r 224), (1, .inr (.inl x))], [.inl k, gx_r 225], t0, n, 0)) rfl (fun _ => rfl) rfl ?_
    refine gx_ag (v := .inr (.inl (w k))) (cb := fun c => Nat.beq c 3) rfl (fun _ => rfl) g0 rfl rfl kn (by first | decide | omega) rfl ?_
    refine ex_go (S := (17, [(3, .inl k), (0, gx_r 224), (1, .inr (.inl x))], [.inr (.inl x), .inr (.inl (w k))], t0, n, 0)) rfl (fun _ => rfl) rfl ?_
    refine gx_lcmp rfl rfl (fun hl1 => ?_) (fun hl1 => ?_) (fun hl1 => ?_)
    · refine ex_go (S := (21, [(3, .inl k), (0, gx_r 224), (1, .inr (.inl x))], [], t0, n, 0)) rfl (fun _ => rfl) rfl ?_
      refine ex_go (S := (22, [(3, .inl k), (0, gx_r 224), (1, .inr (.inl x))], [.inl k], t0, n, 0)) rfl (fun _ => rfl) rfl ?_
      refine ex_ret (r := (some (.inl k), t0, n, 0)) rfl (fun _ => rfl) ?_
      have z9 : sp_fi (fun i => nq (w i) x) (j + 1) k = k := cif_t (show (lN (w k)).toInt = (lN x).toInt by omega)
      rw [z9]
      exact ⟨_, rfl, _, rfl, Or.inl ⟨by omega, rfl⟩⟩
    · refine ex_go (S := (23, [(3, .inl k), (0, gx_r 224), (1, .inr (.inl x))], [], t0, n, 0)) rfl (fun _ => rfl) rfl ?_
      refine gx_iinc (i := 3) (k := 1) rfl (fun _ => rfl) (by first | decide | omega) rfl ?_
      show en_ex _ _ _ _ (26, [(3, .inl (k + 1)), (0, gx_r 224), (1, .inr (.inl x))], [], t0, n, 0) _
      refine ex_go (S := (2, [(3, .inl (k + 1)), (0, gx_r 224), (1, .inr (.inl x))], [], t0, n, 0)) rfl (fun _ => rfl) rfl ?_
      have z9 : sp_fi (fun i => nq (w i) x) (j + 1) k = sp_fi (fun i => nq (w i) x) j (k + 1) := cif_f (fun z => by have z : (lN (w k)).toInt = (lN x).toInt := z; omega)
      rw [z9]
      exact ih (k + 1) (by first | decide | omega)
    · refine ex_go (S := (23, [(3, .inl k), (0, gx_r 224), (1, .inr (.inl x))], [], t0, n, 0)) rfl (fun _ => rfl) rfl ?_
      refine gx_iinc (i := 3) (k := 1) rfl (fun _ => rfl) (by first | decide | omega) rfl ?_
      show en_ex _ _ _ _ (26, [(3, .inl (k + 1)), (0, gx_r 224), (1, .inr (.inl x))], [], t0, n, 0) _
      refine ex_go (S := (2, [(3, .inl (k + 1)), (0, gx_r 224), (1, .inr (.inl x))], [], t0, n, 0)) rfl (fun _ => rfl) rfl ?_
      have z9 : sp_fi (fun i => nq (w i) x) (j + 1) k = sp_fi (fun i => nq (w i) x) j (k + 1) := cif_f (fun z => by have z : (lN (w k)).toInt = (lN x).toInt := z; omega)
      rw [z9]
      exact ih (k + 1) (by first | decide | omega)
theorem pc_find224 (d n : Nat) {c x : Nat} {t0 : en_H} {w : Nat → Nat} (g0 : ai_HG ah_G t0) (k5 : ai_hv t0 224 5 = some (.inl c)) (hc : c ≤ 6) (hn : ∀ i, i < c → ai_hv t0 225 i = some (.inr (.inl (w i)))) : ∃ r, en_u (d + 1) 274 [gx_r 224, .inr (.inl x)] t0 n = some r ∧ ∃ b, r = (some (.inl b), t0, n, 0) ∧ ((sp_fi (fun i => nq (w i) x) c 0 < c ∧ b = sp_fi (fun i => nq (w i) x) c 0) ∨ (sp_fi (fun i => nq (w i) x) c 0 = c ∧ b = 4294967295)) := by
  refine en_u_ex rfl ?_
  show en_ex _ _ _ _ (0, [(0, gx_r 224), (1, .inr (.inl x))], [], t0, n, 0) _
  refine ex_go (S := (1, [(0, gx_r 224), (1, .inr (.inl x))], [.inl 0], t0, n, 0)) rfl (fun _ => rfl) rfl ?_
  refine ex_go (S := (2, [(3, .inl 0), (0, gx_r 224), (1, .inr (.inl x))], [], t0, n, 0)) rfl (fun _ => rfl) rfl ?_
  exact pc_find224_l g0 k5 hc hn c 0 (by first | decide | omega)
theorem pc_isFull260 (d n : Nat) {c : Nat} {t0 : en_H} (g0 : ai_HG ah_G t0) (k5 : ai_hv t0 260 5 = some (.inl c)) (hc : c ≤ 6) : ∃ r, en_u (d + 1) 272 [gx_r 260] t0 n = some r ∧ ∃ b, r = (some (.inl b), t0, n, 0) ∧ b ≤ 1 ∧ (b = 1 ↔ c = 6) := by
  refine en_u_ex rfl ?_
  show en_ex _ _ _ _ (0, [(0, gx_r 260)], [], t0, n, 0) _
  refine ex_go (S := (1, [(0, gx_r 260)], [gx_r 260], t0, n, 0)) rfl (fun _ => rfl) rfl ?_
  refine gxo_get (a := 260) rfl g0 rfl rfl k5 rfl ?_
  refine ex_go (S := (5, [(0, gx_r 260)], [gx_r 260, .inl c], t0, n, 0)) rfl (fun _ => rfl) rfl ?_
  refine gxo_ref (a := 260) (c := 261) rfl g0 rfl rfl rfl rfl rfl ?_
  refine gx_alen (a := 261) (m := 6) rfl g0 rfl rfl rfl ?_
  by_cases hc1 : c < 6
  · refine gx_2t (c := .lt) rfl (by first | decide | omega) (by first | decide | omega) hc1 rfl ?_
    refine ex_go (S := (17, [(0, gx_r 260)], [.inl 0], t0, n, 0)) rfl (fun _ => rfl) rfl ?_
    refine ex_ret (r := (some (.inl 0), t0, n, 0)) rfl (fun _ => rfl) ?_
    exact ⟨_, rfl, 0, rfl, by omega⟩
  · refine gx_2f (c := .lt) rfl (by first | decide | omega) (by first | decide | omega) hc1 rfl ?_
    refine ex_go (S := (13, [(0, gx_r 260)], [.inl 1], t0, n, 0)) rfl (fun _ => rfl) rfl ?_
    refine ex_go (S := (17, [(0, gx_r 260)], [.inl 1], t0, n, 0)) rfl (fun _ => rfl) rfl ?_
    refine ex_ret (r := (some (.inl 1), t0, n, 0)) rfl (fun _ => rfl) ?_
    exact ⟨_, rfl, 1, rfl, by omega⟩
theorem pc_add260 (d n : Nat) {c x y1 y2 y3 y4 : Nat} {t0 : en_H} (g0 : ai_HG ah_G t0) (k5 : ai_hv t0 260 5 = some (.inl c)) (hc : c < 6) (h1 : 0 ≤ y1 ∧ y1 ≤ 3) (h2 : 0 ≤ y2 ∧ y2 ≤ 63) (h3 : 0 ≤ y3 ∧ y3 ≤ 0) (h4 : 0 ≤ y4 ∧ y4 ≤ 0) : ∃ r, en_u (d + 2) 273 [gx_r 260, .inr (.inl x), .inl y1, .inl y2, .inl y3, .inl y4] t0 n = some r ∧ ∃ t', r = (none, t', n, 0) ∧ ai_HG ah_G t' ∧ (∀ c' i, ¬ ((c' = 260 ∧ i = 5) ∨ ((c' = 261 ∨ c' = 262 ∨ c' = 263 ∨ c' = 264 ∨ c' = 265) ∧ i = c)) → ai_hv t' c' i = ai_hv t0 c' i) ∧ ai_hv t' 260 5 = some (.inl (c + 1)) ∧ ai_hv t' 261 c = some (.inr (.inl x)) ∧ ai_hv t' 262 c = some (.inl y1) ∧ ai_hv t' 263 c = some (.inl y2) ∧ ai_hv t' 264 c = some (.inl y3) ∧ ai_hv t' 265 c = some (.inl y4) := by
  refine en_u_ex (d := d + 1) rfl ?_
  show en_ex _ _ _ _ (0, [(0, gx_r 260), (1, .inr (.inl x)), (3, .inl y1), (4, .inl y2), (5, .inl y3), (6, .inl y4)], [], t0, n, 0) _
  refine ex_go (S := (1, [(0, gx_r 260), (1, .inr (.inl x)), (3, .inl y1), (4, .inl y2), (5, .inl y3), (6, .inl y4)], [gx_r 260], t0, n, 0)) rfl (fun _ => rfl) rfl ?_
  obtain ⟨_, r1, b2, rfl, q3⟩ := pc_isFull260 (d) n g0 k5 (by first | decide | omega)
  refine gx_callo (a := 260) rfl rfl g0 rfl rfl rfl r1 rfl ?_
  show en_ex _ _ _ _ (4, [(0, gx_r 260), (1, .inr (.inl x)), (3, .inl y1), (4, .inl y2), (5, .inl y3), (6, .inl y4)], [.inl b2], t0, n, 0) _
  refine gx_1f (c := .ne) rfl (by first | decide | omega) (show ¬ (b2 ≠ 0) from by omega) rfl ?_
  refine ex_go (S := (8, [(0, gx_r 260), (1, .inr (.inl x)), (3, .inl y1), (4, .inl y2), (5, .inl y3), (6, .inl y4)], [gx_r 260], t0, n, 0)) rfl (fun _ => rfl) rfl ?_
  refine gxo_ref (a := 260) (c := 261) rfl g0 rfl rfl rfl rfl rfl ?_
  refine ex_go (S := (12, [(0, gx_r 260), (1, .inr (.inl x)), (3, .inl y1), (4, .inl y2), (5, .inl y3), (6, .inl y4)], [gx_r 260, gx_r 261], t0, n, 0)) rfl (fun _ => rfl) rfl ?_
  refine gxo_get (a := 260) rfl g0 rfl rfl k5 rfl ?_
  refine ex_go (S := (16, [(0, gx_r 260), (1, .inr (.inl x)), (3, .inl y1), (4, .inl y2), (5, .inl y3), (6, .inl y4)], [.inr (.inl x), .inl c, gx_r 261], t0, n, 0)) rfl (fun _ => rfl) rfl ?_
  refine gx_apv (d := 1) rfl (fun _ => rfl) g0 rfl rfl rfl (show c < 6 from by omega) (gx_run1 (show c < 6 from hc)) ⟨_, rfl⟩ rfl (fun t104 g104 k104 e104 => ?_)
  have k5 : ai_hv t104 260 5 = some (.inl c) := (e104 260 5 (by first | decide | omega)).trans k5
  refine ex_go (S := (18, [(0, gx_r 260), (1, .inr (.inl x)), (3, .inl y1), (4, .inl y2), (5, .inl y3), (6, .inl y4)], [gx_r 260], t104, n, 0)) rfl (fun _ => rfl) rfl ?_
  refine gxo_ref (a := 260) (c := 262) rfl g104 rfl rfl rfl rfl rfl ?_
  refine ex_go (S := (22, [(0, gx_r 260), (1, .inr (.inl x)), (3, .inl y1), (4, .inl y2), (5, .inl y3), (6, .inl y4)], [gx_r 260, gx_r 262], t104, n, 0)) rfl (fun _ => rfl) rfl ?_
  refine gxo_get (a := 260) rfl g104 rfl rfl k5 rfl ?_
  refine ex_go (S := (26, [(0, gx_r 260), (1, .inr (.inl x)), (3, .inl y1), (4, .inl y2), (5, .inl y3), (6, .inl y4)], [.inl y1, .inl c, gx_r 262], t104, n, 0)) rfl (fun _ => rfl) rfl ?_
  refine gx_ap rfl (fun _ => rfl) g104 rfl rfl rfl (show c < 6 from by omega) (gx_run1 (show c < 6 from hc)) (ai_in_h (by first | decide | omega) (by first | decide | omega) (by first | decide | omega)) rfl (fun t106 g106 k106 e106 => ?_)
  have k7 : ai_hv t106 260 5 = some (.inl c) := (e106 260 5 (by first | decide | omega)).trans k5
  have k8 : ai_hv t106 261 c = some (.inr (.inl x)) := (e106 261 c (by first | decide | omega)).trans k104
  refine ex_go (S := (28, [(0, gx_r 260), (1, .inr (.inl x)), (3, .inl y1), (4, .inl y2), (5, .inl y3), (6, .inl y4)], [gx_r 260], t106, n, 0)) rfl (fun _ => rfl) rfl ?_
  refine gxo_ref (a := 260) (c := 263) rfl g106 rfl rfl rfl rfl rfl ?_
  refine ex_go (S := (32, [(0, gx_r 260), (1, .inr (.inl x)), (3, .inl y1), (4, .inl y2), (5, .inl y3), (6, .inl y4)], [gx_r 260, gx_r 263], t106, n, 0)) rfl (fun _ => rfl) rfl ?_
  refine gxo_get (a := 260) rfl g106 rfl rfl k7 rfl ?_
  refine ex_go (S := (37, [(0, gx_r 260), (1, .inr (.inl x)), (3, .inl y1), (4, .inl y2), (5, .inl y3), (6, .inl y4)], [.inl y2, .inl c, gx_r 263], t106, n, 0)) rfl (fun _ => rfl) rfl ?_
  refine gx_ap rfl (fun _ => rfl) g106 rfl rfl rfl (show c < 6 from by omega) (gx_run1 (show c < 6 from hc)) (ai_in_h (by first | decide | omega) (by first | decide | omega) (by first | decide | omega)) rfl (fun t109 g109 k109 e109 => ?_)
  have k10 : ai_hv t109 260 5 = some (.inl c) := (e109 260 5 (by first | decide | omega)).trans k7
  have k11 : ai_hv t109 261 c = some (.inr (.inl x)) := (e109 261 c (by first | decide | omega)).trans k8
  have k12 : ai_hv t109 262 c = some (.inl y1) := (e109 262 c (by first | decide | omega)).trans k106
  refine ex_go (S := (39, [(0, gx_r 260), (1, .inr (.inl x)), (3, .inl y1), (4, .inl y2), (5, .inl y3), (6, .inl y4)], [gx_r 260], t109, n, 0)) rfl (fun _ => rfl) rfl ?_
  refine gxo_ref (a := 260) (c := 264) rfl g109 rfl rfl rfl rfl rfl ?_
  refine ex_go (S := (43, [(0, gx_r 260), (1, .inr (.inl x)), (3, .inl y1), (4, .inl y2), (5, .inl y3), (6, .inl y4)], [gx_r 260, gx_r 264], t109, n, 0)) rfl (fun _ => rfl) rfl ?_
  refine gxo_get (a := 260) rfl g109 rfl rfl k10 rfl ?_
  refine ex_go (S := (48, [(0, gx_r 260), (1, .inr (.inl x)), (3, .inl y1), (4, .inl y2), (5, .inl y3), (6, .inl y4)], [.inl y3, .inl c, gx_r 264], t109, n, 0)) rfl (fun _ => rfl) rfl ?_
  refine gx_ap rfl (fun _ => rfl) g109 rfl rfl rfl (show c < 6 from by omega) (gx_run1 (show c < 6 from hc)) (ai_in_h (by first | decide | omega) (by first | decide | omega) (by first | decide | omega)) rfl (fun t113 g113 k113 e113 => ?_)
  have k14 : ai_hv t113 260 5 = some (.inl c) := (e113 260 5 (by first | decide | omega)).trans k10
  have k15 : ai_hv t113 261 c = some (.inr (.inl x)) := (e113 261 c (by first | decide | omega)).trans k11
  have k16 : ai_hv t113 262 c = some (.inl y1) := (e113 262 c (by first | decide | omega)).trans k12
  have k17 : ai_hv t113 263 c = some (.inl y2) := (e113 263 c (by first | decide | omega)).trans k109
  refine ex_go (S := (50, [(0, gx_r 260), (1, .inr (.inl x)), (3, .inl y1), (4, .inl y2), (5, .inl y3), (6, .inl y4)], [gx_r 260], t113, n, 0)) rfl (fun _ => rfl) rfl ?_
  refine gxo_ref (a := 260) (c := 265) rfl g113 rfl rfl rfl rfl rfl ?_
  refine ex_go (S := (54, [(0, gx_r 260), (1, .inr (.inl x)), (3, .inl y1), (4, .inl y2), (5, .inl y3), (6, .inl y4)], [gx_r 260, gx_r 265], t113, n, 0)) rfl (fun _ => rfl) rfl ?_
  refine gxo_get (a := 260) rfl g113 rfl rfl k14 rfl ?_
  refine ex_go (S := (59, [(0, gx_r 260), (1, .inr (.inl x)), (3, .inl y1), (4, .inl y2), (5, .inl y3), (6, .inl y4)], [.inl y4, .inl c, gx_r 265], t113, n, 0)) rfl (fun _ => rfl) rfl ?_
  refine gx_ap rfl (fun _ => rfl) g113 rfl rfl rfl (show c < 6 from by omega) (gx_run1 (show c < 6 from hc)) (ai_in_h (by first | decide | omega) (by first | decide | omega) (by first | decide | omega)) rfl (fun t118 g118 k118 e118 => ?_)
  have k19 : ai_hv t118 260 5 = some (.inl c) := (e118 260 5 (by first | decide | omega)).trans k14
  have k20 : ai_hv t118 261 c = some (.inr (.inl x)) := (e118 261 c (by first | decide | omega)).trans k15
  have k21 : ai_hv t118 262 c = some (.inl y1) := (e118 262 c (by first | decide | omega)).trans k16
  have k22 : ai_hv t118 263 c = some (.inl y2) := (e118 263 c (by first | decide | omega)).trans k17
  have k23 : ai_hv t118 264 c = some (.inl y3) := (e118 264 c (by first | decide | omega)).trans k113
  refine ex_go (S := (61, [(0, gx_r 260), (1, .inr (.inl x)), (3, .inl y1), (4, .inl y2), (5, .inl y3), (6, .inl y4)], [gx_r 260], t118, n, 0)) rfl (fun _ => rfl) rfl ?_
  refine ex_go (S := (62, [(0, gx_r 260), (1, .inr (.inl x)), (3, .inl y1), (4, .inl y2), (5, .inl y3), (6, .inl y4)], [gx_r 260, gx_r 260], t118, n, 0)) rfl (fun _ => rfl) rfl ?_
  refine gxo_get (a := 260) rfl g118 rfl rfl k19 rfl ?_
  refine ex_go (S := (66, [(0, gx_r 260), (1, .inr (.inl x)), (3, .inl y1), (4, .inl y2), (5, .inl y3), (6, .inl y4)], [.inl 1, .inl c, gx_r 260], t118, n, 0)) rfl (fun _ => rfl) rfl ?_
  refine ex_iadd rfl (by first | decide | omega) rfl ?_
  refine gxo_put (a := 260) rfl g118 rfl rfl rfl (ai_in_h (by first | decide | omega) (by first | decide | omega) (by first | decide | omega)) rfl (fun t124 g124 k124 e124 => ?_)
  have k25 : ai_hv t124 261 c = some (.inr (.inl x)) := (e124 261 c (by first | decide | omega)).trans k20
  have k26 : ai_hv t124 262 c = some (.inl y1) := (e124 262 c (by first | decide | omega)).trans k21
  have k27 : ai_hv t124 263 c = some (.inl y2) := (e124 263 c (by first | decide | omega)).trans k22
  have k28 : ai_hv t124 264 c = some (.inl y3) := (e124 264 c (by first | decide | omega)).trans k23
  have k29 : ai_hv t124 265 c = some (.inl y4) := (e124 265 c (by first | decide | omega)).trans k118
  refine ex_ret (r := (none, t124, n, 0)) rfl (fun _ => rfl) ?_
  exact ⟨_, rfl, t124, rfl, g124, (fun c' i h => (e124 c' i (by first | decide | omega)).trans ((e118 c' i (by first | decide | omega)).trans ((e113 c' i (by first | decide | omega)).trans ((e109 c' i (by first | decide | omega)).trans ((e106 c' i (by first | decide | omega)).trans (e104 c' i (by first | decide | omega))))))), k124, k25, k26, k27, k28, k29⟩
theorem pc_find260_l {fn : en_F} {n c x : Nat} {t0 : en_H} {w : Nat → Nat} (g0 : ai_HG ah_G t0) (k5 : ai_hv t0 260 5 = some (.inl c)) (hc : c ≤ 6) (hn : ∀ i, i < c → ai_hv t0 261 i = some (.inr (.inl (w i)))) : ∀ j k, k + j = c → en_ex none fn (en_code 274) (fun _ => false) (2, [(3, .inl k), (0, gx_r 260), (1, .inr (.inl x))], [], t0, n, 0) (fun o => ∃ r, o = .inl r ∧ ∃ b, r = (some (.inl b), t0, n, 0) ∧ ((sp_fi (fun i => nq (w i) x) j k < c ∧ b = sp_fi (fun i => nq (w i) x) j k) ∨ (sp_fi (fun i => nq (w i) x) j k = c ∧ b = 4294967295))) := by
  intro j
  induction j with
  | zero =>
    intro k hk
    refine ex_go (S := (3, [(3, .inl k), (0, gx_r 260), (1, .inr (.inl x))], [.inl k], t0, n, 0)) rfl (fun _ => rfl) rfl ?_
    refine ex_go (S := (4, [(3, .inl k), (0, gx_r 260), (1, .inr (.inl x))], [gx_r 260, .inl k], t0, n, 0)) rfl (fun _ => rfl) rfl ?_
    refine gxo_get (a := 260) rfl g0 rfl rfl k5 rfl ?_
    refine gx_2t (c := .ge) rfl (by first | decide | omega) (by first | decide | omega) (show c ≤ k from by omega) rfl ?_
    refine ex_go (S := (30, [(3, .inl k), (0, gx_r 260), (1, .inr (.inl x))], [.inl 4294967295], t0, n, 0)) rfl (fun _ => rfl) rfl ?_
    refine ex_ret (r := (some (.inl 4294967295), t0, n, 0)) rfl (fun _ => rfl) ?_
    exact ⟨_, rfl, _, rfl, Or.inr ⟨by show k = _; omega, rfl⟩⟩
  | succ j ih =>
    intro k hk
    have kn := hn k (by first | decide | omega)
    refine ex_go (S := (3, [(3, .inl k), (0, gx_r 260), (1, .inr (.inl x))], [.inl k], t0, n, 0)) rfl (fun _ => rfl) rfl ?_
    refine ex_go (S := (4, [(3, .inl k), (0, gx_r 260), (1, .inr (.inl x))], [gx_r 260, .inl k], t0, n, 0)) rfl (fun _ => rfl) rfl ?_
    refine gxo_get (a := 260) rfl g0 rfl rfl k5 rfl ?_
    refine gx_2f (c := .ge) rfl (by first | decide | omega) (by first | decide | omega) (show ¬ (c ≤ k) from by omega) rfl ?_
    refine ex_go (S := (11, [(3, .inl k), (0, gx_r 260), (1, .inr (.inl x))], [gx_r 260], t0, n, 0)) rfl (fun _ => rfl) rfl ?_
    refine gxo_ref (a := 260) (c := 261) rfl g0 rfl rfl rfl rfl rfl ?_
    refine ex_go (S := (15, [(3, .inl k), (0, gx_r 260), (1, .inr (.inl x))], [.inl k, gx_r 261], t0, n, 0)) rfl (fun _ => rfl) rfl ?_
    refine gx_ag (v := .inr (.inl (w k))) (cb := fun c => Nat.beq c 3) rfl (fun _ => rfl) g0 rfl rfl kn (by first | decide | omega) rfl ?_
    refine ex_go (S := (17, [(3, .inl k), (0, gx_r 260), (1, .inr (.inl x))], [.inr (.inl x), .inr (.inl (w k))], t0, n, 0)) rfl (fun _ => rfl) rfl ?_
    refine gx_lcmp rfl rfl (fun hl1 => ?_) (fun hl1 => ?_) (fun hl1 => ?_)
    · refine ex_go (S := (21, [(3, .inl k), (0, gx_r 260), (1, .inr (.inl x))], [], t0, n, 0)) rfl (fun _ => rfl) rfl ?_
      refine ex_go (S := (22, [(3, .inl k), (0, gx_r 260), (1, .inr (.inl x))], [.inl k], t0, n, 0)) rfl (fun _ => rfl) rfl ?_
      refine ex_ret (r := (some (.inl k), t0, n, 0)) rfl (fun _ => rfl) ?_
      have z9 : sp_fi (fun i => nq (w i) x) (j + 1) k = k := cif_t (show (lN (w k)).toInt = (lN x).toInt by omega)
      rw [z9]
      exact ⟨_, rfl, _, rfl, Or.inl ⟨by omega, rfl⟩⟩
    · refine ex_go (S := (23, [(3, .inl k), (0, gx_r 260), (1, .inr (.inl x))], [], t0, n, 0)) rfl (fun _ => rfl) rfl ?_
      refine gx_iinc (i := 3) (k := 1) rfl (fun _ => rfl) (by first | decide | omega) rfl ?_
      show en_ex _ _ _ _ (26, [(3, .inl (k + 1)), (0, gx_r 260), (1, .inr (.inl x))], [], t0, n, 0) _
      refine ex_go (S := (2, [(3, .inl (k + 1)), (0, gx_r 260), (1, .inr (.inl x))], [], t0, n, 0)) rfl (fun _ => rfl) rfl ?_
      have z9 : sp_fi (fun i => nq (w i) x) (j + 1) k = sp_fi (fun i => nq (w i) x) j (k + 1) := cif_f (fun z => by have z : (lN (w k)).toInt = (lN x).toInt := z; omega)
      rw [z9]
      exact ih (k + 1) (by first | decide | omega)
    · refine ex_go (S := (23, [(3, .inl k), (0, gx_r 260), (1, .inr (.inl x))], [], t0, n, 0)) rfl (fun _ => rfl) rfl ?_
      refine gx_iinc (i := 3) (k := 1) rfl (fun _ => rfl) (by first | decide | omega) rfl ?_
      show en_ex _ _ _ _ (26, [(3, .inl (k + 1)), (0, gx_r 260), (1, .inr (.inl x))], [], t0, n, 0) _
      refine ex_go (S := (2, [(3, .inl (k + 1)), (0, gx_r 260), (1, .inr (.inl x))], [], t0, n, 0)) rfl (fun _ => rfl) rfl ?_
      have z9 : sp_fi (fun i => nq (w i) x) (j + 1) k = sp_fi (fun i => nq (w i) x) j (k + 1) := cif_f (fun z => by have z : (lN (w k)).toInt = (lN x).toInt := z; omega)
      rw [z9]
      exact ih (k + 1) (by first | decide | omega)
theorem pc_find260 (d n : Nat) {c x : Nat} {t0 : en_H} {w : Nat → Nat} (g0 : ai_HG ah_G t0) (k5 : ai_hv t0 260 5 = some (.inl c)) (hc : c ≤ 6) (hn : ∀ i, i < c → ai_hv t0 261 i = some (.inr (.inl (w i)))) : ∃ r, en_u (d + 1) 274 [gx_r 260, .inr (.inl x)] t0 n = some r ∧ ∃ b, r = (some (.inl b), t0, n, 0) ∧ ((sp_fi (fun i => nq (w i) x) c 0 < c ∧ b = sp_fi (fun i => nq (w i) x) c 0) ∨ (sp_fi (fun i => nq (w i) x) c 0 = c ∧ b = 4294967295)) := by
  refine en_u_ex rfl ?_
  show en_ex _ _ _ _ (0, [(0, gx_r 260), (1, .inr (.inl x))], [], t0, n, 0) _
  refine ex_go (S := (1, [(0, gx_r 260), (1, .inr (.inl x))], [.inl 0], t0, n, 0)) rfl (fun _ => rfl) rfl ?_
  refine ex_go (S := (2, [(3, .inl 0), (0, gx_r 260), (1, .inr (.inl x))], [], t0, n, 0)) rfl (fun _ => rfl) rfl ?_
  exact pc_find260_l g0 k5 hc hn c 0 (by first | decide | omega)
theorem pc_isFull266 (d n : Nat) {c : Nat} {t0 : en_H} (g0 : ai_HG ah_G t0) (k5 : ai_hv t0 266 5 = some (.inl c)) (hc : c ≤ 6) : ∃ r, en_u (d + 1) 272 [gx_r 266] t0 n = some r ∧ ∃ b, r = (some (.inl b), t0, n, 0) ∧ b ≤ 1 ∧ (b = 1 ↔ c = 6) := by
  refine en_u_ex rfl ?_
  show en_ex _ _ _ _ (0, [(0, gx_r 266)], [], t0, n, 0) _
  refine ex_go (S := (1, [(0, gx_r 266)], [gx_r 266], t0, n, 0)) rfl (fun _ => rfl) rfl ?_
  refine gxo_get (a := 266) rfl g0 rfl rfl k5 rfl ?_
  refine ex_go (S := (5, [(0, gx_r 266)], [gx_r 266, .inl c], t0, n, 0)) rfl (fun _ => rfl) rfl ?_
  refine gxo_ref (a := 266) (c := 267) rfl g0 rfl rfl rfl rfl rfl ?_
  refine gx_alen (a := 267) (m := 6) rfl g0 rfl rfl rfl ?_
  by_cases hc1 : c < 6
  · refine gx_2t (c := .lt) rfl (by first | decide | omega) (by first | decide | omega) hc1 rfl ?_
    refine ex_go (S := (17, [(0, gx_r 266)], [.inl 0], t0, n, 0)) rfl (fun _ => rfl) rfl ?_
    refine ex_ret (r := (some (.inl 0), t0, n, 0)) rfl (fun _ => rfl) ?_
    exact ⟨_, rfl, 0, rfl, by omega⟩
  · refine gx_2f (c := .lt) rfl (by first | decide | omega) (by first | decide | omega) hc1 rfl ?_
    refine ex_go (S := (13, [(0, gx_r 266)], [.inl 1], t0, n, 0)) rfl (fun _ => rfl) rfl ?_
    refine ex_go (S := (17, [(0, gx_r 266)], [.inl 1], t0, n, 0)) rfl (fun _ => rfl) rfl ?_
    refine ex_ret (r := (some (.inl 1), t0, n, 0)) rfl (fun _ => rfl) ?_
    exact ⟨_, rfl, 1, rfl, by omega⟩
theorem pc_add266 (d n : Nat) {c x y1 y2 y3 y4 : Nat} {t0 : en_H} (g0 : ai_HG ah_G t0) (k5 : ai_hv t0 266 5 = some (.inl c)) (hc : c < 6) (h1 : 0 ≤ y1 ∧ y1 ≤ 63) (h2 : 0 ≤ y2 ∧ y2 ≤ 30) (h3 : 0 ≤ y3 ∧ y3 ≤ 29) (h4 : 0 ≤ y4 ∧ y4 ≤ 30) : ∃ r, en_u (d + 2) 273 [gx_r 266, .inr (.inl x), .inl y1, .inl y2, .inl y3, .inl y4] t0 n = some r ∧ ∃ t', r = (none, t', n, 0) ∧ ai_HG ah_G t' ∧ (∀ c' i, ¬ ((c' = 266 ∧ i = 5) ∨ ((c' = 267 ∨ c' = 268 ∨ c' = 269 ∨ c' = 270 ∨ c' = 271) ∧ i = c)) → ai_hv t' c' i = ai_hv t0 c' i) ∧ ai_hv t' 266 5 = some (.inl (c + 1)) ∧ ai_hv t' 267 c = some (.inr (.inl x)) ∧ ai_hv t' 268 c = some (.inl y1) ∧ ai_hv t' 269 c = some (.inl y2) ∧ ai_hv t' 270 c = some (.inl y3) ∧ ai_hv t' 271 c = some (.inl y4) := by
  refine en_u_ex (d := d + 1) rfl ?_
  show en_ex _ _ _ _ (0, [(0, gx_r 266), (1, .inr (.inl x)), (3, .inl y1), (4, .inl y2), (5, .inl y3), (6, .inl y4)], [], t0, n, 0) _
  refine ex_go (S := (1, [(0, gx_r 266), (1, .inr (.inl x)), (3, .inl y1), (4, .inl y2), (5, .inl y3), (6, .inl y4)], [gx_r 266], t0, n, 0)) rfl (fun _ => rfl) rfl ?_
  obtain ⟨_, r1, b2, rfl, q3⟩ := pc_isFull266 (d) n g0 k5 (by first | decide | omega)
  refine gx_callo (a := 266) rfl rfl g0 rfl rfl rfl r1 rfl ?_
  show en_ex _ _ _ _ (4, [(0, gx_r 266), (1, .inr (.inl x)), (3, .inl y1), (4, .inl y2), (5, .inl y3), (6, .inl y4)], [.inl b2], t0, n, 0) _
  refine gx_1f (c := .ne) rfl (by first | decide | omega) (show ¬ (b2 ≠ 0) from by omega) rfl ?_
  refine ex_go (S := (8, [(0, gx_r 266), (1, .inr (.inl x)), (3, .inl y1), (4, .inl y2), (5, .inl y3), (6, .inl y4)], [gx_r 266], t0, n, 0)) rfl (fun _ => rfl) rfl ?_
  refine gxo_ref (a := 266) (c := 267) rfl g0 rfl rfl rfl rfl rfl ?_
  refine ex_go (S := (12, [(0, gx_r 266), (1, .inr (.inl x)), (3, .inl y1), (4, .inl y2), (5, .inl y3), (6, .inl y4)], [gx_r 266, gx_r 267], t0, n, 0)) rfl (fun _ => rfl) rfl ?_
  refine gxo_get (a := 266) rfl g0 rfl rfl k5 rfl ?_
  refine ex_go (S := (16, [(0, gx_r 266), (1, .inr (.inl x)), (3, .inl y1), (4, .inl y2), (5, .inl y3), (6, .inl y4)], [.inr (.inl x), .inl c, gx_r 267], t0, n, 0)) rfl (fun _ => rfl) rfl ?_
  refine gx_apv (d := 1) rfl (fun _ => rfl) g0 rfl rfl rfl (show c < 6 from by omega) (gx_run1 (show c < 6 from hc)) ⟨_, rfl⟩ rfl (fun t104 g104 k104 e104 => ?_)
  have k5 : ai_hv t104 266 5 = some (.inl c) := (e104 266 5 (by first | decide | omega)).trans k5
  refine ex_go (S := (18, [(0, gx_r 266), (1, .inr (.inl x)), (3, .inl y1), (4, .inl y2), (5, .inl y3), (6, .inl y4)], [gx_r 266], t104, n, 0)) rfl (fun _ => rfl) rfl ?_
  refine gxo_ref (a := 266) (c := 268) rfl g104 rfl rfl rfl rfl rfl ?_
  refine ex_go (S := (22, [(0, gx_r 266), (1, .inr (.inl x)), (3, .inl y1), (4, .inl y2), (5, .inl y3), (6, .inl y4)], [gx_r 266, gx_r 268], t104, n, 0)) rfl (fun _ => rfl) rfl ?_
  refine gxo_get (a := 266) rfl g104 rfl rfl k5 rfl ?_
  refine ex_go (S := (26, [(0, gx_r 266), (1, .inr (.inl x)), (3, .inl y1), (4, .inl y2), (5, .inl y3), (6, .inl y4)], [.inl y1, .inl c, gx_r 268], t104, n, 0)) rfl (fun _ => rfl) rfl ?_
  refine gx_ap rfl (fun _ => rfl) g104 rfl rfl rfl (show c < 6 from by omega) (gx_run1 (show c < 6 from hc)) (ai_in_h (by first | decide | omega) (by first | decide | omega) (by first | decide | omega)) rfl (fun t106 g106 k106 e106 => ?_)
  have k7 : ai_hv t106 266 5 = some (.inl c) := (e106 266 5 (by first | decide | omega)).trans k5
  have k8 : ai_hv t106 267 c = some (.inr (.inl x)) := (e106 267 c (by first | decide | omega)).trans k104
  refine ex_go (S := (28, [(0, gx_r 266), (1, .inr (.inl x)), (3, .inl y1), (4, .inl y2), (5, .inl y3), (6, .inl y4)], [gx_r 266], t106, n, 0)) rfl (fun _ => rfl) rfl ?_
  refine gxo_ref (a := 266) (c := 269) rfl g106 rfl rfl rfl rfl rfl ?_
  refine ex_go (S := (32, [(0, gx_r 266), (1, .inr (.inl x)), (3, .inl y1), (4, .inl y2), (5, .inl y3), (6, .inl y4)], [gx_r 266, gx_r 269], t106, n, 0)) rfl (fun _ => rfl) rfl ?_
  refine gxo_get (a := 266) rfl g106 rfl rfl k7 rfl ?_
  refine ex_go (S := (37, [(0, gx_r 266), (1, .inr (.inl x)), (3, .inl y1), (4, .inl y2), (5, .inl y3), (6, .inl y4)], [.inl y2, .inl c, gx_r 269], t106, n, 0)) rfl (fun _ => rfl) rfl ?_
  refine gx_ap rfl (fun _ => rfl) g106 rfl rfl rfl (show c < 6 from by omega) (gx_run1 (show c < 6 from hc)) (ai_in_h (by first | decide | omega) (by first | decide | omega) (by first | decide | omega)) rfl (fun t109 g109 k109 e109 => ?_)
  have k10 : ai_hv t109 266 5 = some (.inl c) := (e109 266 5 (by first | decide | omega)).trans k7
  have k11 : ai_hv t109 267 c = some (.inr (.inl x)) := (e109 267 c (by first | decide | omega)).trans k8
  have k12 : ai_hv t109 268 c = some (.inl y1) := (e109 268 c (by first | decide | omega)).trans k106
  refine ex_go (S := (39, [(0, gx_r 266), (1, .inr (.inl x)), (3, .inl y1), (4, .inl y2), (5, .inl y3), (6, .inl y4)], [gx_r 266], t109, n, 0)) rfl (fun _ => rfl) rfl ?_
  refine gxo_ref (a := 266) (c := 270) rfl g109 rfl rfl rfl rfl rfl ?_
  refine ex_go (S := (43, [(0, gx_r 266), (1, .inr (.inl x)), (3, .inl y1), (4, .inl y2), (5, .inl y3), (6, .inl y4)], [gx_r 266, gx_r 270], t109, n, 0)) rfl (fun _ => rfl) rfl ?_
  refine gxo_get (a := 266) rfl g109 rfl rfl k10 rfl ?_
  refine ex_go (S := (48, [(0, gx_r 266), (1, .inr (.inl x)), (3, .inl y1), (4, .inl y2), (5, .inl y3), (6, .inl y4)], [.inl y3, .inl c, gx_r 270], t109, n, 0)) rfl (fun _ => rfl) rfl ?_
  refine gx_ap rfl (fun _ => rfl) g109 rfl rfl rfl (show c < 6 from by omega) (gx_run1 (show c < 6 from hc)) (ai_in_h (by first | decide | omega) (by first | decide | omega) (by first | decide | omega)) rfl (fun t113 g113 k113 e113 => ?_)
  have k14 : ai_hv t113 266 5 = some (.inl c) := (e113 266 5 (by first | decide | omega)).trans k10
  have k15 : ai_hv t113 267 c = some (.inr (.inl x)) := (e113 267 c (by first | decide | omega)).trans k11
  have k16 : ai_hv t113 268 c = some (.inl y1) := (e113 268 c (by first | decide | omega)).trans k12
  have k17 : ai_hv t113 269 c = some (.inl y2) := (e113 269 c (by first | decide | omega)).trans k109
  refine ex_go (S := (50, [(0, gx_r 266), (1, .inr (.inl x)), (3, .inl y1), (4, .inl y2), (5, .inl y3), (6, .inl y4)], [gx_r 266], t113, n, 0)) rfl (fun _ => rfl) rfl ?_
  refine gxo_ref (a := 266) (c := 271) rfl g113 rfl rfl rfl rfl rfl ?_
  refine ex_go (S := (54, [(0, gx_r 266), (1, .inr (.inl x)), (3, .inl y1), (4, .inl y2), (5, .inl y3), (6, .inl y4)], [gx_r 266, gx_r 271], t113, n, 0)) rfl (fun _ => rfl) rfl ?_
  refine gxo_get (a := 266) rfl g113 rfl rfl k14 rfl ?_
  refine ex_go (S := (59, [(0, gx_r 266), (1, .inr (.inl x)), (3, .inl y1), (4, .inl y2), (5, .inl y3), (6, .inl y4)], [.inl y4, .inl c, gx_r 271], t113, n, 0)) rfl (fun _ => rfl) rfl ?_
  refine gx_ap rfl (fun _ => rfl) g113 rfl rfl rfl (show c < 6 from by omega) (gx_run1 (show c < 6 from hc)) (ai_in_h (by first | decide | omega) (by first | decide | omega) (by first | decide | omega)) rfl (fun t118 g118 k118 e118 => ?_)
  have k19 : ai_hv t118 266 5 = some (.inl c) := (e118 266 5 (by first | decide | omega)).trans k14
  have k20 : ai_hv t118 267 c = some (.inr (.inl x)) := (e118 267 c (by first | decide | omega)).trans k15
  have k21 : ai_hv t118 268 c = some (.inl y1) := (e118 268 c (by first | decide | omega)).trans k16
  have k22 : ai_hv t118 269 c = some (.inl y2) := (e118 269 c (by first | decide | omega)).trans k17
  have k23 : ai_hv t118 270 c = some (.inl y3) := (e118 270 c (by first | decide | omega)).trans k113
  refine ex_go (S := (61, [(0, gx_r 266), (1, .inr (.inl x)), (3, .inl y1), (4, .inl y2), (5, .inl y3), (6, .inl y4)], [gx_r 266], t118, n, 0)) rfl (fun _ => rfl) rfl ?_
  refine ex_go (S := (62, [(0, gx_r 266), (1, .inr (.inl x)), (3, .inl y1), (4, .inl y2), (5, .inl y3), (6, .inl y4)], [gx_r 266, gx_r 266], t118, n, 0)) rfl (fun _ => rfl) rfl ?_
  refine gxo_get (a := 266) rfl g118 rfl rfl k19 rfl ?_
  refine ex_go (S := (66, [(0, gx_r 266), (1, .inr (.inl x)), (3, .inl y1), (4, .inl y2), (5, .inl y3), (6, .inl y4)], [.inl 1, .inl c, gx_r 266], t118, n, 0)) rfl (fun _ => rfl) rfl ?_
  refine ex_iadd rfl (by first | decide | omega) rfl ?_
  refine gxo_put (a := 266) rfl g118 rfl rfl rfl (ai_in_h (by first | decide | omega) (by first | decide | omega) (by first | decide | omega)) rfl (fun t124 g124 k124 e124 => ?_)
  have k25 : ai_hv t124 267 c = some (.inr (.inl x)) := (e124 267 c (by first | decide | omega)).trans k20
  have k26 : ai_hv t124 268 c = some (.inl y1) := (e124 268 c (by first | decide | omega)).trans k21
  have k27 : ai_hv t124 269 c = some (.inl y2) := (e124 269 c (by first | decide | omega)).trans k22
  have k28 : ai_hv t124 270 c = some (.inl y3) := (e124 270 c (by first | decide | omega)).trans k23
  have k29 : ai_hv t124 271 c = some (.inl y4) := (e124 271 c (by first | decide | omega)).trans k118
  refine ex_ret (r := (none, t124, n, 0)) rfl (fun _ => rfl) ?_
  exact ⟨_, rfl, t124, rfl, g124, (fun c' i h => (e124 c' i (by first | decide | omega)).trans ((e118 c' i (by first | decide | omega)).trans ((e113 c' i (by first | decide | omega)).trans ((e109 c' i (by first | decide | omega)).trans ((e106 c' i (by first | decide | omega)).trans (e104 c' i (by first | decide | omega))))))), k124, k25, k26, k27, k28, k29⟩
theorem pc_isFull272 (d n : Nat) {c : Nat} {t0 : en_H} (g0 : ai_HG ah_G t0) (k5 : ai_hv t0 272 5 = some (.inl c)) (hc : c ≤ 2) : ∃ r, en_u (d + 1) 272 [gx_r 272] t0 n = some r ∧ ∃ b, r = (some (.inl b), t0, n, 0) ∧ b ≤ 1 ∧ (b = 1 ↔ c = 2) := by
  refine en_u_ex rfl ?_
  show en_ex _ _ _ _ (0, [(0, gx_r 272)], [], t0, n, 0) _
  refine ex_go (S := (1, [(0, gx_r 272)], [gx_r 272], t0, n, 0)) rfl (fun _ => rfl) rfl ?_
  refine gxo_get (a := 272) rfl g0 rfl rfl k5 rfl ?_
  refine ex_go (S := (5, [(0, gx_r 272)], [gx_r 272, .inl c], t0, n, 0)) rfl (fun _ => rfl) rfl ?_
  refine gxo_ref (a := 272) (c := 273) rfl g0 rfl rfl rfl rfl rfl ?_
  refine gx_alen (a := 273) (m := 2) rfl g0 rfl rfl rfl ?_
  by_cases hc1 : c < 2
  · refine gx_2t (c := .lt) rfl (by first | decide | omega) (by first | decide | omega) hc1 rfl ?_
    refine ex_go (S := (17, [(0, gx_r 272)], [.inl 0], t0, n, 0)) rfl (fun _ => rfl) rfl ?_
    refine ex_ret (r := (some (.inl 0), t0, n, 0)) rfl (fun _ => rfl) ?_
    exact ⟨_, rfl, 0, rfl, by omega⟩
  · refine gx_2f (c := .lt) rfl (by first | decide | omega) (by first | decide | omega) hc1 rfl ?_
    refine ex_go (S := (13, [(0, gx_r 272)], [.inl 1], t0, n, 0)) rfl (fun _ => rfl) rfl ?_
    refine ex_go (S := (17, [(0, gx_r 272)], [.inl 1], t0, n, 0)) rfl (fun _ => rfl) rfl ?_
    refine ex_ret (r := (some (.inl 1), t0, n, 0)) rfl (fun _ => rfl) ?_
    exact ⟨_, rfl, 1, rfl, by omega⟩
theorem pc_add272 (d n : Nat) {c x y1 y2 y3 y4 : Nat} {t0 : en_H} (g0 : ai_HG ah_G t0) (k5 : ai_hv t0 272 5 = some (.inl c)) (hc : c < 2) (h1 : 0 ≤ y1 ∧ y1 ≤ 5) (h2 : 0 ≤ y2 ∧ y2 ≤ 30) (h3 : 0 ≤ y3 ∧ y3 ≤ 9999) (h4 : 0 ≤ y4 ∧ y4 ≤ 0) : ∃ r, en_u (d + 2) 273 [gx_r 272, .inr (.inl x), .inl y1, .inl y2, .inl y3, .inl y4] t0 n = some r ∧ ∃ t', r = (none, t', n, 0) ∧ ai_HG ah_G t' ∧ (∀ c' i, ¬ ((c' = 272 ∧ i = 5) ∨ ((c' = 273 ∨ c' = 274 ∨ c' = 275 ∨ c' = 276 ∨ c' = 277) ∧ i = c)) → ai_hv t' c' i = ai_hv t0 c' i) ∧ ai_hv t' 272 5 = some (.inl (c + 1)) ∧ ai_hv t' 273 c = some (.inr (.inl x)) ∧ ai_hv t' 274 c = some (.inl y1) ∧ ai_hv t' 275 c = some (.inl y2) ∧ ai_hv t' 276 c = some (.inl y3) ∧ ai_hv t' 277 c = some (.inl y4) := by
  refine en_u_ex (d := d + 1) rfl ?_
  show en_ex _ _ _ _ (0, [(0, gx_r 272), (1, .inr (.inl x)), (3, .inl y1), (4, .inl y2), (5, .inl y3), (6, .inl y4)], [], t0, n, 0) _
  refine ex_go (S := (1, [(0, gx_r 272), (1, .inr (.inl x)), (3, .inl y1), (4, .inl y2), (5, .inl y3), (6, .inl y4)], [gx_r 272], t0, n, 0)) rfl (fun _ => rfl) rfl ?_
  obtain ⟨_, r1, b2, rfl, q3⟩ := pc_isFull272 (d) n g0 k5 (by first | decide | omega)
  refine gx_callo (a := 272) rfl rfl g0 rfl rfl rfl r1 rfl ?_
  show en_ex _ _ _ _ (4, [(0, gx_r 272), (1, .inr (.inl x)), (3, .inl y1), (4, .inl y2), (5, .inl y3), (6, .inl y4)], [.inl b2], t0, n, 0) _
  refine gx_1f (c := .ne) rfl (by first | decide | omega) (show ¬ (b2 ≠ 0) from by omega) rfl ?_
  refine ex_go (S := (8, [(0, gx_r 272), (1, .inr (.inl x)), (3, .inl y1), (4, .inl y2), (5, .inl y3), (6, .inl y4)], [gx_r 272], t0, n, 0)) rfl (fun _ => rfl) rfl ?_
  refine gxo_ref (a := 272) (c := 273) rfl g0 rfl rfl rfl rfl rfl ?_
  refine ex_go (S := (12, [(0, gx_r 272), (1, .inr (.inl x)), (3, .inl y1), (4, .inl y2), (5, .inl y3), (6, .inl y4)], [gx_r 272, gx_r 273], t0, n, 0)) rfl (fun _ => rfl) rfl ?_
  refine gxo_get (a := 272) rfl g0 rfl rfl k5 rfl ?_
  refine ex_go (S := (16, [(0, gx_r 272), (1, .inr (.inl x)), (3, .inl y1), (4, .inl y2), (5, .inl y3), (6, .inl y4)], [.inr (.inl x), .inl c, gx_r 273], t0, n, 0)) rfl (fun _ => rfl) rfl ?_
  refine gx_apv (d := 1) rfl (fun _ => rfl) g0 rfl rfl rfl (show c < 2 from by omega) (gx_run1 (show c < 2 from hc)) ⟨_, rfl⟩ rfl (fun t104 g104 k104 e104 => ?_)
  have k5 : ai_hv t104 272 5 = some (.inl c) := (e104 272 5 (by first | decide | omega)).trans k5
  refine ex_go (S := (18, [(0, gx_r 272), (1, .inr (.inl x)), (3, .inl y1), (4, .inl y2), (5, .inl y3), (6, .inl y4)], [gx_r 272], t104, n, 0)) rfl (fun _ => rfl) rfl ?_
  refine gxo_ref (a := 272) (c := 274) rfl g104 rfl rfl rfl rfl rfl ?_
  refine ex_go (S := (22, [(0, gx_r 272), (1, .inr (.inl x)), (3, .inl y1), (4, .inl y2), (5, .inl y3), (6, .inl y4)], [gx_r 272, gx_r 274], t104, n, 0)) rfl (fun _ => rfl) rfl ?_
  refine gxo_get (a := 272) rfl g104 rfl rfl k5 rfl ?_
  refine ex_go (S := (26, [(0, gx_r 272), (1, .inr (.inl x)), (3, .inl y1), (4, .inl y2), (5, .inl y3), (6, .inl y4)], [.inl y1, .inl c, gx_r 274], t104, n, 0)) rfl (fun _ => rfl) rfl ?_
  refine gx_ap rfl (fun _ => rfl) g104 rfl rfl rfl (show c < 2 from by omega) (gx_run1 (show c < 2 from hc)) (ai_in_h (by first | decide | omega) (by first | decide | omega) (by first | decide | omega)) rfl (fun t106 g106 k106 e106 => ?_)
  have k7 : ai_hv t106 272 5 = some (.inl c) := (e106 272 5 (by first | decide | omega)).trans k5
  have k8 : ai_hv t106 273 c = some (.inr (.inl x)) := (e106 273 c (by first | decide | omega)).trans k104
  refine ex_go (S := (28, [(0, gx_r 272), (1, .inr (.inl x)), (3, .inl y1), (4, .inl y2), (5, .inl y3), (6, .inl y4)], [gx_r 272], t106, n, 0)) rfl (fun _ => rfl) rfl ?_
  refine gxo_ref (a := 272) (c := 275) rfl g106 rfl rfl rfl rfl rfl ?_
  refine ex_go (S := (32, [(0, gx_r 272), (1, .inr (.inl x)), (3, .inl y1), (4, .inl y2), (5, .inl y3), (6, .inl y4)], [gx_r 272, gx_r 275], t106, n, 0)) rfl (fun _ => rfl) rfl ?_
  refine gxo_get (a := 272) rfl g106 rfl rfl k7 rfl ?_
  refine ex_go (S := (37, [(0, gx_r 272), (1, .inr (.inl x)), (3, .inl y1), (4, .inl y2), (5, .inl y3), (6, .inl y4)], [.inl y2, .inl c, gx_r 275], t106, n, 0)) rfl (fun _ => rfl) rfl ?_
  refine gx_ap rfl (fun _ => rfl) g106 rfl rfl rfl (show c < 2 from by omega) (gx_run1 (show c < 2 from hc)) (ai_in_h (by first | decide | omega) (by first | decide | omega) (by first | decide | omega)) rfl (fun t109 g109 k109 e109 => ?_)
  have k10 : ai_hv t109 272 5 = some (.inl c) := (e109 272 5 (by first | decide | omega)).trans k7
  have k11 : ai_hv t109 273 c = some (.inr (.inl x)) := (e109 273 c (by first | decide | omega)).trans k8
  have k12 : ai_hv t109 274 c = some (.inl y1) := (e109 274 c (by first | decide | omega)).trans k106
  refine ex_go (S := (39, [(0, gx_r 272), (1, .inr (.inl x)), (3, .inl y1), (4, .inl y2), (5, .inl y3), (6, .inl y4)], [gx_r 272], t109, n, 0)) rfl (fun _ => rfl) rfl ?_
  refine gxo_ref (a := 272) (c := 276) rfl g109 rfl rfl rfl rfl rfl ?_
  refine ex_go (S := (43, [(0, gx_r 272), (1, .inr (.inl x)), (3, .inl y1), (4, .inl y2), (5, .inl y3), (6, .inl y4)], [gx_r 272, gx_r 276], t109, n, 0)) rfl (fun _ => rfl) rfl ?_
  refine gxo_get (a := 272) rfl g109 rfl rfl k10 rfl ?_
  refine ex_go (S := (48, [(0, gx_r 272), (1, .inr (.inl x)), (3, .inl y1), (4, .inl y2), (5, .inl y3), (6, .inl y4)], [.inl y3, .inl c, gx_r 276], t109, n, 0)) rfl (fun _ => rfl) rfl ?_
  refine gx_ap rfl (fun _ => rfl) g109 rfl rfl rfl (show c < 2 from by omega) (gx_run1 (show c < 2 from hc)) (ai_in_h (by first | decide | omega) (by first | decide | omega) (by first | decide | omega)) rfl (fun t113 g113 k113 e113 => ?_)
  have k14 : ai_hv t113 272 5 = some (.inl c) := (e113 272 5 (by first | decide | omega)).trans k10
  have k15 : ai_hv t113 273 c = some (.inr (.inl x)) := (e113 273 c (by first | decide | omega)).trans k11
  have k16 : ai_hv t113 274 c = some (.inl y1) := (e113 274 c (by first | decide | omega)).trans k12
  have k17 : ai_hv t113 275 c = some (.inl y2) := (e113 275 c (by first | decide | omega)).trans k109
  refine ex_go (S := (50, [(0, gx_r 272), (1, .inr (.inl x)), (3, .inl y1), (4, .inl y2), (5, .inl y3), (6, .inl y4)], [gx_r 272], t113, n, 0)) rfl (fun _ => rfl) rfl ?_
  refine gxo_ref (a := 272) (c := 277) rfl g113 rfl rfl rfl rfl rfl ?_
  refine ex_go (S := (54, [(0, gx_r 272), (1, .inr (.inl x)), (3, .inl y1), (4, .inl y2), (5, .inl y3), (6, .inl y4)], [gx_r 272, gx_r 277], t113, n, 0)) rfl (fun _ => rfl) rfl ?_
  refine gxo_get (a := 272) rfl g113 rfl rfl k14 rfl ?_
  refine ex_go (S := (59, [(0, gx_r 272), (1, .inr (.inl x)), (3, .inl y1), (4, .inl y2), (5, .inl y3), (6, .inl y4)], [.inl y4, .inl c, gx_r 277], t113, n, 0)) rfl (fun _ => rfl) rfl ?_
  refine gx_ap rfl (fun _ => rfl) g113 rfl rfl rfl (show c < 2 from by omega) (gx_run1 (show c < 2 from hc)) (ai_in_h (by first | decide | omega) (by first | decide | omega) (by first | decide | omega)) rfl (fun t118 g118 k118 e118 => ?_)
  have k19 : ai_hv t118 272 5 = some (.inl c) := (e118 272 5 (by first | decide | omega)).trans k14
  have k20 : ai_hv t118 273 c = some (.inr (.inl x)) := (e118 273 c (by first | decide | omega)).trans k15
  have k21 : ai_hv t118 274 c = some (.inl y1) := (e118 274 c (by first | decide | omega)).trans k16
  have k22 : ai_hv t118 275 c = some (.inl y2) := (e118 275 c (by first | decide | omega)).trans k17
  have k23 : ai_hv t118 276 c = some (.inl y3) := (e118 276 c (by first | decide | omega)).trans k113
  refine ex_go (S := (61, [(0, gx_r 272), (1, .inr (.inl x)), (3, .inl y1), (4, .inl y2), (5, .inl y3), (6, .inl y4)], [gx_r 272], t118, n, 0)) rfl (fun _ => rfl) rfl ?_
  refine ex_go (S := (62, [(0, gx_r 272), (1, .inr (.inl x)), (3, .inl y1), (4, .inl y2), (5, .inl y3), (6, .inl y4)], [gx_r 272, gx_r 272], t118, n, 0)) rfl (fun _ => rfl) rfl ?_
  refine gxo_get (a := 272) rfl g118 rfl rfl k19 rfl ?_
  refine ex_go (S := (66, [(0, gx_r 272), (1, .inr (.inl x)), (3, .inl y1), (4, .inl y2), (5, .inl y3), (6, .inl y4)], [.inl 1, .inl c, gx_r 272], t118, n, 0)) rfl (fun _ => rfl) rfl ?_
  refine ex_iadd rfl (by first | decide | omega) rfl ?_
  refine gxo_put (a := 272) rfl g118 rfl rfl rfl (ai_in_h (by first | decide | omega) (by first | decide | omega) (by first | decide | omega)) rfl (fun t124 g124 k124 e124 => ?_)
  have k25 : ai_hv t124 273 c = some (.inr (.inl x)) := (e124 273 c (by first | decide | omega)).trans k20
  have k26 : ai_hv t124 274 c = some (.inl y1) := (e124 274 c (by first | decide | omega)).trans k21
  have k27 : ai_hv t124 275 c = some (.inl y2) := (e124 275 c (by first | decide | omega)).trans k22
  have k28 : ai_hv t124 276 c = some (.inl y3) := (e124 276 c (by first | decide | omega)).trans k23
  have k29 : ai_hv t124 277 c = some (.inl y4) := (e124 277 c (by first | decide | omega)).trans k118
  refine ex_ret (r := (none, t124, n, 0)) rfl (fun _ => rfl) ?_
  exact ⟨_, rfl, t124, rfl, g124, (fun c' i h => (e124 c' i (by first | decide | omega)).trans ((e118 c' i (by first | decide | omega)).trans ((e113 c' i (by first | decide | omega)).trans ((e109 c' i (by first | decide | omega)).trans ((e106 c' i (by first | decide | omega)).trans (e104 c' i (by first | decide | omega))))))), k124, k25, k26, k27, k28, k29⟩
theorem pc_isFull278 (d n : Nat) {c : Nat} {t0 : en_H} (g0 : ai_HG ah_G t0) (k5 : ai_hv t0 278 5 = some (.inl c)) (hc : c ≤ 5) : ∃ r, en_u (d + 1) 272 [gx_r 278] t0 n = some r ∧ ∃ b, r = (some (.inl b), t0, n, 0) ∧ b ≤ 1 ∧ (b = 1 ↔ c = 5) := by
  refine en_u_ex rfl ?_
  show en_ex _ _ _ _ (0, [(0, gx_r 278)], [], t0, n, 0) _
  refine ex_go (S := (1, [(0, gx_r 278)], [gx_r 278], t0, n, 0)) rfl (fun _ => rfl) rfl ?_
  refine gxo_get (a := 278) rfl g0 rfl rfl k5 rfl ?_
  refine ex_go (S := (5, [(0, gx_r 278)], [gx_r 278, .inl c], t0, n, 0)) rfl (fun _ => rfl) rfl ?_
  refine gxo_ref (a := 278) (c := 279) rfl g0 rfl rfl rfl rfl rfl ?_
  refine gx_alen (a := 279) (m := 5) rfl g0 rfl rfl rfl ?_
  by_cases hc1 : c < 5
  · refine gx_2t (c := .lt) rfl (by first | decide | omega) (by first | decide | omega) hc1 rfl ?_
    refine ex_go (S := (17, [(0, gx_r 278)], [.inl 0], t0, n, 0)) rfl (fun _ => rfl) rfl ?_
    refine ex_ret (r := (some (.inl 0), t0, n, 0)) rfl (fun _ => rfl) ?_
    exact ⟨_, rfl, 0, rfl, by omega⟩
  · refine gx_2f (c := .lt) rfl (by first | decide | omega) (by first | decide | omega) hc1 rfl ?_
    refine ex_go (S := (13, [(0, gx_r 278)], [.inl 1], t0, n, 0)) rfl (fun _ => rfl) rfl ?_
    refine ex_go (S := (17, [(0, gx_r 278)], [.inl 1], t0, n, 0)) rfl (fun _ => rfl) rfl ?_
    refine ex_ret (r := (some (.inl 1), t0, n, 0)) rfl (fun _ => rfl) ?_
    exact ⟨_, rfl, 1, rfl, by omega⟩
theorem pc_add278 (d n : Nat) {c x y1 y2 y3 y4 : Nat} {t0 : en_H} (g0 : ai_HG ah_G t0) (k5 : ai_hv t0 278 5 = some (.inl c)) (hc : c < 5) (h1 : 0 ≤ y1 ∧ y1 ≤ 10) (h2 : 0 ≤ y2 ∧ y2 ≤ 10) (h3 : 0 ≤ y3 ∧ y3 ≤ 0) (h4 : 0 ≤ y4 ∧ y4 ≤ 0) : ∃ r, en_u (d + 2) 273 [gx_r 278, .inr (.inl x), .inl y1, .inl y2, .inl y3, .inl y4] t0 n = some r ∧ ∃ t', r = (none, t', n, 0) ∧ ai_HG ah_G t' ∧ (∀ c' i, ¬ ((c' = 278 ∧ i = 5) ∨ ((c' = 279 ∨ c' = 280 ∨ c' = 281 ∨ c' = 282 ∨ c' = 283) ∧ i = c)) → ai_hv t' c' i = ai_hv t0 c' i) ∧ ai_hv t' 278 5 = some (.inl (c + 1)) ∧ ai_hv t' 279 c = some (.inr (.inl x)) ∧ ai_hv t' 280 c = some (.inl y1) ∧ ai_hv t' 281 c = some (.inl y2) ∧ ai_hv t' 282 c = some (.inl y3) ∧ ai_hv t' 283 c = some (.inl y4) := by
  refine en_u_ex (d := d + 1) rfl ?_
  show en_ex _ _ _ _ (0, [(0, gx_r 278), (1, .inr (.inl x)), (3, .inl y1), (4, .inl y2), (5, .inl y3), (6, .inl y4)], [], t0, n, 0) _
  refine ex_go (S := (1, [(0, gx_r 278), (1, .inr (.inl x)), (3, .inl y1), (4, .inl y2), (5, .inl y3), (6, .inl y4)], [gx_r 278], t0, n, 0)) rfl (fun _ => rfl) rfl ?_
  obtain ⟨_, r1, b2, rfl, q3⟩ := pc_isFull278 (d) n g0 k5 (by first | decide | omega)
  refine gx_callo (a := 278) rfl rfl g0 rfl rfl rfl r1 rfl ?_
  show en_ex _ _ _ _ (4, [(0, gx_r 278), (1, .inr (.inl x)), (3, .inl y1), (4, .inl y2), (5, .inl y3), (6, .inl y4)], [.inl b2], t0, n, 0) _
  refine gx_1f (c := .ne) rfl (by first | decide | omega) (show ¬ (b2 ≠ 0) from by omega) rfl ?_
  refine ex_go (S := (8, [(0, gx_r 278), (1, .inr (.inl x)), (3, .inl y1), (4, .inl y2), (5, .inl y3), (6, .inl y4)], [gx_r 278], t0, n, 0)) rfl (fun _ => rfl) rfl ?_
  refine gxo_ref (a := 278) (c := 279) rfl g0 rfl rfl rfl rfl rfl ?_
  refine ex_go (S := (12, [(0, gx_r 278), (1, .inr (.inl x)), (3, .inl y1), (4, .inl y2), (5, .inl y3), (6, .inl y4)], [gx_r 278, gx_r 279], t0, n, 0)) rfl (fun _ => rfl) rfl ?_
  refine gxo_get (a := 278) rfl g0 rfl rfl k5 rfl ?_
  refine ex_go (S := (16, [(0, gx_r 278), (1, .inr (.inl x)), (3, .inl y1), (4, .inl y2), (5, .inl y3), (6, .inl y4)], [.inr (.inl x), .inl c, gx_r 279], t0, n, 0)) rfl (fun _ => rfl) rfl ?_
  refine gx_apv (d := 1) rfl (fun _ => rfl) g0 rfl rfl rfl (show c < 5 from by omega) (gx_run1 (show c < 5 from hc)) ⟨_, rfl⟩ rfl (fun t104 g104 k104 e104 => ?_)
  have k5 : ai_hv t104 278 5 = some (.inl c) := (e104 278 5 (by first | decide | omega)).trans k5
  refine ex_go (S := (18, [(0, gx_r 278), (1, .inr (.inl x)), (3, .inl y1), (4, .inl y2), (5, .inl y3), (6, .inl y4)], [gx_r 278], t104, n, 0)) rfl (fun _ => rfl) rfl ?_
  refine gxo_ref (a := 278) (c := 280) rfl g104 rfl rfl rfl rfl rfl ?_
  refine ex_go (S := (22, [(0, gx_r 278), (1, .inr (.inl x)), (3, .inl y1), (4, .inl y2), (5, .inl y3), (6, .inl y4)], [gx_r 278, gx_r 280], t104, n, 0)) rfl (fun _ => rfl) rfl ?_
  refine gxo_get (a := 278) rfl g104 rfl rfl k5 rfl ?_
  refine ex_go (S := (26, [(0, gx_r 278), (1, .inr (.inl x)), (3, .inl y1), (4, .inl y2), (5, .inl y3), (6, .inl y4)], [.inl y1, .inl c, gx_r 280], t104, n, 0)) rfl (fun _ => rfl) rfl ?_
  refine gx_ap rfl (fun _ => rfl) g104 rfl rfl rfl (show c < 5 from by omega) (gx_run1 (show c < 5 from hc)) (ai_in_h (by first | decide | omega) (by first | decide | omega) (by first | decide | omega)) rfl (fun t106 g106 k106 e106 => ?_)
  have k7 : ai_hv t106 278 5 = some (.inl c) := (e106 278 5 (by first | decide | omega)).trans k5
  have k8 : ai_hv t106 279 c = some (.inr (.inl x)) := (e106 279 c (by first | decide | omega)).trans k104
  refine ex_go (S := (28, [(0, gx_r 278), (1, .inr (.inl x)), (3, .inl y1), (4, .inl y2), (5, .inl y3), (6, .inl y4)], [gx_r 278], t106, n, 0)) rfl (fun _ => rfl) rfl ?_
  refine gxo_ref (a := 278) (c := 281) rfl g106 rfl rfl rfl rfl rfl ?_
  refine ex_go (S := (32, [(0, gx_r 278), (1, .inr (.inl x)), (3, .inl y1), (4, .inl y2), (5, .inl y3), (6, .inl y4)], [gx_r 278, gx_r 281], t106, n, 0)) rfl (fun _ => rfl) rfl ?_
  refine gxo_get (a := 278) rfl g106 rfl rfl k7 rfl ?_
  refine ex_go (S := (37, [(0, gx_r 278), (1, .inr (.inl x)), (3, .inl y1), (4, .inl y2), (5, .inl y3), (6, .inl y4)], [.inl y2, .inl c, gx_r 281], t106, n, 0)) rfl (fun _ => rfl) rfl ?_
  refine gx_ap rfl (fun _ => rfl) g106 rfl rfl rfl (show c < 5 from by omega) (gx_run1 (show c < 5 from hc)) (ai_in_h (by first | decide | omega) (by first | decide | omega) (by first | decide | omega)) rfl (fun t109 g109 k109 e109 => ?_)
  have k10 : ai_hv t109 278 5 = some (.inl c) := (e109 278 5 (by first | decide | omega)).trans k7
  have k11 : ai_hv t109 279 c = some (.inr (.inl x)) := (e109 279 c (by first | decide | omega)).trans k8
  have k12 : ai_hv t109 280 c = some (.inl y1) := (e109 280 c (by first | decide | omega)).trans k106
  refine ex_go (S := (39, [(0, gx_r 278), (1, .inr (.inl x)), (3, .inl y1), (4, .inl y2), (5, .inl y3), (6, .inl y4)], [gx_r 278], t109, n, 0)) rfl (fun _ => rfl) rfl ?_
  refine gxo_ref (a := 278) (c := 282) rfl g109 rfl rfl rfl rfl rfl ?_
  refine ex_go (S := (43, [(0, gx_r 278), (1, .inr (.inl x)), (3, .inl y1), (4, .inl y2), (5, .inl y3), (6, .inl y4)], [gx_r 278, gx_r 282], t109, n, 0)) rfl (fun _ => rfl) rfl ?_
  refine gxo_get (a := 278) rfl g109 rfl rfl k10 rfl ?_
  refine ex_go (S := (48, [(0, gx_r 278), (1, .inr (.inl x)), (3, .inl y1), (4, .inl y2), (5, .inl y3), (6, .inl y4)], [.inl y3, .inl c, gx_r 282], t109, n, 0)) rfl (fun _ => rfl) rfl ?_
  refine gx_ap rfl (fun _ => rfl) g109 rfl rfl rfl (show c < 5 from by omega) (gx_run1 (show c < 5 from hc)) (ai_in_h (by first | decide | omega) (by first | decide | omega) (by first | decide | omega)) rfl (fun t113 g113 k113 e113 => ?_)
  have k14 : ai_hv t113 278 5 = some (.inl c) := (e113 278 5 (by first | decide | omega)).trans k10
  have k15 : ai_hv t113 279 c = some (.inr (.inl x)) := (e113 279 c (by first | decide | omega)).trans k11
  have k16 : ai_hv t113 280 c = some (.inl y1) := (e113 280 c (by first | decide | omega)).trans k12
  have k17 : ai_hv t113 281 c = some (.inl y2) := (e113 281 c (by first | decide | omega)).trans k109
  refine ex_go (S := (50, [(0, gx_r 278), (1, .inr (.inl x)), (3, .inl y1), (4, .inl y2), (5, .inl y3), (6, .inl y4)], [gx_r 278], t113, n, 0)) rfl (fun _ => rfl) rfl ?_
  refine gxo_ref (a := 278) (c := 283) rfl g113 rfl rfl rfl rfl rfl ?_
  refine ex_go (S := (54, [(0, gx_r 278), (1, .inr (.inl x)), (3, .inl y1), (4, .inl y2), (5, .inl y3), (6, .inl y4)], [gx_r 278, gx_r 283], t113, n, 0)) rfl (fun _ => rfl) rfl ?_
  refine gxo_get (a := 278) rfl g113 rfl rfl k14 rfl ?_
  refine ex_go (S := (59, [(0, gx_r 278), (1, .inr (.inl x)), (3, .inl y1), (4, .inl y2), (5, .inl y3), (6, .inl y4)], [.inl y4, .inl c, gx_r 283], t113, n, 0)) rfl (fun _ => rfl) rfl ?_
  refine gx_ap rfl (fun _ => rfl) g113 rfl rfl rfl (show c < 5 from by omega) (gx_run1 (show c < 5 from hc)) (ai_in_h (by first | decide | omega) (by first | decide | omega) (by first | decide | omega)) rfl (fun t118 g118 k118 e118 => ?_)
  have k19 : ai_hv t118 278 5 = some (.inl c) := (e118 278 5 (by first | decide | omega)).trans k14
  have k20 : ai_hv t118 279 c = some (.inr (.inl x)) := (e118 279 c (by first | decide | omega)).trans k15
  have k21 : ai_hv t118 280 c = some (.inl y1) := (e118 280 c (by first | decide | omega)).trans k16
  have k22 : ai_hv t118 281 c = some (.inl y2) := (e118 281 c (by first | decide | omega)).trans k17
  have k23 : ai_hv t118 282 c = some (.inl y3) := (e118 282 c (by first | decide | omega)).trans k113
  refine ex_go (S := (61, [(0, gx_r 278), (1, .inr (.inl x)), (3, .inl y1), (4, .inl y2), (5, .inl y3), (6, .inl y4)], [gx_r 278], t118, n, 0)) rfl (fun _ => rfl) rfl ?_
  refine ex_go (S := (62, [(0, gx_r 278), (1, .inr (.inl x)), (3, .inl y1), (4, .inl y2), (5, .inl y3), (6, .inl y4)], [gx_r 278, gx_r 278], t118, n, 0)) rfl (fun _ => rfl) rfl ?_
  refine gxo_get (a := 278) rfl g118 rfl rfl k19 rfl ?_
  refine ex_go (S := (66, [(0, gx_r 278), (1, .inr (.inl x)), (3, .inl y1), (4, .inl y2), (5, .inl y3), (6, .inl y4)], [.inl 1, .inl c, gx_r 278], t118, n, 0)) rfl (fun _ => rfl) rfl ?_
  refine ex_iadd rfl (by first | decide | omega) rfl ?_
  refine gxo_put (a := 278) rfl g118 rfl rfl rfl (ai_in_h (by first | decide | omega) (by first | decide | omega) (by first | decide | omega)) rfl (fun t124 g124 k124 e124 => ?_)
  have k25 : ai_hv t124 279 c = some (.inr (.inl x)) := (e124 279 c (by first | decide | omega)).trans k20
  have k26 : ai_hv t124 280 c = some (.inl y1) := (e124 280 c (by first | decide | omega)).trans k21
  have k27 : ai_hv t124 281 c = some (.inl y2) := (e124 281 c (by first | decide | omega)).trans k22
  have k28 : ai_hv t124 282 c = some (.inl y3) := (e124 282 c (by first | decide | omega)).trans k23
  have k29 : ai_hv t124 283 c = some (.inl y4) := (e124 283 c (by first | decide | omega)).trans k118
  refine ex_ret (r := (none, t124, n, 0)) rfl (fun _ => rfl) ?_
  exact ⟨_, rfl, t124, rfl, g124, (fun c' i h => (e124 c' i (by first | decide | omega)).trans ((e118 c' i (by first | decide | omega)).trans ((e113 c' i (by first | decide | omega)).trans ((e109 c' i (by first | decide | omega)).trans ((e106 c' i (by first | decide | omega)).trans (e104 c' i (by first | decide | omega))))))), k124, k25, k26, k27, k28, k29⟩
theorem pc_find278_l {fn : en_F} {n c x : Nat} {t0 : en_H} {w : Nat → Nat} (g0 : ai_HG ah_G t0) (k5 : ai_hv t0 278 5 = some (.inl c)) (hc : c ≤ 5) (hn : ∀ i, i < c → ai_hv t0 279 i = some (.inr (.inl (w i)))) : ∀ j k, k + j = c → en_ex none fn (en_code 274) (fun _ => false) (2, [(3, .inl k), (0, gx_r 278), (1, .inr (.inl x))], [], t0, n, 0) (fun o => ∃ r, o = .inl r ∧ ∃ b, r = (some (.inl b), t0, n, 0) ∧ ((sp_fi (fun i => nq (w i) x) j k < c ∧ b = sp_fi (fun i => nq (w i) x) j k) ∨ (sp_fi (fun i => nq (w i) x) j k = c ∧ b = 4294967295))) := by
  intro j
  induction j with
  | zero =>
    intro k hk
    refine ex_go (S := (3, [(3, .inl k), (0, gx_r 278), (1, .inr (.inl x))], [.inl k], t0, n, 0)) rfl (fun _ => rfl) rfl ?_
    refine ex_go (S := (4, [(3, .inl k), (0, gx_r 278), (1, .inr (.inl x))], [gx_r 278, .inl k], t0, n, 0)) rfl (fun _ => rfl) rfl ?_
    refine gxo_get (a := 278) rfl g0 rfl rfl k5 rfl ?_
    refine gx_2t (c := .ge) rfl (by first | decide | omega) (by first | decide | omega) (show c ≤ k from by omega) rfl ?_
    refine ex_go (S := (30, [(3, .inl k), (0, gx_r 278), (1, .inr (.inl x))], [.inl 4294967295], t0, n, 0)) rfl (fun _ => rfl) rfl ?_
    refine ex_ret (r := (some (.inl 4294967295), t0, n, 0)) rfl (fun _ => rfl) ?_
    exact ⟨_, rfl, _, rfl, Or.inr ⟨by show k = _; omega, rfl⟩⟩
  | succ j ih =>
    intro k hk
    have kn := hn k (by first | decide | omega)
    refine ex_go (S := (3, [(3, .inl k), (0, gx_r 278), (1, .inr (.inl x))], [.inl k], t0, n, 0)) rfl (fun _ => rfl) rfl ?_
    refine ex_go (S := (4, [(3, .inl k), (0, gx_r 278), (1, .inr (.inl x))], [gx_r 278, .inl k], t0, n, 0)) rfl (fun _ => rfl) rfl ?_
    refine gxo_get (a := 278) rfl g0 rfl rfl k5 rfl ?_
    refine gx_2f (c := .ge) rfl (by first | decide | omega) (by first | decide | omega) (show ¬ (c ≤ k) from by omega) rfl ?_
    refine ex_go (S := (11, [(3, .inl k), (0, gx_r 278), (1, .inr (.inl x))], [gx_r 278], t0, n, 0)) rfl (fun _ => rfl) rfl ?_
    refine gxo_ref (a := 278) (c := 279) rfl g0 rfl rfl rfl rfl rfl ?_
    refine ex_go (S := (15, [(3, .inl k), (0, gx_r 278), (1, .inr (.inl x))], [.inl k, gx_r 279], t0, n, 0)) rfl (fun _ => rfl) rfl ?_
    refine gx_ag (v := .inr (.inl (w k))) (cb := fun c => Nat.beq c 3) rfl (fun _ => rfl) g0 rfl rfl kn (by first | decide | omega) rfl ?_
    refine ex_go (S := (17, [(3, .inl k), (0, gx_r 278), (1, .inr (.inl x))], [.inr (.inl x), .inr (.inl (w k))], t0, n, 0)) rfl (fun _ => rfl) rfl ?_
    refine gx_lcmp rfl rfl (fun hl1 => ?_) (fun hl1 => ?_) (fun hl1 => ?_)
    · refine ex_go (S := (21, [(3, .inl k), (0, gx_r 278), (1, .inr (.inl x))], [], t0, n, 0)) rfl (fun _ => rfl) rfl ?_
      refine ex_go (S := (22, [(3, .inl k), (0, gx_r 278), (1, .inr (.inl x))], [.inl k], t0, n, 0)) rfl (fun _ => rfl) rfl ?_
      refine ex_ret (r := (some (.inl k), t0, n, 0)) rfl (fun _ => rfl) ?_
      have z9 : sp_fi (fun i => nq (w i) x) (j + 1) k = k := cif_t (show (lN (w k)).toInt = (lN x).toInt by omega)
      rw [z9]
      exact ⟨_, rfl, _, rfl, Or.inl ⟨by omega, rfl⟩⟩
    · refine ex_go (S := (23, [(3, .inl k), (0, gx_r 278), (1, .inr (.inl x))], [], t0, n, 0)) rfl (fun _ => rfl) rfl ?_
      refine gx_iinc (i := 3) (k := 1) rfl (fun _ => rfl) (by first | decide | omega) rfl ?_
      show en_ex _ _ _ _ (26, [(3, .inl (k + 1)), (0, gx_r 278), (1, .inr (.inl x))], [], t0, n, 0) _
      refine ex_go (S := (2, [(3, .inl (k + 1)), (0, gx_r 278), (1, .inr (.inl x))], [], t0, n, 0)) rfl (fun _ => rfl) rfl ?_
      have z9 : sp_fi (fun i => nq (w i) x) (j + 1) k = sp_fi (fun i => nq (w i) x) j (k + 1) := cif_f (fun z => by have z : (lN (w k)).toInt = (lN x).toInt := z; omega)
      rw [z9]
      exact ih (k + 1) (by first | decide | omega)
    · refine ex_go (S := (23, [(3, .inl k), (0, gx_r 278), (1, .inr (.inl x))], [], t0, n, 0)) rfl (fun _ => rfl) rfl ?_
      refine gx_iinc (i := 3) (k := 1) rfl (fun _ => rfl) (by first | decide | omega) rfl ?_
      show en_ex _ _ _ _ (26, [(3, .inl (k + 1)), (0, gx_r 278), (1, .inr (.inl x))], [], t0, n, 0) _
      refine ex_go (S := (2, [(3, .inl (k + 1)), (0, gx_r 278), (1, .inr (.inl x))], [], t0, n, 0)) rfl (fun _ => rfl) rfl ?_
      have z9 : sp_fi (fun i => nq (w i) x) (j + 1) k = sp_fi (fun i => nq (w i) x) j (k + 1) := cif_f (fun z => by have z : (lN (w k)).toInt = (lN x).toInt := z; omega)
      rw [z9]
      exact ih (k + 1) (by first | decide | omega)
theorem pc_find278 (d n : Nat) {c x : Nat} {t0 : en_H} {w : Nat → Nat} (g0 : ai_HG ah_G t0) (k5 : ai_hv t0 278 5 = some (.inl c)) (hc : c ≤ 5) (hn : ∀ i, i < c → ai_hv t0 279 i = some (.inr (.inl (w i)))) : ∃ r, en_u (d + 1) 274 [gx_r 278, .inr (.inl x)] t0 n = some r ∧ ∃ b, r = (some (.inl b), t0, n, 0) ∧ ((sp_fi (fun i => nq (w i) x) c 0 < c ∧ b = sp_fi (fun i => nq (w i) x) c 0) ∨ (sp_fi (fun i => nq (w i) x) c 0 = c ∧ b = 4294967295)) := by
  refine en_u_ex rfl ?_
  show en_ex _ _ _ _ (0, [(0, gx_r 278), (1, .inr (.inl x))], [], t0, n, 0) _
  refine ex_go (S := (1, [(0, gx_r 278), (1, .inr (.inl x))], [.inl 0], t0, n, 0)) rfl (fun _ => rfl) rfl ?_
  refine ex_go (S := (2, [(3, .inl 0), (0, gx_r 278), (1, .inr (.inl x))], [], t0, n, 0)) rfl (fun _ => rfl) rfl ?_
  exact pc_find278_l g0 k5 hc hn c 0 (by first | decide | omega)
theorem pc_isFull284 (d n : Nat) {c : Nat} {t0 : en_H} (g0 : ai_HG ah_G t0) (k5 : ai_hv t0 284 5 = some (.inl c)) (hc : c ≤ 6) : ∃ r, en_u (d + 1) 272 [gx_r 284] t0 n = some r ∧ ∃ b, r = (some (.inl b), t0, n, 0) ∧ b ≤ 1 ∧ (b = 1 ↔ c = 6) := by
  refine en_u_ex rfl ?_
  show en_ex _ _ _ _ (0, [(0, gx_r 284)], [], t0, n, 0) _
  refine ex_go (S := (1, [(0, gx_r 284)], [gx_r 284], t0, n, 0)) rfl (fun _ => rfl) rfl ?_
  refine gxo_get (a := 284) rfl g0 rfl rfl k5 rfl ?_
  refine ex_go (S := (5, [(0, gx_r 284)], [gx_r 284, .inl c], t0, n, 0)) rfl (fun _ => rfl) rfl ?_
  refine gxo_ref (a := 284) (c := 285) rfl g0 rfl rfl rfl rfl rfl ?_
  refine gx_alen (a := 285) (m := 6) rfl g0 rfl rfl rfl ?_
  by_cases hc1 : c < 6
  · refine gx_2t (c := .lt) rfl (by first | decide | omega) (by first | decide | omega) hc1 rfl ?_
    refine ex_go (S := (17, [(0, gx_r 284)], [.inl 0], t0, n, 0)) rfl (fun _ => rfl) rfl ?_
    refine ex_ret (r := (some (.inl 0), t0, n, 0)) rfl (fun _ => rfl) ?_
    exact ⟨_, rfl, 0, rfl, by omega⟩
  · refine gx_2f (c := .lt) rfl (by first | decide | omega) (by first | decide | omega) hc1 rfl ?_
    refine ex_go (S := (13, [(0, gx_r 284)], [.inl 1], t0, n, 0)) rfl (fun _ => rfl) rfl ?_
    refine ex_go (S := (17, [(0, gx_r 284)], [.inl 1], t0, n, 0)) rfl (fun _ => rfl) rfl ?_
    refine ex_ret (r := (some (.inl 1), t0, n, 0)) rfl (fun _ => rfl) ?_
    exact ⟨_, rfl, 1, rfl, by omega⟩
theorem pc_add284 (d n : Nat) {c x y1 y2 y3 y4 : Nat} {t0 : en_H} (g0 : ai_HG ah_G t0) (k5 : ai_hv t0 284 5 = some (.inl c)) (hc : c < 6) (h1 : 0 ≤ y1 ∧ y1 ≤ 99) (h2 : 0 ≤ y2 ∧ y2 ≤ 0) (h3 : 0 ≤ y3 ∧ y3 ≤ 0) (h4 : 0 ≤ y4 ∧ y4 ≤ 0) : ∃ r, en_u (d + 2) 273 [gx_r 284, .inr (.inl x), .inl y1, .inl y2, .inl y3, .inl y4] t0 n = some r ∧ ∃ t', r = (none, t', n, 0) ∧ ai_HG ah_G t' ∧ (∀ c' i, ¬ ((c' = 284 ∧ i = 5) ∨ ((c' = 285 ∨ c' = 286 ∨ c' = 287 ∨ c' = 288 ∨ c' = 289) ∧ i = c)) → ai_hv t' c' i = ai_hv t0 c' i) ∧ ai_hv t' 284 5 = some (.inl (c + 1)) ∧ ai_hv t' 285 c = some (.inr (.inl x)) ∧ ai_hv t' 286 c = some (.inl y1) ∧ ai_hv t' 287 c = some (.inl y2) ∧ ai_hv t' 288 c = some (.inl y3) ∧ ai_hv t' 289 c = some (.inl y4) := by
  refine en_u_ex (d := d + 1) rfl ?_
  show en_ex _ _ _ _ (0, [(0, gx_r 284), (1, .inr (.inl x)), (3, .inl y1), (4, .inl y2), (5, .inl y3), (6, .inl y4)], [], t0, n, 0) _
  refine ex_go (S := (1, [(0, gx_r 284), (1, .inr (.inl x)), (3, .inl y1), (4, .inl y2), (5, .inl y3), (6, .inl y4)], [gx_r 284], t0, n, 0)) rfl (fun _ => rfl) rfl ?_
  obtain ⟨_, r1, b2, rfl, q3⟩ := pc_isFull284 (d) n g0 k5 (by first | decide | omega)
  refine gx_callo (a := 284) rfl rfl g0 rfl rfl rfl r1 rfl ?_
  show en_ex _ _ _ _ (4, [(0, gx_r 284), (1, .inr (.inl x)), (3, .inl y1), (4, .inl y2), (5, .inl y3), (6, .inl y4)], [.inl b2], t0, n, 0) _
  refine gx_1f (c := .ne) rfl (by first | decide | omega) (show ¬ (b2 ≠ 0) from by omega) rfl ?_
  refine ex_go (S := (8, [(0, gx_r 284), (1, .inr (.inl x)), (3, .inl y1), (4, .inl y2), (5, .inl y3), (6, .inl y4)], [gx_r 284], t0, n, 0)) rfl (fun _ => rfl) rfl ?_
  refine gxo_ref (a := 284) (c := 285) rfl g0 rfl rfl rfl rfl rfl ?_
  refine ex_go (S := (12, [(0, gx_r 284), (1, .inr (.inl x)), (3, .inl y1), (4, .inl y2), (5, .inl y3), (6, .inl y4)], [gx_r 284, gx_r 285], t0, n, 0)) rfl (fun _ => rfl) rfl ?_
  refine gxo_get (a := 284) rfl g0 rfl rfl k5 rfl ?_
  refine ex_go (S := (16, [(0, gx_r 284), (1, .inr (.inl x)), (3, .inl y1), (4, .inl y2), (5, .inl y3), (6, .inl y4)], [.inr (.inl x), .inl c, gx_r 285], t0, n, 0)) rfl (fun _ => rfl) rfl ?_
  refine gx_apv (d := 1) rfl (fun _ => rfl) g0 rfl rfl rfl (show c < 6 from by omega) (gx_run1 (show c < 6 from hc)) ⟨_, rfl⟩ rfl (fun t104 g104 k104 e104 => ?_)
  have k5 : ai_hv t104 284 5 = some (.inl c) := (e104 284 5 (by first | decide | omega)).trans k5
  refine ex_go (S := (18, [(0, gx_r 284), (1, .inr (.inl x)), (3, .inl y1), (4, .inl y2), (5, .inl y3), (6, .inl y4)], [gx_r 284], t104, n, 0)) rfl (fun _ => rfl) rfl ?_
  refine gxo_ref (a := 284) (c := 286) rfl g104 rfl rfl rfl rfl rfl ?_
  refine ex_go (S := (22, [(0, gx_r 284), (1, .inr (.inl x)), (3, .inl y1), (4, .inl y2), (5, .inl y3), (6, .inl y4)], [gx_r 284, gx_r 286], t104, n, 0)) rfl (fun _ => rfl) rfl ?_
  refine gxo_get (a := 284) rfl g104 rfl rfl k5 rfl ?_
  refine ex_go (S := (26, [(0, gx_r 284), (1, .inr (.inl x)), (3, .inl y1), (4, .inl y2), (5, .inl y3), (6, .inl y4)], [.inl y1, .inl c, gx_r 286], t104, n, 0)) rfl (fun _ => rfl) rfl ?_
  refine gx_ap rfl (fun _ => rfl) g104 rfl rfl rfl (show c < 6 from by omega) (gx_run1 (show c < 6 from hc)) (ai_in_h (by first | decide | omega) (by first | decide | omega) (by first | decide | omega)) rfl (fun t106 g106 k106 e106 => ?_)
  have k7 : ai_hv t106 284 5 = some (.inl c) := (e106 284 5 (by first | decide | omega)).trans k5
  have k8 : ai_hv t106 285 c = some (.inr (.inl x)) := (e106 285 c (by first | decide | omega)).trans k104
  refine ex_go (S := (28, [(0, gx_r 284), (1, .inr (.inl x)), (3, .inl y1), (4, .inl y2), (5, .inl y3), (6, .inl y4)], [gx_r 284], t106, n, 0)) rfl (fun _ => rfl) rfl ?_
  refine gxo_ref (a := 284) (c := 287) rfl g106 rfl rfl rfl rfl rfl ?_
  refine ex_go (S := (32, [(0, gx_r 284), (1, .inr (.inl x)), (3, .inl y1), (4, .inl y2), (5, .inl y3), (6, .inl y4)], [gx_r 284, gx_r 287], t106, n, 0)) rfl (fun _ => rfl) rfl ?_
  refine gxo_get (a := 284) rfl g106 rfl rfl k7 rfl ?_
  refine ex_go (S := (37, [(0, gx_r 284), (1, .inr (.inl x)), (3, .inl y1), (4, .inl y2), (5, .inl y3), (6, .inl y4)], [.inl y2, .inl c, gx_r 287], t106, n, 0)) rfl (fun _ => rfl) rfl ?_
  refine gx_ap rfl (fun _ => rfl) g106 rfl rfl rfl (show c < 6 from by omega) (gx_run1 (show c < 6 from hc)) (ai_in_h (by first | decide | omega) (by first | decide | omega) (by first | decide | omega)) rfl (fun t109 g109 k109 e109 => ?_)
  have k10 : ai_hv t109 284 5 = some (.inl c) := (e109 284 5 (by first | decide | omega)).trans k7
  have k11 : ai_hv t109 285 c = some (.inr (.inl x)) := (e109 285 c (by first | decide | omega)).trans k8
  have k12 : ai_hv t109 286 c = some (.inl y1) := (e109 286 c (by first | decide | omega)).trans k106
  refine ex_go (S := (39, [(0, gx_r 284), (1, .inr (.inl x)), (3, .inl y1), (4, .inl y2), (5, .inl y3), (6, .inl y4)], [gx_r 284], t109, n, 0)) rfl (fun _ => rfl) rfl ?_
  refine gxo_ref (a := 284) (c := 288) rfl g109 rfl rfl rfl rfl rfl ?_
  refine ex_go (S := (43, [(0, gx_r 284), (1, .inr (.inl x)), (3, .inl y1), (4, .inl y2), (5, .inl y3), (6, .inl y4)], [gx_r 284, gx_r 288], t109, n, 0)) rfl (fun _ => rfl) rfl ?_
  refine gxo_get (a := 284) rfl g109 rfl rfl k10 rfl ?_
  refine ex_go (S := (48, [(0, gx_r 284), (1, .inr (.inl x)), (3, .inl y1), (4, .inl y2), (5, .inl y3), (6, .inl y4)], [.inl y3, .inl c, gx_r 288], t109, n, 0)) rfl (fun _ => rfl) rfl ?_
  refine gx_ap rfl (fun _ => rfl) g109 rfl rfl rfl (show c < 6 from by omega) (gx_run1 (show c < 6 from hc)) (ai_in_h (by first | decide | omega) (by first | decide | omega) (by first | decide | omega)) rfl (fun t113 g113 k113 e113 => ?_)
  have k14 : ai_hv t113 284 5 = some (.inl c) := (e113 284 5 (by first | decide | omega)).trans k10
  have k15 : ai_hv t113 285 c = some (.inr (.inl x)) := (e113 285 c (by first | decide | omega)).trans k11
  have k16 : ai_hv t113 286 c = some (.inl y1) := (e113 286 c (by first | decide | omega)).trans k12
  have k17 : ai_hv t113 287 c = some (.inl y2) := (e113 287 c (by first | decide | omega)).trans k109
  refine ex_go (S := (50, [(0, gx_r 284), (1, .inr (.inl x)), (3, .inl y1), (4, .inl y2), (5, .inl y3), (6, .inl y4)], [gx_r 284], t113, n, 0)) rfl (fun _ => rfl) rfl ?_
  refine gxo_ref (a := 284) (c := 289) rfl g113 rfl rfl rfl rfl rfl ?_
  refine ex_go (S := (54, [(0, gx_r 284), (1, .inr (.inl x)), (3, .inl y1), (4, .inl y2), (5, .inl y3), (6, .inl y4)], [gx_r 284, gx_r 289], t113, n, 0)) rfl (fun _ => rfl) rfl ?_
  refine gxo_get (a := 284) rfl g113 rfl rfl k14 rfl ?_
  refine ex_go (S := (59, [(0, gx_r 284), (1, .inr (.inl x)), (3, .inl y1), (4, .inl y2), (5, .inl y3), (6, .inl y4)], [.inl y4, .inl c, gx_r 289], t113, n, 0)) rfl (fun _ => rfl) rfl ?_
  refine gx_ap rfl (fun _ => rfl) g113 rfl rfl rfl (show c < 6 from by omega) (gx_run1 (show c < 6 from hc)) (ai_in_h (by first | decide | omega) (by first | decide | omega) (by first | decide | omega)) rfl (fun t118 g118 k118 e118 => ?_)
  have k19 : ai_hv t118 284 5 = some (.inl c) := (e118 284 5 (by first | decide | omega)).trans k14
  have k20 : ai_hv t118 285 c = some (.inr (.inl x)) := (e118 285 c (by first | decide | omega)).trans k15
  have k21 : ai_hv t118 286 c = some (.inl y1) := (e118 286 c (by first | decide | omega)).trans k16
  have k22 : ai_hv t118 287 c = some (.inl y2) := (e118 287 c (by first | decide | omega)).trans k17
  have k23 : ai_hv t118 288 c = some (.inl y3) := (e118 288 c (by first | decide | omega)).trans k113
  refine ex_go (S := (61, [(0, gx_r 284), (1, .inr (.inl x)), (3, .inl y1), (4, .inl y2), (5, .inl y3), (6, .inl y4)], [gx_r 284], t118, n, 0)) rfl (fun _ => rfl) rfl ?_
  refine ex_go (S := (62, [(0, gx_r 284), (1, .inr (.inl x)), (3, .inl y1), (4, .inl y2), (5, .inl y3), (6, .inl y4)], [gx_r 284, gx_r 284], t118, n, 0)) rfl (fun _ => rfl) rfl ?_
  refine gxo_get (a := 284) rfl g118 rfl rfl k19 rfl ?_
  refine ex_go (S := (66, [(0, gx_r 284), (1, .inr (.inl x)), (3, .inl y1), (4, .inl y2), (5, .inl y3), (6, .inl y4)], [.inl 1, .inl c, gx_r 284], t118, n, 0)) rfl (fun _ => rfl) rfl ?_
  refine ex_iadd rfl (by first | decide | omega) rfl ?_
  refine gxo_put (a := 284) rfl g118 rfl rfl rfl (ai_in_h (by first | decide | omega) (by first | decide | omega) (by first | decide | omega)) rfl (fun t124 g124 k124 e124 => ?_)
  have k25 : ai_hv t124 285 c = some (.inr (.inl x)) := (e124 285 c (by first | decide | omega)).trans k20
  have k26 : ai_hv t124 286 c = some (.inl y1) := (e124 286 c (by first | decide | omega)).trans k21
  have k27 : ai_hv t124 287 c = some (.inl y2) := (e124 287 c (by first | decide | omega)).trans k22
  have k28 : ai_hv t124 288 c = some (.inl y3) := (e124 288 c (by first | decide | omega)).trans k23
  have k29 : ai_hv t124 289 c = some (.inl y4) := (e124 289 c (by first | decide | omega)).trans k118
  refine ex_ret (r := (none, t124, n, 0)) rfl (fun _ => rfl) ?_
  exact ⟨_, rfl, t124, rfl, g124, (fun c' i h => (e124 c' i (by first | decide | omega)).trans ((e118 c' i (by first | decide | omega)).trans ((e113 c' i (by first | decide | omega)).trans ((e109 c' i (by first | decide | omega)).trans ((e106 c' i (by first | decide | omega)).trans (e104 c' i (by first | decide | omega))))))), k124, k25, k26, k27, k28, k29⟩
theorem pc_find284_l {fn : en_F} {n c x : Nat} {t0 : en_H} {w : Nat → Nat} (g0 : ai_HG ah_G t0) (k5 : ai_hv t0 284 5 = some (.inl c)) (hc : c ≤ 6) (hn : ∀ i, i < c → ai_hv t0 285 i = some (.inr (.inl (w i)))) : ∀ j k, k + j = c → en_ex none fn (en_code 274) (fun _ => false) (2, [(3, .inl k), (0, gx_r 284), (1, .inr (.inl x))], [], t0, n, 0) (fun o => ∃ r, o = .inl r ∧ ∃ b, r = (some (.inl b), t0, n, 0) ∧ ((sp_fi (fun i => nq (w i) x) j k < c ∧ b = sp_fi (fun i => nq (w i) x) j k) ∨ (sp_fi (fun i => nq (w i) x) j k = c ∧ b = 4294967295))) := by
  intro j
  induction j with
  | zero =>
    intro k hk
    refine ex_go (S := (3, [(3, .inl k), (0, gx_r 284), (1, .inr (.inl x))], [.inl k], t0, n, 0)) rfl (fun _ => rfl) rfl ?_
    refine ex_go (S := (4, [(3, .inl k), (0, gx_r 284), (1, .inr (.inl x))], [gx_r 284, .inl k], t0, n, 0)) rfl (fun _ => rfl) rfl ?_
    refine gxo_get (a := 284) rfl g0 rfl rfl k5 rfl ?_
    refine gx_2t (c := .ge) rfl (by first | decide | omega) (by first | decide | omega) (show c ≤ k from by omega) rfl ?_
    refine ex_go (S := (30, [(3, .inl k), (0, gx_r 284), (1, .inr (.inl x))], [.inl 4294967295], t0, n, 0)) rfl (fun _ => rfl) rfl ?_
    refine ex_ret (r := (some (.inl 4294967295), t0, n, 0)) rfl (fun _ => rfl) ?_
    exact ⟨_, rfl, _, rfl, Or.inr ⟨by show k = _; omega, rfl⟩⟩
  | succ j ih =>
    intro k hk
    have kn := hn k (by first | decide | omega)
    refine ex_go (S := (3, [(3, .inl k), (0, gx_r 284), (1, .inr (.inl x))], [.inl k], t0, n, 0)) rfl (fun _ => rfl) rfl ?_
    refine ex_go (S := (4, [(3, .inl k), (0, gx_r 284), (1, .inr (.inl x))], [gx_r 284, .inl k], t0, n, 0)) rfl (fun _ => rfl) rfl ?_
    refine gxo_get (a := 284) rfl g0 rfl rfl k5 rfl ?_
    refine gx_2f (c := .ge) rfl (by first | decide | omega) (by first | decide | omega) (show ¬ (c ≤ k) from by omega) rfl ?_
    refine ex_go (S := (11, [(3, .inl k), (0, gx_r 284), (1, .inr (.inl x))], [gx_r 284], t0, n, 0)) rfl (fun _ => rfl) rfl ?_
    refine gxo_ref (a := 284) (c := 285) rfl g0 rfl rfl rfl rfl rfl ?_
    refine ex_go (S := (15, [(3, .inl k), (0, gx_r 284), (1, .inr (.inl x))], [.inl k, gx_r 285], t0, n, 0)) rfl (fun _ => rfl) rfl ?_
    refine gx_ag (v := .inr (.inl (w k))) (cb := fun c => Nat.beq c 3) rfl (fun _ => rfl) g0 rfl rfl kn (by first | decide | omega) rfl ?_
    refine ex_go (S := (17, [(3, .inl k), (0, gx_r 284), (1, .inr (.inl x))], [.inr (.inl x), .inr (.inl (w k))], t0, n, 0)) rfl (fun _ => rfl) rfl ?_
    refine gx_lcmp rfl rfl (fun hl1 => ?_) (fun hl1 => ?_) (fun hl1 => ?_)
    · refine ex_go (S := (21, [(3, .inl k), (0, gx_r 284), (1, .inr (.inl x))], [], t0, n, 0)) rfl (fun _ => rfl) rfl ?_
      refine ex_go (S := (22, [(3, .inl k), (0, gx_r 284), (1, .inr (.inl x))], [.inl k], t0, n, 0)) rfl (fun _ => rfl) rfl ?_
      refine ex_ret (r := (some (.inl k), t0, n, 0)) rfl (fun _ => rfl) ?_
      have z9 : sp_fi (fun i => nq (w i) x) (j + 1) k = k := cif_t (show (lN (w k)).toInt = (lN x).toInt by omega)
      rw [z9]
      exact ⟨_, rfl, _, rfl, Or.inl ⟨by omega, rfl⟩⟩
    · refine ex_go (S := (23, [(3, .inl k), (0, gx_r 284), (1, .inr (.inl x))], [], t0, n, 0)) rfl (fun _ => rfl) rfl ?_
      refine gx_iinc (i := 3) (k := 1) rfl (fun _ => rfl) (by first | decide | omega) rfl ?_
      show en_ex _ _ _ _ (26, [(3, .inl (k + 1)), (0, gx_r 284), (1, .inr (.inl x))], [], t0, n, 0) _
      refine ex_go (S := (2, [(3, .inl (k + 1)), (0, gx_r 284), (1, .inr (.inl x))], [], t0, n, 0)) rfl (fun _ => rfl) rfl ?_
      have z9 : sp_fi (fun i => nq (w i) x) (j + 1) k = sp_fi (fun i => nq (w i) x) j (k + 1) := cif_f (fun z => by have z : (lN (w k)).toInt = (lN x).toInt := z; omega)
      rw [z9]
      exact ih (k + 1) (by first | decide | omega)
    · refine ex_go (S := (23, [(3, .inl k), (0, gx_r 284), (1, .inr (.inl x))], [], t0, n, 0)) rfl (fun _ => rfl) rfl ?_
      refine gx_iinc (i := 3) (k := 1) rfl (fun _ => rfl) (by first | decide | omega) rfl ?_
      show en_ex _ _ _ _ (26, [(3, .inl (k + 1)), (0, gx_r 284), (1, .inr (.inl x))], [], t0, n, 0) _
      refine ex_go (S := (2, [(3, .inl (k + 1)), (0, gx_r 284), (1, .inr (.inl x))], [], t0, n, 0)) rfl (fun _ => rfl) rfl ?_
      have z9 : sp_fi (fun i => nq (w i) x) (j + 1) k = sp_fi (fun i => nq (w i) x) j (k + 1) := cif_f (fun z => by have z : (lN (w k)).toInt = (lN x).toInt := z; omega)
      rw [z9]
      exact ih (k + 1) (by first | decide | omega)
theorem pc_find284 (d n : Nat) {c x : Nat} {t0 : en_H} {w : Nat → Nat} (g0 : ai_HG ah_G t0) (k5 : ai_hv t0 284 5 = some (.inl c)) (hc : c ≤ 6) (hn : ∀ i, i < c → ai_hv t0 285 i = some (.inr (.inl (w i)))) : ∃ r, en_u (d + 1) 274 [gx_r 284, .inr (.inl x)] t0 n = some r ∧ ∃ b, r = (some (.inl b), t0, n, 0) ∧ ((sp_fi (fun i => nq (w i) x) c 0 < c ∧ b = sp_fi (fun i => nq (w i) x) c 0) ∨ (sp_fi (fun i => nq (w i) x) c 0 = c ∧ b = 4294967295)) := by
  refine en_u_ex rfl ?_
  show en_ex _ _ _ _ (0, [(0, gx_r 284), (1, .inr (.inl x))], [], t0, n, 0) _
  refine ex_go (S := (1, [(0, gx_r 284), (1, .inr (.inl x))], [.inl 0], t0, n, 0)) rfl (fun _ => rfl) rfl ?_
  refine ex_go (S := (2, [(3, .inl 0), (0, gx_r 284), (1, .inr (.inl x))], [], t0, n, 0)) rfl (fun _ => rfl) rfl ?_
  exact pc_find284_l g0 k5 hc hn c 0 (by first | decide | omega)
theorem pc_isFull290 (d n : Nat) {c : Nat} {t0 : en_H} (g0 : ai_HG ah_G t0) (k5 : ai_hv t0 290 5 = some (.inl c)) (hc : c ≤ 6) : ∃ r, en_u (d + 1) 272 [gx_r 290] t0 n = some r ∧ ∃ b, r = (some (.inl b), t0, n, 0) ∧ b ≤ 1 ∧ (b = 1 ↔ c = 6) := by
  refine en_u_ex rfl ?_
  show en_ex _ _ _ _ (0, [(0, gx_r 290)], [], t0, n, 0) _
  refine ex_go (S := (1, [(0, gx_r 290)], [gx_r 290], t0, n, 0)) rfl (fun _ => rfl) rfl ?_
  refine gxo_get (a := 290) rfl g0 rfl rfl k5 rfl ?_
  refine ex_go (S := (5, [(0, gx_r 290)], [gx_r 290, .inl c], t0, n, 0)) rfl (fun _ => rfl) rfl ?_
  refine gxo_ref (a := 290) (c := 291) rfl g0 rfl rfl rfl rfl rfl ?_
  refine gx_alen (a := 291) (m := 6) rfl g0 rfl rfl rfl ?_
  by_cases hc1 : c < 6
  · refine gx_2t (c := .lt) rfl (by first | decide | omega) (by first | decide | omega) hc1 rfl ?_
    refine ex_go (S := (17, [(0, gx_r 290)], [.inl 0], t0, n, 0)) rfl (fun _ => rfl) rfl ?_
    refine ex_ret (r := (some (.inl 0), t0, n, 0)) rfl (fun _ => rfl) ?_
    exact ⟨_, rfl, 0, rfl, by omega⟩
  · refine gx_2f (c := .lt) rfl (by first | decide | omega) (by first | decide | omega) hc1 rfl ?_
    refine ex_go (S := (13, [(0, gx_r 290)], [.inl 1], t0, n, 0)) rfl (fun _ => rfl) rfl ?_
    refine ex_go (S := (17, [(0, gx_r 290)], [.inl 1], t0, n, 0)) rfl (fun _ => rfl) rfl ?_
    refine ex_ret (r := (some (.inl 1), t0, n, 0)) rfl (fun _ => rfl) ?_
    exact ⟨_, rfl, 1, rfl, by omega⟩
theorem pc_add290 (d n : Nat) {c x y1 y2 y3 y4 : Nat} {t0 : en_H} (g0 : ai_HG ah_G t0) (k5 : ai_hv t0 290 5 = some (.inl c)) (hc : c < 6) (h1 : 0 ≤ y1 ∧ y1 ≤ 999) (h2 : 0 ≤ y2 ∧ y2 ≤ 9) (h3 : 0 ≤ y3 ∧ y3 ≤ 0) (h4 : 0 ≤ y4 ∧ y4 ≤ 0) : ∃ r, en_u (d + 2) 273 [gx_r 290, .inr (.inl x), .inl y1, .inl y2, .inl y3, .inl y4] t0 n = some r ∧ ∃ t', r = (none, t', n, 0) ∧ ai_HG ah_G t' ∧ (∀ c' i, ¬ ((c' = 290 ∧ i = 5) ∨ ((c' = 291 ∨ c' = 292 ∨ c' = 293 ∨ c' = 294 ∨ c' = 295) ∧ i = c)) → ai_hv t' c' i = ai_hv t0 c' i) ∧ ai_hv t' 290 5 = some (.inl (c + 1)) ∧ ai_hv t' 291 c = some (.inr (.inl x)) ∧ ai_hv t' 292 c = some (.inl y1) ∧ ai_hv t' 293 c = some (.inl y2) ∧ ai_hv t' 294 c = some (.inl y3) ∧ ai_hv t' 295 c = some (.inl y4) := by
  refine en_u_ex (d := d + 1) rfl ?_
  show en_ex _ _ _ _ (0, [(0, gx_r 290), (1, .inr (.inl x)), (3, .inl y1), (4, .inl y2), (5, .inl y3), (6, .inl y4)], [], t0, n, 0) _
  refine ex_go (S := (1, [(0, gx_r 290), (1, .inr (.inl x)), (3, .inl y1), (4, .inl y2), (5, .inl y3), (6, .inl y4)], [gx_r 290], t0, n, 0)) rfl (fun _ => rfl) rfl ?_
  obtain ⟨_, r1, b2, rfl, q3⟩ := pc_isFull290 (d) n g0 k5 (by first | decide | omega)
  refine gx_callo (a := 290) rfl rfl g0 rfl rfl rfl r1 rfl ?_
  show en_ex _ _ _ _ (4, [(0, gx_r 290), (1, .inr (.inl x)), (3, .inl y1), (4, .inl y2), (5, .inl y3), (6, .inl y4)], [.inl b2], t0, n, 0) _
  refine gx_1f (c := .ne) rfl (by first | decide | omega) (show ¬ (b2 ≠ 0) from by omega) rfl ?_
  refine ex_go (S := (8, [(0, gx_r 290), (1, .inr (.inl x)), (3, .inl y1), (4, .inl y2), (5, .inl y3), (6, .inl y4)], [gx_r 290], t0, n, 0)) rfl (fun _ => rfl) rfl ?_
  refine gxo_ref (a := 290) (c := 291) rfl g0 rfl rfl rfl rfl rfl ?_
  refine ex_go (S := (12, [(0, gx_r 290), (1, .inr (.inl x)), (3, .inl y1), (4, .inl y2), (5, .inl y3), (6, .inl y4)], [gx_r 290, gx_r 291], t0, n, 0)) rfl (fun _ => rfl) rfl ?_
  refine gxo_get (a := 290) rfl g0 rfl rfl k5 rfl ?_
  refine ex_go (S := (16, [(0, gx_r 290), (1, .inr (.inl x)), (3, .inl y1), (4, .inl y2), (5, .inl y3), (6, .inl y4)], [.inr (.inl x), .inl c, gx_r 291], t0, n, 0)) rfl (fun _ => rfl) rfl ?_
  refine gx_apv (d := 1) rfl (fun _ => rfl) g0 rfl rfl rfl (show c < 6 from by omega) (gx_run1 (show c < 6 from hc)) ⟨_, rfl⟩ rfl (fun t104 g104 k104 e104 => ?_)
  have k5 : ai_hv t104 290 5 = some (.inl c) := (e104 290 5 (by first | decide | omega)).trans k5
  refine ex_go (S := (18, [(0, gx_r 290), (1, .inr (.inl x)), (3, .inl y1), (4, .inl y2), (5, .inl y3), (6, .inl y4)], [gx_r 290], t104, n, 0)) rfl (fun _ => rfl) rfl ?_
  refine gxo_ref (a := 290) (c := 292) rfl g104 rfl rfl rfl rfl rfl ?_
  refine ex_go (S := (22, [(0, gx_r 290), (1, .inr (.inl x)), (3, .inl y1), (4, .inl y2), (5, .inl y3), (6, .inl y4)], [gx_r 290, gx_r 292], t104, n, 0)) rfl (fun _ => rfl) rfl ?_
  refine gxo_get (a := 290) rfl g104 rfl rfl k5 rfl ?_
  refine ex_go (S := (26, [(0, gx_r 290), (1, .inr (.inl x)), (3, .inl y1), (4, .inl y2), (5, .inl y3), (6, .inl y4)], [.inl y1, .inl c, gx_r 292], t104, n, 0)) rfl (fun _ => rfl) rfl ?_
  refine gx_ap rfl (fun _ => rfl) g104 rfl rfl rfl (show c < 6 from by omega) (gx_run1 (show c < 6 from hc)) (ai_in_h (by first | decide | omega) (by first | decide | omega) (by first | decide | omega)) rfl (fun t106 g106 k106 e106 => ?_)
  have k7 : ai_hv t106 290 5 = some (.inl c) := (e106 290 5 (by first | decide | omega)).trans k5
  have k8 : ai_hv t106 291 c = some (.inr (.inl x)) := (e106 291 c (by first | decide | omega)).trans k104
  refine ex_go (S := (28, [(0, gx_r 290), (1, .inr (.inl x)), (3, .inl y1), (4, .inl y2), (5, .inl y3), (6, .inl y4)], [gx_r 290], t106, n, 0)) rfl (fun _ => rfl) rfl ?_
  refine gxo_ref (a := 290) (c := 293) rfl g106 rfl rfl rfl rfl rfl ?_
  refine ex_go (S := (32, [(0, gx_r 290), (1, .inr (.inl x)), (3, .inl y1), (4, .inl y2), (5, .inl y3), (6, .inl y4)], [gx_r 290, gx_r 293], t106, n, 0)) rfl (fun _ => rfl) rfl ?_
  refine gxo_get (a := 290) rfl g106 rfl rfl k7 rfl ?_
  refine ex_go (S := (37, [(0, gx_r 290), (1, .inr (.inl x)), (3, .inl y1), (4, .inl y2), (5, .inl y3), (6, .inl y4)], [.inl y2, .inl c, gx_r 293], t106, n, 0)) rfl (fun _ => rfl) rfl ?_
  refine gx_ap rfl (fun _ => rfl) g106 rfl rfl rfl (show c < 6 from by omega) (gx_run1 (show c < 6 from hc)) (ai_in_h (by first | decide | omega) (by first | decide | omega) (by first | decide | omega)) rfl (fun t109 g109 k109 e109 => ?_)
  have k10 : ai_hv t109 290 5 = some (.inl c) := (e109 290 5 (by first | decide | omega)).trans k7
  have k11 : ai_hv t109 291 c = some (.inr (.inl x)) := (e109 291 c (by first | decide | omega)).trans k8
  have k12 : ai_hv t109 292 c = some (.inl y1) := (e109 292 c (by first | decide | omega)).trans k106
  refine ex_go (S := (39, [(0, gx_r 290), (1, .inr (.inl x)), (3, .inl y1), (4, .inl y2), (5, .inl y3), (6, .inl y4)], [gx_r 290], t109, n, 0)) rfl (fun _ => rfl) rfl ?_
  refine gxo_ref (a := 290) (c := 294) rfl g109 rfl rfl rfl rfl rfl ?_
  refine ex_go (S := (43, [(0, gx_r 290), (1, .inr (.inl x)), (3, .inl y1), (4, .inl y2), (5, .inl y3), (6, .inl y4)], [gx_r 290, gx_r 294], t109, n, 0)) rfl (fun _ => rfl) rfl ?_
  refine gxo_get (a := 290) rfl g109 rfl rfl k10 rfl ?_
  refine ex_go (S := (48, [(0, gx_r 290), (1, .inr (.inl x)), (3, .inl y1), (4, .inl y2), (5, .inl y3), (6, .inl y4)], [.inl y3, .inl c, gx_r 294], t109, n, 0)) rfl (fun _ => rfl) rfl ?_
  refine gx_ap rfl (fun _ => rfl) g109 rfl rfl rfl (show c < 6 from by omega) (gx_run1 (show c < 6 from hc)) (ai_in_h (by first | decide | omega) (by first | decide | omega) (by first | decide | omega)) rfl (fun t113 g113 k113 e113 => ?_)
  have k14 : ai_hv t113 290 5 = some (.inl c) := (e113 290 5 (by first | decide | omega)).trans k10
  have k15 : ai_hv t113 291 c = some (.inr (.inl x)) := (e113 291 c (by first | decide | omega)).trans k11
  have k16 : ai_hv t113 292 c = some (.inl y1) := (e113 292 c (by first | decide | omega)).trans k12
  have k17 : ai_hv t113 293 c = some (.inl y2) := (e113 293 c (by first | decide | omega)).trans k109
  refine ex_go (S := (50, [(0, gx_r 290), (1, .inr (.inl x)), (3, .inl y1), (4, .inl y2), (5, .inl y3), (6, .inl y4)], [gx_r 290], t113, n, 0)) rfl (fun _ => rfl) rfl ?_
  refine gxo_ref (a := 290) (c := 295) rfl g113 rfl rfl rfl rfl rfl ?_
  refine ex_go (S := (54, [(0, gx_r 290), (1, .inr (.inl x)), (3, .inl y1), (4, .inl y2), (5, .inl y3), (6, .inl y4)], [gx_r 290, gx_r 295], t113, n, 0)) rfl (fun _ => rfl) rfl ?_
  refine gxo_get (a := 290) rfl g113 rfl rfl k14 rfl ?_
  refine ex_go (S := (59, [(0, gx_r 290), (1, .inr (.inl x)), (3, .inl y1), (4, .inl y2), (5, .inl y3), (6, .inl y4)], [.inl y4, .inl c, gx_r 295], t113, n, 0)) rfl (fun _ => rfl) rfl ?_
  refine gx_ap rfl (fun _ => rfl) g113 rfl rfl rfl (show c < 6 from by omega) (gx_run1 (show c < 6 from hc)) (ai_in_h (by first | decide | omega) (by first | decide | omega) (by first | decide | omega)) rfl (fun t118 g118 k118 e118 => ?_)
  have k19 : ai_hv t118 290 5 = some (.inl c) := (e118 290 5 (by first | decide | omega)).trans k14
  have k20 : ai_hv t118 291 c = some (.inr (.inl x)) := (e118 291 c (by first | decide | omega)).trans k15
  have k21 : ai_hv t118 292 c = some (.inl y1) := (e118 292 c (by first | decide | omega)).trans k16
  have k22 : ai_hv t118 293 c = some (.inl y2) := (e118 293 c (by first | decide | omega)).trans k17
  have k23 : ai_hv t118 294 c = some (.inl y3) := (e118 294 c (by first | decide | omega)).trans k113
  refine ex_go (S := (61, [(0, gx_r 290), (1, .inr (.inl x)), (3, .inl y1), (4, .inl y2), (5, .inl y3), (6, .inl y4)], [gx_r 290], t118, n, 0)) rfl (fun _ => rfl) rfl ?_
  refine ex_go (S := (62, [(0, gx_r 290), (1, .inr (.inl x)), (3, .inl y1), (4, .inl y2), (5, .inl y3), (6, .inl y4)], [gx_r 290, gx_r 290], t118, n, 0)) rfl (fun _ => rfl) rfl ?_
  refine gxo_get (a := 290) rfl g118 rfl rfl k19 rfl ?_
  refine ex_go (S := (66, [(0, gx_r 290), (1, .inr (.inl x)), (3, .inl y1), (4, .inl y2), (5, .inl y3), (6, .inl y4)], [.inl 1, .inl c, gx_r 290], t118, n, 0)) rfl (fun _ => rfl) rfl ?_
  refine ex_iadd rfl (by first | decide | omega) rfl ?_
  refine gxo_put (a := 290) rfl g118 rfl rfl rfl (ai_in_h (by first | decide | omega) (by first | decide | omega) (by first | decide | omega)) rfl (fun t124 g124 k124 e124 => ?_)
  have k25 : ai_hv t124 291 c = some (.inr (.inl x)) := (e124 291 c (by first | decide | omega)).trans k20
  have k26 : ai_hv t124 292 c = some (.inl y1) := (e124 292 c (by first | decide | omega)).trans k21
  have k27 : ai_hv t124 293 c = some (.inl y2) := (e124 293 c (by first | decide | omega)).trans k22
  have k28 : ai_hv t124 294 c = some (.inl y3) := (e124 294 c (by first | decide | omega)).trans k23
  have k29 : ai_hv t124 295 c = some (.inl y4) := (e124 295 c (by first | decide | omega)).trans k118
  refine ex_ret (r := (none, t124, n, 0)) rfl (fun _ => rfl) ?_
  exact ⟨_, rfl, t124, rfl, g124, (fun c' i h => (e124 c' i (by first | decide | omega)).trans ((e118 c' i (by first | decide | omega)).trans ((e113 c' i (by first | decide | omega)).trans ((e109 c' i (by first | decide | omega)).trans ((e106 c' i (by first | decide | omega)).trans (e104 c' i (by first | decide | omega))))))), k124, k25, k26, k27, k28, k29⟩
theorem pc_find290_l {fn : en_F} {n c x : Nat} {t0 : en_H} {w : Nat → Nat} (g0 : ai_HG ah_G t0) (k5 : ai_hv t0 290 5 = some (.inl c)) (hc : c ≤ 6) (hn : ∀ i, i < c → ai_hv t0 291 i = some (.inr (.inl (w i)))) : ∀ j k, k + j = c → en_ex none fn (en_code 274) (fun _ => false) (2, [(3, .inl k), (0, gx_r 290), (1, .inr (.inl x))], [], t0, n, 0) (fun o => ∃ r, o = .inl r ∧ ∃ b, r = (some (.inl b), t0, n, 0) ∧ ((sp_fi (fun i => nq (w i) x) j k < c ∧ b = sp_fi (fun i => nq (w i) x) j k) ∨ (sp_fi (fun i => nq (w i) x) j k = c ∧ b = 4294967295))) := by
  intro j
  induction j with
  | zero =>
    intro k hk
    refine ex_go (S := (3, [(3, .inl k), (0, gx_r 290), (1, .inr (.inl x))], [.inl k], t0, n, 0)) rfl (fun _ => rfl) rfl ?_
    refine ex_go (S := (4, [(3, .inl k), (0, gx_r 290), (1, .inr (.inl x))], [gx_r 290, .inl k], t0, n, 0)) rfl (fun _ => rfl) rfl ?_
    refine gxo_get (a := 290) rfl g0 rfl rfl k5 rfl ?_
    refine gx_2t (c := .ge) rfl (by first | decide | omega) (by first | decide | omega) (show c ≤ k from by omega) rfl ?_
    refine ex_go (S := (30, [(3, .inl k), (0, gx_r 290), (1, .inr (.inl x))], [.inl 4294967295], t0, n, 0)) rfl (fun _ => rfl) rfl ?_
    refine ex_ret (r := (some (.inl 4294967295), t0, n, 0)) rfl (fun _ => rfl) ?_
    exact ⟨_, rfl, _, rfl, Or.inr ⟨by show k = _; omega, rfl⟩⟩
  | succ j ih =>
    intro k hk
    have kn := hn k (by first | decide | omega)
    refine ex_go (S := (3, [(3, .inl k), (0, gx_r 290), (1, .inr (.inl x))], [.inl k], t0, n, 0)) rfl (fun _ => rfl) rfl ?_
    refine ex_go (S := (4, [(3, .inl k), (0, gx_r 290), (1, .inr (.inl x))], [gx_r 290, .inl k], t0, n, 0)) rfl (fun _ => rfl) rfl ?_
    refine gxo_get (a := 290) rfl g0 rfl rfl k5 rfl ?_
    refine gx_2f (c := .ge) rfl (by first | decide | omega) (by first | decide | omega) (show ¬ (c ≤ k) from by omega) rfl ?_
    refine ex_go (S := (11, [(3, .inl k), (0, gx_r 290), (1, .inr (.inl x))], [gx_r 290], t0, n, 0)) rfl (fun _ => rfl) rfl ?_
    refine gxo_ref (a := 290) (c := 291) rfl g0 rfl rfl rfl rfl rfl ?_
    refine ex_go (S := (15, [(3, .inl k), (0, gx_r 290), (1, .inr (.inl x))], [.inl k, gx_r 291], t0, n, 0)) rfl (fun _ => rfl) rfl ?_
    refine gx_ag (v := .inr (.inl (w k))) (cb := fun c => Nat.beq c 3) rfl (fun _ => rfl) g0 rfl rfl kn (by first | decide | omega) rfl ?_
    refine ex_go (S := (17, [(3, .inl k), (0, gx_r 290), (1, .inr (.inl x))], [.inr (.inl x), .inr (.inl (w k))], t0, n, 0)) rfl (fun _ => rfl) rfl ?_
    refine gx_lcmp rfl rfl (fun hl1 => ?_) (fun hl1 => ?_) (fun hl1 => ?_)
    · refine ex_go (S := (21, [(3, .inl k), (0, gx_r 290), (1, .inr (.inl x))], [], t0, n, 0)) rfl (fun _ => rfl) rfl ?_
      refine ex_go (S := (22, [(3, .inl k), (0, gx_r 290), (1, .inr (.inl x))], [.inl k], t0, n, 0)) rfl (fun _ => rfl) rfl ?_
      refine ex_ret (r := (some (.inl k), t0, n, 0)) rfl (fun _ => rfl) ?_
      have z9 : sp_fi (fun i => nq (w i) x) (j + 1) k = k := cif_t (show (lN (w k)).toInt = (lN x).toInt by omega)
      rw [z9]
      exact ⟨_, rfl, _, rfl, Or.inl ⟨by omega, rfl⟩⟩
    · refine ex_go (S := (23, [(3, .inl k), (0, gx_r 290), (1, .inr (.inl x))], [], t0, n, 0)) rfl (fun _ => rfl) rfl ?_
      refine gx_iinc (i := 3) (k := 1) rfl (fun _ => rfl) (by first | decide | omega) rfl ?_
      show en_ex _ _ _ _ (26, [(3, .inl (k + 1)), (0, gx_r 290), (1, .inr (.inl x))], [], t0, n, 0) _
      refine ex_go (S := (2, [(3, .inl (k + 1)), (0, gx_r 290), (1, .inr (.inl x))], [], t0, n, 0)) rfl (fun _ => rfl) rfl ?_
      have z9 : sp_fi (fun i => nq (w i) x) (j + 1) k = sp_fi (fun i => nq (w i) x) j (k + 1) := cif_f (fun z => by have z : (lN (w k)).toInt = (lN x).toInt := z; omega)
      rw [z9]
      exact ih (k + 1) (by first | decide | omega)
    · refine ex_go (S := (23, [(3, .inl k), (0, gx_r 290), (1, .inr (.inl x))], [], t0, n, 0)) rfl (fun _ => rfl) rfl ?_
      refine gx_iinc (i := 3) (k := 1) rfl (fun _ => rfl) (by first | decide | omega) rfl ?_
      show en_ex _ _ _ _ (26, [(3, .inl (k + 1)), (0, gx_r 290), (1, .inr (.inl x))], [], t0, n, 0) _
      refine ex_go (S := (2, [(3, .inl (k + 1)), (0, gx_r 290), (1, .inr (.inl x))], [], t0, n, 0)) rfl (fun _ => rfl) rfl ?_
      have z9 : sp_fi (fun i => nq (w i) x) (j + 1) k = sp_fi (fun i => nq (w i) x) j (k + 1) := cif_f (fun z => by have z : (lN (w k)).toInt = (lN x).toInt := z; omega)
      rw [z9]
      exact ih (k + 1) (by first | decide | omega)
theorem pc_find290 (d n : Nat) {c x : Nat} {t0 : en_H} {w : Nat → Nat} (g0 : ai_HG ah_G t0) (k5 : ai_hv t0 290 5 = some (.inl c)) (hc : c ≤ 6) (hn : ∀ i, i < c → ai_hv t0 291 i = some (.inr (.inl (w i)))) : ∃ r, en_u (d + 1) 274 [gx_r 290, .inr (.inl x)] t0 n = some r ∧ ∃ b, r = (some (.inl b), t0, n, 0) ∧ ((sp_fi (fun i => nq (w i) x) c 0 < c ∧ b = sp_fi (fun i => nq (w i) x) c 0) ∨ (sp_fi (fun i => nq (w i) x) c 0 = c ∧ b = 4294967295)) := by
  refine en_u_ex rfl ?_
  show en_ex _ _ _ _ (0, [(0, gx_r 290), (1, .inr (.inl x))], [], t0, n, 0) _
  refine ex_go (S := (1, [(0, gx_r 290), (1, .inr (.inl x))], [.inl 0], t0, n, 0)) rfl (fun _ => rfl) rfl ?_
  refine ex_go (S := (2, [(3, .inl 0), (0, gx_r 290), (1, .inr (.inl x))], [], t0, n, 0)) rfl (fun _ => rfl) rfl ?_
  exact pc_find290_l g0 k5 hc hn c 0 (by first | decide | omega)
theorem pc_isTold191 (d n : Nat) {x : Nat} {t0 : en_H} {S : Nat → Nat} {m N : Nat} {σ : Nat → Nat → Nat} (g0 : ai_HG ah_G t0) (hA : CA t0 191 S m σ) (h3 : W3 S m N σ) : ∃ r, en_u (d + 2) 279 [gx_r 191, .inr (.inl x)] t0 n = some r ∧ ∃ b, r = (some (.inl b), t0, n, 0) ∧ b ≤ 1 ∧ (b = 1 ↔ c_told S m σ x) := by
  obtain ⟨⟨kk0, kk1, kk2, kk3, kk4, kk5, kk6, kk7, kk8, kk9, kk10, kk11⟩, hAt, hAl, hAc, hAg, hAs, hAo, gcb0, gcb1, gcb2, gcb3, gcb4, gcb5, gcb6, gcb7, gcb8, gcb9, gcb10, gcb11, gcb12, gcb13⟩ := hA
  have kk0 : ai_hv t0 191 0 = some (.inl (σ 0 0)) := kk0
  have kk1 : ai_hv t0 191 1 = some (.inl (σ 1 0)) := kk1
  have kk2 : ai_hv t0 194 5 = some (.inl (σ 2 0)) := kk2
  have kk3 : ai_hv t0 200 5 = some (.inl (σ 3 0)) := kk3
  have kk4 : ai_hv t0 206 5 = some (.inl (σ 4 0)) := kk4
  have kk5 : ai_hv t0 212 5 = some (.inl (σ 5 0)) := kk5
  have kk6 : ai_hv t0 218 5 = some (.inl (σ 6 0)) := kk6
  have kk7 : ai_hv t0 224 5 = some (.inl (σ 7 0)) := kk7
  have hBB := h3.1.1
  refine en_u_ex (d := d + 1) rfl ?_
  show en_ex _ _ _ _ (0, [(0, gx_r 191), (1, .inr (.inl x))], [], t0, n, 0) _
  refine ex_go (S := (1, [(0, gx_r 191), (1, .inr (.inl x))], [gx_r 191], t0, n, 0)) rfl (fun _ => rfl) rfl ?_
  refine gxo_ref (a := 191) (c := 194) rfl g0 rfl rfl rfl rfl rfl ?_
  refine ex_go (S := (5, [(0, gx_r 191), (1, .inr (.inl x))], [.inr (.inl x), gx_r 194], t0, n, 0)) rfl (fun _ => rfl) rfl ?_
  obtain ⟨_, r1, b2, rfl, q3⟩ := pc_find194 (d) n (w := fun i => sp_wv S m (σ 16 i)) (x := x) g0 kk2 (by first | decide | omega) (fun i hi => (rfl).trans (hAt i hi).1)
  have q3 : (c_fi S m (σ 16) x (σ 2 0) < σ 2 0 ∧ b2 = c_fi S m (σ 16) x (σ 2 0)) ∨ (c_fi S m (σ 16) x (σ 2 0) = σ 2 0 ∧ b2 = 4294967295) := q3
  refine gx_callo (a := 194) rfl rfl g0 rfl rfl rfl r1 rfl ?_
  show en_ex _ _ _ _ (8, [(0, gx_r 191), (1, .inr (.inl x))], [.inl b2], t0, n, 0) _
  refine ex_go (S := (9, [(0, gx_r 191), (1, .inr (.inl x))], [.inl 4294967295, .inl b2], t0, n, 0)) rfl (fun _ => rfl) rfl ?_
  rcases q3 with ⟨hf4a, hf4b⟩ | ⟨hf4a, hf4b⟩
  · have := hf4a
    refine gx_2mt (c := .ne) rfl (by first | decide | omega) rfl rfl ?_
    refine ex_go (S := (49, [(0, gx_r 191), (1, .inr (.inl x))], [.inl 1], t0, n, 0)) rfl (fun _ => rfl) rfl ?_
    refine ex_go (S := (53, [(0, gx_r 191), (1, .inr (.inl x))], [.inl 1], t0, n, 0)) rfl (fun _ => rfl) rfl ?_
    refine ex_ret (r := (some (.inl 1), t0, n, 0)) rfl (fun _ => rfl) ?_
    exact ⟨_, rfl, _, rfl, by decide, fun _ => Or.inl (c_fi_ex.mpr hf4a), fun _ => rfl⟩
  · subst hf4b
    refine ex_go (S := (12, [(0, gx_r 191), (1, .inr (.inl x))], [], t0, n, 0)) rfl (fun _ => rfl) rfl ?_
    refine ex_go (S := (13, [(0, gx_r 191), (1, .inr (.inl x))], [gx_r 191], t0, n, 0)) rfl (fun _ => rfl) rfl ?_
    refine gxo_ref (a := 191) (c := 212) rfl g0 rfl rfl rfl rfl rfl ?_
    refine ex_go (S := (17, [(0, gx_r 191), (1, .inr (.inl x))], [.inr (.inl x), gx_r 212], t0, n, 0)) rfl (fun _ => rfl) rfl ?_
    obtain ⟨_, r5, b6, rfl, q7⟩ := pc_find212 (d) n (w := fun i => sp_wv S m (σ 17 i)) (x := x) g0 kk5 (by first | decide | omega) (fun i hi => (rfl).trans (hAg i hi))
    have q7 : (c_fi S m (σ 17) x (σ 5 0) < σ 5 0 ∧ b6 = c_fi S m (σ 17) x (σ 5 0)) ∨ (c_fi S m (σ 17) x (σ 5 0) = σ 5 0 ∧ b6 = 4294967295) := q7
    refine gx_callo (a := 212) rfl rfl g0 rfl rfl rfl r5 rfl ?_
    show en_ex _ _ _ _ (20, [(0, gx_r 191), (1, .inr (.inl x))], [.inl b6], t0, n, 0) _
    refine ex_go (S := (21, [(0, gx_r 191), (1, .inr (.inl x))], [.inl 4294967295, .inl b6], t0, n, 0)) rfl (fun _ => rfl) rfl ?_
    rcases q7 with ⟨hf8a, hf8b⟩ | ⟨hf8a, hf8b⟩
    · have := hf8a
      refine gx_2mt (c := .ne) rfl (by first | decide | omega) rfl rfl ?_
      refine ex_go (S := (49, [(0, gx_r 191), (1, .inr (.inl x))], [.inl 1], t0, n, 0)) rfl (fun _ => rfl) rfl ?_
      refine ex_go (S := (53, [(0, gx_r 191), (1, .inr (.inl x))], [.inl 1], t0, n, 0)) rfl (fun _ => rfl) rfl ?_
      refine ex_ret (r := (some (.inl 1), t0, n, 0)) rfl (fun _ => rfl) ?_
      exact ⟨_, rfl, _, rfl, by decide, fun _ => Or.inr (Or.inl (c_fi_ex.mpr hf8a)), fun _ => rfl⟩
    · subst hf8b
      refine ex_go (S := (24, [(0, gx_r 191), (1, .inr (.inl x))], [], t0, n, 0)) rfl (fun _ => rfl) rfl ?_
      refine ex_go (S := (25, [(0, gx_r 191), (1, .inr (.inl x))], [gx_r 191], t0, n, 0)) rfl (fun _ => rfl) rfl ?_
      refine gxo_ref (a := 191) (c := 218) rfl g0 rfl rfl rfl rfl rfl ?_
      refine ex_go (S := (29, [(0, gx_r 191), (1, .inr (.inl x))], [.inr (.inl x), gx_r 218], t0, n, 0)) rfl (fun _ => rfl) rfl ?_
      obtain ⟨_, r9, b10, rfl, q11⟩ := pc_find218 (d) n (w := fun i => sp_wv S m (σ 18 i)) (x := x) g0 kk6 (by first | decide | omega) (fun i hi => (rfl).trans (hAs i hi))
      have q11 : (c_fi S m (σ 18) x (σ 6 0) < σ 6 0 ∧ b10 = c_fi S m (σ 18) x (σ 6 0)) ∨ (c_fi S m (σ 18) x (σ 6 0) = σ 6 0 ∧ b10 = 4294967295) := q11
      refine gx_callo (a := 218) rfl rfl g0 rfl rfl rfl r9 rfl ?_
      show en_ex _ _ _ _ (32, [(0, gx_r 191), (1, .inr (.inl x))], [.inl b10], t0, n, 0) _
      refine ex_go (S := (33, [(0, gx_r 191), (1, .inr (.inl x))], [.inl 4294967295, .inl b10], t0, n, 0)) rfl (fun _ => rfl) rfl ?_
      rcases q11 with ⟨hf12a, hf12b⟩ | ⟨hf12a, hf12b⟩
      · have := hf12a
        refine gx_2mt (c := .ne) rfl (by first | decide | omega) rfl rfl ?_
        refine ex_go (S := (49, [(0, gx_r 191), (1, .inr (.inl x))], [.inl 1], t0, n, 0)) rfl (fun _ => rfl) rfl ?_
        refine ex_go (S := (53, [(0, gx_r 191), (1, .inr (.inl x))], [.inl 1], t0, n, 0)) rfl (fun _ => rfl) rfl ?_
        refine ex_ret (r := (some (.inl 1), t0, n, 0)) rfl (fun _ => rfl) ?_
        exact ⟨_, rfl, _, rfl, by decide, fun _ => Or.inr (Or.inr (Or.inl (c_fi_ex.mpr hf12a))), fun _ => rfl⟩
      · subst hf12b
        refine ex_go (S := (36, [(0, gx_r 191), (1, .inr (.inl x))], [], t0, n, 0)) rfl (fun _ => rfl) rfl ?_
        refine ex_go (S := (37, [(0, gx_r 191), (1, .inr (.inl x))], [gx_r 191], t0, n, 0)) rfl (fun _ => rfl) rfl ?_
        refine gxo_ref (a := 191) (c := 224) rfl g0 rfl rfl rfl rfl rfl ?_
        refine ex_go (S := (41, [(0, gx_r 191), (1, .inr (.inl x))], [.inr (.inl x), gx_r 224], t0, n, 0)) rfl (fun _ => rfl) rfl ?_
        obtain ⟨_, r13, b14, rfl, q15⟩ := pc_find224 (d) n (w := fun i => sp_wv S m (σ 19 i)) (x := x) g0 kk7 (by first | decide | omega) (fun i hi => (rfl).trans (hAo i hi))
        have q15 : (c_fi S m (σ 19) x (σ 7 0) < σ 7 0 ∧ b14 = c_fi S m (σ 19) x (σ 7 0)) ∨ (c_fi S m (σ 19) x (σ 7 0) = σ 7 0 ∧ b14 = 4294967295) := q15
        refine gx_callo (a := 224) rfl rfl g0 rfl rfl rfl r13 rfl ?_
        show en_ex _ _ _ _ (44, [(0, gx_r 191), (1, .inr (.inl x))], [.inl b14], t0, n, 0) _
        refine ex_go (S := (45, [(0, gx_r 191), (1, .inr (.inl x))], [.inl 4294967295, .inl b14], t0, n, 0)) rfl (fun _ => rfl) rfl ?_
        rcases q15 with ⟨hf16a, hf16b⟩ | ⟨hf16a, hf16b⟩
        · have := hf16a
          refine gx_2mf (c := .eq) rfl (by first | decide | omega) rfl rfl ?_
          refine ex_go (S := (49, [(0, gx_r 191), (1, .inr (.inl x))], [.inl 1], t0, n, 0)) rfl (fun _ => rfl) rfl ?_
          refine ex_go (S := (53, [(0, gx_r 191), (1, .inr (.inl x))], [.inl 1], t0, n, 0)) rfl (fun _ => rfl) rfl ?_
          refine ex_ret (r := (some (.inl 1), t0, n, 0)) rfl (fun _ => rfl) ?_
          exact ⟨_, rfl, _, rfl, by decide, fun _ => Or.inr (Or.inr (Or.inr (c_fi_ex.mpr hf16a))), fun _ => rfl⟩
        · subst hf16b
          refine ex_go (S := (52, [(0, gx_r 191), (1, .inr (.inl x))], [], t0, n, 0)) rfl (fun _ => rfl) rfl ?_
          refine ex_go (S := (53, [(0, gx_r 191), (1, .inr (.inl x))], [.inl 0], t0, n, 0)) rfl (fun _ => rfl) rfl ?_
          refine ex_ret (r := (some (.inl 0), t0, n, 0)) rfl (fun _ => rfl) ?_
          exact ⟨_, rfl, _, rfl, by decide, fun z => absurd z (by decide), fun z => by
            rcases z with z | z | z | z
            · have := c_fi_ex.mp z; omega
            · have := c_fi_ex.mp z; omega
            · have := c_fi_ex.mp z; omega
            · have := c_fi_ex.mp z; omega⟩
theorem pc_shipNamed191 (d n : Nat) {x : Nat} {t0 : en_H} {S : Nat → Nat} {m N : Nat} {σ : Nat → Nat → Nat} (g0 : ai_HG ah_G t0) (hA : CA t0 191 S m σ) (h3 : W3 S m N σ) : ∃ r, en_u (d + 2) 269 [gx_r 191, .inr (.inl x)] t0 n = some r ∧ ∃ b, r = (some (.inl b), t0, n, 0) ∧ ((c_fi S m (σ 16) x (σ 2 0) < σ 2 0 ∧ σ 10 (c_fi S m (σ 16) x (σ 2 0)) = 0 ∧ b = c_fi S m (σ 16) x (σ 2 0)) ∨ (¬ (c_fi S m (σ 16) x (σ 2 0) < σ 2 0 ∧ σ 10 (c_fi S m (σ 16) x (σ 2 0)) = 0) ∧ b = 4294967295)) := by
  obtain ⟨⟨kk0, kk1, kk2, kk3, kk4, kk5, kk6, kk7, kk8, kk9, kk10, kk11⟩, hAt, hAl, hAc, hAg, hAs, hAo, gcb0, gcb1, gcb2, gcb3, gcb4, gcb5, gcb6, gcb7, gcb8, gcb9, gcb10, gcb11, gcb12, gcb13⟩ := hA
  have kk0 : ai_hv t0 191 0 = some (.inl (σ 0 0)) := kk0
  have kk1 : ai_hv t0 191 1 = some (.inl (σ 1 0)) := kk1
  have kk2 : ai_hv t0 194 5 = some (.inl (σ 2 0)) := kk2
  have kk3 : ai_hv t0 200 5 = some (.inl (σ 3 0)) := kk3
  have kk4 : ai_hv t0 206 5 = some (.inl (σ 4 0)) := kk4
  have kk5 : ai_hv t0 212 5 = some (.inl (σ 5 0)) := kk5
  have kk6 : ai_hv t0 218 5 = some (.inl (σ 6 0)) := kk6
  have kk7 : ai_hv t0 224 5 = some (.inl (σ 7 0)) := kk7
  have hBB := h3.1.1
  refine en_u_ex (d := d + 1) rfl ?_
  show en_ex _ _ _ _ (0, [(0, gx_r 191), (1, .inr (.inl x))], [], t0, n, 0) _
  refine ex_go (S := (1, [(0, gx_r 191), (1, .inr (.inl x))], [gx_r 191], t0, n, 0)) rfl (fun _ => rfl) rfl ?_
  refine gxo_ref (a := 191) (c := 194) rfl g0 rfl rfl rfl rfl rfl ?_
  refine ex_go (S := (5, [(0, gx_r 191), (1, .inr (.inl x))], [.inr (.inl x), gx_r 194], t0, n, 0)) rfl (fun _ => rfl) rfl ?_
  obtain ⟨_, r1, b2, rfl, q3⟩ := pc_find194 (d) n (w := fun i => sp_wv S m (σ 16 i)) (x := x) g0 kk2 (by first | decide | omega) (fun i hi => (rfl).trans (hAt i hi).1)
  have q3 : (c_fi S m (σ 16) x (σ 2 0) < σ 2 0 ∧ b2 = c_fi S m (σ 16) x (σ 2 0)) ∨ (c_fi S m (σ 16) x (σ 2 0) = σ 2 0 ∧ b2 = 4294967295) := q3
  refine gx_callo (a := 194) rfl rfl g0 rfl rfl rfl r1 rfl ?_
  show en_ex _ _ _ _ (8, [(0, gx_r 191), (1, .inr (.inl x))], [.inl b2], t0, n, 0) _
  rcases q3 with ⟨hfa, hfb⟩ | ⟨hfa, hfb⟩
  · have hfc := h3.1.2 b2 (by first | decide | omega)
    refine ex_go (S := (9, [(3, .inl b2), (0, gx_r 191), (1, .inr (.inl x))], [], t0, n, 0)) rfl (fun _ => rfl) rfl ?_
    refine ex_go (S := (10, [(3, .inl b2), (0, gx_r 191), (1, .inr (.inl x))], [.inl b2], t0, n, 0)) rfl (fun _ => rfl) rfl ?_
    refine ex_go (S := (11, [(3, .inl b2), (0, gx_r 191), (1, .inr (.inl x))], [.inl 4294967295, .inl b2], t0, n, 0)) rfl (fun _ => rfl) rfl ?_
    refine gx_2mf (c := .eq) rfl (by first | decide | omega) rfl rfl ?_
    refine ex_go (S := (15, [(3, .inl b2), (0, gx_r 191), (1, .inr (.inl x))], [gx_r 191], t0, n, 0)) rfl (fun _ => rfl) rfl ?_
    refine gxo_ref (a := 191) (c := 194) rfl g0 rfl rfl rfl rfl rfl ?_
    refine gxo_ref (a := 194) (c := 196) rfl g0 rfl rfl rfl rfl rfl ?_
    refine ex_go (S := (22, [(3, .inl b2), (0, gx_r 191), (1, .inr (.inl x))], [.inl b2, gx_r 196], t0, n, 0)) rfl (fun _ => rfl) rfl ?_
    have k4 : ai_hv t0 196 b2 = some (.inl (σ 10 b2)) := (hAt b2 (by first | decide | omega)).2
    refine gx_ag (v := .inl (σ 10 b2)) (cb := fun c => Nat.beq c 0) rfl (fun _ => rfl) g0 rfl rfl k4 (by first | decide | omega) rfl ?_
    by_cases hc5 : σ 10 b2 ≠ 0
    · refine gx_1t (c := .ne) rfl (by first | decide | omega) hc5 rfl ?_
      refine ex_go (S := (31, [(3, .inl b2), (0, gx_r 191), (1, .inr (.inl x))], [.inl 4294967295], t0, n, 0)) rfl (fun _ => rfl) rfl ?_
      refine ex_ret (r := (some (.inl 4294967295), t0, n, 0)) rfl (fun _ => rfl) ?_
      exact ⟨_, rfl, _, rfl, Or.inr ⟨fun z => by rw [← hfb] at z; omega, rfl⟩⟩
    · refine gx_1f (c := .ne) rfl (by first | decide | omega) hc5 rfl ?_
      refine ex_go (S := (27, [(3, .inl b2), (0, gx_r 191), (1, .inr (.inl x))], [.inl b2], t0, n, 0)) rfl (fun _ => rfl) rfl ?_
      refine ex_go (S := (31, [(3, .inl b2), (0, gx_r 191), (1, .inr (.inl x))], [.inl b2], t0, n, 0)) rfl (fun _ => rfl) rfl ?_
      refine ex_ret (r := (some (.inl b2), t0, n, 0)) rfl (fun _ => rfl) ?_
      exact ⟨_, rfl, _, rfl, Or.inl ⟨by omega, by rw [← hfb]; omega, hfb⟩⟩
  · subst hfb
    refine ex_go (S := (9, [(3, .inl 4294967295), (0, gx_r 191), (1, .inr (.inl x))], [], t0, n, 0)) rfl (fun _ => rfl) rfl ?_
    refine ex_go (S := (10, [(3, .inl 4294967295), (0, gx_r 191), (1, .inr (.inl x))], [.inl 4294967295], t0, n, 0)) rfl (fun _ => rfl) rfl ?_
    refine ex_go (S := (11, [(3, .inl 4294967295), (0, gx_r 191), (1, .inr (.inl x))], [.inl 4294967295, .inl 4294967295], t0, n, 0)) rfl (fun _ => rfl) rfl ?_
    refine ex_go (S := (30, [(3, .inl 4294967295), (0, gx_r 191), (1, .inr (.inl x))], [], t0, n, 0)) rfl (fun _ => rfl) rfl ?_
    refine ex_go (S := (31, [(3, .inl 4294967295), (0, gx_r 191), (1, .inr (.inl x))], [.inl 4294967295], t0, n, 0)) rfl (fun _ => rfl) rfl ?_
    refine ex_ret (r := (some (.inl 4294967295), t0, n, 0)) rfl (fun _ => rfl) ?_
    exact ⟨_, rfl, _, rfl, Or.inr ⟨fun z => by omega, rfl⟩⟩
theorem pc_isTold257 (d n : Nat) {x : Nat} {t0 : en_H} {S : Nat → Nat} {m N : Nat} {σ : Nat → Nat → Nat} (g0 : ai_HG ah_G t0) (hA : CA t0 257 S m σ) (h3 : W3 S m N σ) : ∃ r, en_u (d + 2) 279 [gx_r 257, .inr (.inl x)] t0 n = some r ∧ ∃ b, r = (some (.inl b), t0, n, 0) ∧ b ≤ 1 ∧ (b = 1 ↔ c_told S m σ x) := by
  obtain ⟨⟨kk0, kk1, kk2, kk3, kk4, kk5, kk6, kk7, kk8, kk9, kk10, kk11⟩, hAt, hAl, hAc, hAg, hAs, hAo, gcb0, gcb1, gcb2, gcb3, gcb4, gcb5, gcb6, gcb7, gcb8, gcb9, gcb10, gcb11, gcb12, gcb13⟩ := hA
  have kk0 : ai_hv t0 257 0 = some (.inl (σ 0 0)) := kk0
  have kk1 : ai_hv t0 257 1 = some (.inl (σ 1 0)) := kk1
  have kk2 : ai_hv t0 260 5 = some (.inl (σ 2 0)) := kk2
  have kk3 : ai_hv t0 266 5 = some (.inl (σ 3 0)) := kk3
  have kk4 : ai_hv t0 272 5 = some (.inl (σ 4 0)) := kk4
  have kk5 : ai_hv t0 278 5 = some (.inl (σ 5 0)) := kk5
  have kk6 : ai_hv t0 284 5 = some (.inl (σ 6 0)) := kk6
  have kk7 : ai_hv t0 290 5 = some (.inl (σ 7 0)) := kk7
  have hBB := h3.1.1
  refine en_u_ex (d := d + 1) rfl ?_
  show en_ex _ _ _ _ (0, [(0, gx_r 257), (1, .inr (.inl x))], [], t0, n, 0) _
  refine ex_go (S := (1, [(0, gx_r 257), (1, .inr (.inl x))], [gx_r 257], t0, n, 0)) rfl (fun _ => rfl) rfl ?_
  refine gxo_ref (a := 257) (c := 260) rfl g0 rfl rfl rfl rfl rfl ?_
  refine ex_go (S := (5, [(0, gx_r 257), (1, .inr (.inl x))], [.inr (.inl x), gx_r 260], t0, n, 0)) rfl (fun _ => rfl) rfl ?_
  obtain ⟨_, r1, b2, rfl, q3⟩ := pc_find260 (d) n (w := fun i => sp_wv S m (σ 16 i)) (x := x) g0 kk2 (by first | decide | omega) (fun i hi => (rfl).trans (hAt i hi).1)
  have q3 : (c_fi S m (σ 16) x (σ 2 0) < σ 2 0 ∧ b2 = c_fi S m (σ 16) x (σ 2 0)) ∨ (c_fi S m (σ 16) x (σ 2 0) = σ 2 0 ∧ b2 = 4294967295) := q3
  refine gx_callo (a := 260) rfl rfl g0 rfl rfl rfl r1 rfl ?_
  show en_ex _ _ _ _ (8, [(0, gx_r 257), (1, .inr (.inl x))], [.inl b2], t0, n, 0) _
  refine ex_go (S := (9, [(0, gx_r 257), (1, .inr (.inl x))], [.inl 4294967295, .inl b2], t0, n, 0)) rfl (fun _ => rfl) rfl ?_
  rcases q3 with ⟨hf4a, hf4b⟩ | ⟨hf4a, hf4b⟩
  · have := hf4a
    refine gx_2mt (c := .ne) rfl (by first | decide | omega) rfl rfl ?_
    refine ex_go (S := (49, [(0, gx_r 257), (1, .inr (.inl x))], [.inl 1], t0, n, 0)) rfl (fun _ => rfl) rfl ?_
    refine ex_go (S := (53, [(0, gx_r 257), (1, .inr (.inl x))], [.inl 1], t0, n, 0)) rfl (fun _ => rfl) rfl ?_
    refine ex_ret (r := (some (.inl 1), t0, n, 0)) rfl (fun _ => rfl) ?_
    exact ⟨_, rfl, _, rfl, by decide, fun _ => Or.inl (c_fi_ex.mpr hf4a), fun _ => rfl⟩
  · subst hf4b
    refine ex_go (S := (12, [(0, gx_r 257), (1, .inr (.inl x))], [], t0, n, 0)) rfl (fun _ => rfl) rfl ?_
    refine ex_go (S := (13, [(0, gx_r 257), (1, .inr (.inl x))], [gx_r 257], t0, n, 0)) rfl (fun _ => rfl) rfl ?_
    refine gxo_ref (a := 257) (c := 278) rfl g0 rfl rfl rfl rfl rfl ?_
    refine ex_go (S := (17, [(0, gx_r 257), (1, .inr (.inl x))], [.inr (.inl x), gx_r 278], t0, n, 0)) rfl (fun _ => rfl) rfl ?_
    obtain ⟨_, r5, b6, rfl, q7⟩ := pc_find278 (d) n (w := fun i => sp_wv S m (σ 17 i)) (x := x) g0 kk5 (by first | decide | omega) (fun i hi => (rfl).trans (hAg i hi))
    have q7 : (c_fi S m (σ 17) x (σ 5 0) < σ 5 0 ∧ b6 = c_fi S m (σ 17) x (σ 5 0)) ∨ (c_fi S m (σ 17) x (σ 5 0) = σ 5 0 ∧ b6 = 4294967295) := q7
    refine gx_callo (a := 278) rfl rfl g0 rfl rfl rfl r5 rfl ?_
    show en_ex _ _ _ _ (20, [(0, gx_r 257), (1, .inr (.inl x))], [.inl b6], t0, n, 0) _
    refine ex_go (S := (21, [(0, gx_r 257), (1, .inr (.inl x))], [.inl 4294967295, .inl b6], t0, n, 0)) rfl (fun _ => rfl) rfl ?_
    rcases q7 with ⟨hf8a, hf8b⟩ | ⟨hf8a, hf8b⟩
    · have := hf8a
      refine gx_2mt (c := .ne) rfl (by first | decide | omega) rfl rfl ?_
      refine ex_go (S := (49, [(0, gx_r 257), (1, .inr (.inl x))], [.inl 1], t0, n, 0)) rfl (fun _ => rfl) rfl ?_
      refine ex_go (S := (53, [(0, gx_r 257), (1, .inr (.inl x))], [.inl 1], t0, n, 0)) rfl (fun _ => rfl) rfl ?_
      refine ex_ret (r := (some (.inl 1), t0, n, 0)) rfl (fun _ => rfl) ?_
      exact ⟨_, rfl, _, rfl, by decide, fun _ => Or.inr (Or.inl (c_fi_ex.mpr hf8a)), fun _ => rfl⟩
    · subst hf8b
      refine ex_go (S := (24, [(0, gx_r 257), (1, .inr (.inl x))], [], t0, n, 0)) rfl (fun _ => rfl) rfl ?_
      refine ex_go (S := (25, [(0, gx_r 257), (1, .inr (.inl x))], [gx_r 257], t0, n, 0)) rfl (fun _ => rfl) rfl ?_
      refine gxo_ref (a := 257) (c := 284) rfl g0 rfl rfl rfl rfl rfl ?_
      refine ex_go (S := (29, [(0, gx_r 257), (1, .inr (.inl x))], [.inr (.inl x), gx_r 284], t0, n, 0)) rfl (fun _ => rfl) rfl ?_
      obtain ⟨_, r9, b10, rfl, q11⟩ := pc_find284 (d) n (w := fun i => sp_wv S m (σ 18 i)) (x := x) g0 kk6 (by first | decide | omega) (fun i hi => (rfl).trans (hAs i hi))
      have q11 : (c_fi S m (σ 18) x (σ 6 0) < σ 6 0 ∧ b10 = c_fi S m (σ 18) x (σ 6 0)) ∨ (c_fi S m (σ 18) x (σ 6 0) = σ 6 0 ∧ b10 = 4294967295) := q11
      refine gx_callo (a := 284) rfl rfl g0 rfl rfl rfl r9 rfl ?_
      show en_ex _ _ _ _ (32, [(0, gx_r 257), (1, .inr (.inl x))], [.inl b10], t0, n, 0) _
      refine ex_go (S := (33, [(0, gx_r 257), (1, .inr (.inl x))], [.inl 4294967295, .inl b10], t0, n, 0)) rfl (fun _ => rfl) rfl ?_
      rcases q11 with ⟨hf12a, hf12b⟩ | ⟨hf12a, hf12b⟩
      · have := hf12a
        refine gx_2mt (c := .ne) rfl (by first | decide | omega) rfl rfl ?_
        refine ex_go (S := (49, [(0, gx_r 257), (1, .inr (.inl x))], [.inl 1], t0, n, 0)) rfl (fun _ => rfl) rfl ?_
        refine ex_go (S := (53, [(0, gx_r 257), (1, .inr (.inl x))], [.inl 1], t0, n, 0)) rfl (fun _ => rfl) rfl ?_
        refine ex_ret (r := (some (.inl 1), t0, n, 0)) rfl (fun _ => rfl) ?_
        exact ⟨_, rfl, _, rfl, by decide, fun _ => Or.inr (Or.inr (Or.inl (c_fi_ex.mpr hf12a))), fun _ => rfl⟩
      · subst hf12b
        refine ex_go (S := (36, [(0, gx_r 257), (1, .inr (.inl x))], [], t0, n, 0)) rfl (fun _ => rfl) rfl ?_
        refine ex_go (S := (37, [(0, gx_r 257), (1, .inr (.inl x))], [gx_r 257], t0, n, 0)) rfl (fun _ => rfl) rfl ?_
        refine gxo_ref (a := 257) (c := 290) rfl g0 rfl rfl rfl rfl rfl ?_
        refine ex_go (S := (41, [(0, gx_r 257), (1, .inr (.inl x))], [.inr (.inl x), gx_r 290], t0, n, 0)) rfl (fun _ => rfl) rfl ?_
        obtain ⟨_, r13, b14, rfl, q15⟩ := pc_find290 (d) n (w := fun i => sp_wv S m (σ 19 i)) (x := x) g0 kk7 (by first | decide | omega) (fun i hi => (rfl).trans (hAo i hi))
        have q15 : (c_fi S m (σ 19) x (σ 7 0) < σ 7 0 ∧ b14 = c_fi S m (σ 19) x (σ 7 0)) ∨ (c_fi S m (σ 19) x (σ 7 0) = σ 7 0 ∧ b14 = 4294967295) := q15
        refine gx_callo (a := 290) rfl rfl g0 rfl rfl rfl r13 rfl ?_
        show en_ex _ _ _ _ (44, [(0, gx_r 257), (1, .inr (.inl x))], [.inl b14], t0, n, 0) _
        refine ex_go (S := (45, [(0, gx_r 257), (1, .inr (.inl x))], [.inl 4294967295, .inl b14], t0, n, 0)) rfl (fun _ => rfl) rfl ?_
        rcases q15 with ⟨hf16a, hf16b⟩ | ⟨hf16a, hf16b⟩
        · have := hf16a
          refine gx_2mf (c := .eq) rfl (by first | decide | omega) rfl rfl ?_
          refine ex_go (S := (49, [(0, gx_r 257), (1, .inr (.inl x))], [.inl 1], t0, n, 0)) rfl (fun _ => rfl) rfl ?_
          refine ex_go (S := (53, [(0, gx_r 257), (1, .inr (.inl x))], [.inl 1], t0, n, 0)) rfl (fun _ => rfl) rfl ?_
          refine ex_ret (r := (some (.inl 1), t0, n, 0)) rfl (fun _ => rfl) ?_
          exact ⟨_, rfl, _, rfl, by decide, fun _ => Or.inr (Or.inr (Or.inr (c_fi_ex.mpr hf16a))), fun _ => rfl⟩
        · subst hf16b
          refine ex_go (S := (52, [(0, gx_r 257), (1, .inr (.inl x))], [], t0, n, 0)) rfl (fun _ => rfl) rfl ?_
          refine ex_go (S := (53, [(0, gx_r 257), (1, .inr (.inl x))], [.inl 0], t0, n, 0)) rfl (fun _ => rfl) rfl ?_
          refine ex_ret (r := (some (.inl 0), t0, n, 0)) rfl (fun _ => rfl) ?_
          exact ⟨_, rfl, _, rfl, by decide, fun z => absurd z (by decide), fun z => by
            rcases z with z | z | z | z
            · have := c_fi_ex.mp z; omega
            · have := c_fi_ex.mp z; omega
            · have := c_fi_ex.mp z; omega
            · have := c_fi_ex.mp z; omega⟩
theorem pc_shipNamed257 (d n : Nat) {x : Nat} {t0 : en_H} {S : Nat → Nat} {m N : Nat} {σ : Nat → Nat → Nat} (g0 : ai_HG ah_G t0) (hA : CA t0 257 S m σ) (h3 : W3 S m N σ) : ∃ r, en_u (d + 2) 269 [gx_r 257, .inr (.inl x)] t0 n = some r ∧ ∃ b, r = (some (.inl b), t0, n, 0) ∧ ((c_fi S m (σ 16) x (σ 2 0) < σ 2 0 ∧ σ 10 (c_fi S m (σ 16) x (σ 2 0)) = 0 ∧ b = c_fi S m (σ 16) x (σ 2 0)) ∨ (¬ (c_fi S m (σ 16) x (σ 2 0) < σ 2 0 ∧ σ 10 (c_fi S m (σ 16) x (σ 2 0)) = 0) ∧ b = 4294967295)) := by
  obtain ⟨⟨kk0, kk1, kk2, kk3, kk4, kk5, kk6, kk7, kk8, kk9, kk10, kk11⟩, hAt, hAl, hAc, hAg, hAs, hAo, gcb0, gcb1, gcb2, gcb3, gcb4, gcb5, gcb6, gcb7, gcb8, gcb9, gcb10, gcb11, gcb12, gcb13⟩ := hA
  have kk0 : ai_hv t0 257 0 = some (.inl (σ 0 0)) := kk0
  have kk1 : ai_hv t0 257 1 = some (.inl (σ 1 0)) := kk1
  have kk2 : ai_hv t0 260 5 = some (.inl (σ 2 0)) := kk2
  have kk3 : ai_hv t0 266 5 = some (.inl (σ 3 0)) := kk3
  have kk4 : ai_hv t0 272 5 = some (.inl (σ 4 0)) := kk4
  have kk5 : ai_hv t0 278 5 = some (.inl (σ 5 0)) := kk5
  have kk6 : ai_hv t0 284 5 = some (.inl (σ 6 0)) := kk6
  have kk7 : ai_hv t0 290 5 = some (.inl (σ 7 0)) := kk7
  have hBB := h3.1.1
  refine en_u_ex (d := d + 1) rfl ?_
  show en_ex _ _ _ _ (0, [(0, gx_r 257), (1, .inr (.inl x))], [], t0, n, 0) _
  refine ex_go (S := (1, [(0, gx_r 257), (1, .inr (.inl x))], [gx_r 257], t0, n, 0)) rfl (fun _ => rfl) rfl ?_
  refine gxo_ref (a := 257) (c := 260) rfl g0 rfl rfl rfl rfl rfl ?_
  refine ex_go (S := (5, [(0, gx_r 257), (1, .inr (.inl x))], [.inr (.inl x), gx_r 260], t0, n, 0)) rfl (fun _ => rfl) rfl ?_
  obtain ⟨_, r1, b2, rfl, q3⟩ := pc_find260 (d) n (w := fun i => sp_wv S m (σ 16 i)) (x := x) g0 kk2 (by first | decide | omega) (fun i hi => (rfl).trans (hAt i hi).1)
  have q3 : (c_fi S m (σ 16) x (σ 2 0) < σ 2 0 ∧ b2 = c_fi S m (σ 16) x (σ 2 0)) ∨ (c_fi S m (σ 16) x (σ 2 0) = σ 2 0 ∧ b2 = 4294967295) := q3
  refine gx_callo (a := 260) rfl rfl g0 rfl rfl rfl r1 rfl ?_
  show en_ex _ _ _ _ (8, [(0, gx_r 257), (1, .inr (.inl x))], [.inl b2], t0, n, 0) _
  rcases q3 with ⟨hfa, hfb⟩ | ⟨hfa, hfb⟩
  · have hfc := h3.1.2 b2 (by first | decide | omega)
    refine ex_go (S := (9, [(3, .inl b2), (0, gx_r 257), (1, .inr (.inl x))], [], t0, n, 0)) rfl (fun _ => rfl) rfl ?_
    refine ex_go (S := (10, [(3, .inl b2), (0, gx_r 257), (1, .inr (.inl x))], [.inl b2], t0, n, 0)) rfl (fun _ => rfl) rfl ?_
    refine ex_go (S := (11, [(3, .inl b2), (0, gx_r 257), (1, .inr (.inl x))], [.inl 4294967295, .inl b2], t0, n, 0)) rfl (fun _ => rfl) rfl ?_
    refine gx_2mf (c := .eq) rfl (by first | decide | omega) rfl rfl ?_
    refine ex_go (S := (15, [(3, .inl b2), (0, gx_r 257), (1, .inr (.inl x))], [gx_r 257], t0, n, 0)) rfl (fun _ => rfl) rfl ?_
    refine gxo_ref (a := 257) (c := 260) rfl g0 rfl rfl rfl rfl rfl ?_
    refine gxo_ref (a := 260) (c := 262) rfl g0 rfl rfl rfl rfl rfl ?_
    refine ex_go (S := (22, [(3, .inl b2), (0, gx_r 257), (1, .inr (.inl x))], [.inl b2, gx_r 262], t0, n, 0)) rfl (fun _ => rfl) rfl ?_
    have k4 : ai_hv t0 262 b2 = some (.inl (σ 10 b2)) := (hAt b2 (by first | decide | omega)).2
    refine gx_ag (v := .inl (σ 10 b2)) (cb := fun c => Nat.beq c 0) rfl (fun _ => rfl) g0 rfl rfl k4 (by first | decide | omega) rfl ?_
    by_cases hc5 : σ 10 b2 ≠ 0
    · refine gx_1t (c := .ne) rfl (by first | decide | omega) hc5 rfl ?_
      refine ex_go (S := (31, [(3, .inl b2), (0, gx_r 257), (1, .inr (.inl x))], [.inl 4294967295], t0, n, 0)) rfl (fun _ => rfl) rfl ?_
      refine ex_ret (r := (some (.inl 4294967295), t0, n, 0)) rfl (fun _ => rfl) ?_
      exact ⟨_, rfl, _, rfl, Or.inr ⟨fun z => by rw [← hfb] at z; omega, rfl⟩⟩
    · refine gx_1f (c := .ne) rfl (by first | decide | omega) hc5 rfl ?_
      refine ex_go (S := (27, [(3, .inl b2), (0, gx_r 257), (1, .inr (.inl x))], [.inl b2], t0, n, 0)) rfl (fun _ => rfl) rfl ?_
      refine ex_go (S := (31, [(3, .inl b2), (0, gx_r 257), (1, .inr (.inl x))], [.inl b2], t0, n, 0)) rfl (fun _ => rfl) rfl ?_
      refine ex_ret (r := (some (.inl b2), t0, n, 0)) rfl (fun _ => rfl) ?_
      exact ⟨_, rfl, _, rfl, Or.inl ⟨by omega, by rw [← hfb]; omega, hfb⟩⟩
  · subst hfb
    refine ex_go (S := (9, [(3, .inl 4294967295), (0, gx_r 257), (1, .inr (.inl x))], [], t0, n, 0)) rfl (fun _ => rfl) rfl ?_
    refine ex_go (S := (10, [(3, .inl 4294967295), (0, gx_r 257), (1, .inr (.inl x))], [.inl 4294967295], t0, n, 0)) rfl (fun _ => rfl) rfl ?_
    refine ex_go (S := (11, [(3, .inl 4294967295), (0, gx_r 257), (1, .inr (.inl x))], [.inl 4294967295, .inl 4294967295], t0, n, 0)) rfl (fun _ => rfl) rfl ?_
    refine ex_go (S := (30, [(3, .inl 4294967295), (0, gx_r 257), (1, .inr (.inl x))], [], t0, n, 0)) rfl (fun _ => rfl) rfl ?_
    refine ex_go (S := (31, [(3, .inl 4294967295), (0, gx_r 257), (1, .inr (.inl x))], [.inl 4294967295], t0, n, 0)) rfl (fun _ => rfl) rfl ?_
    refine ex_ret (r := (some (.inl 4294967295), t0, n, 0)) rfl (fun _ => rfl) ?_
    exact ⟨_, rfl, _, rfl, Or.inr ⟨fun z => by omega, rfl⟩⟩
theorem pc_crewOf191_l {fn : en_F} {n c x : Nat} {t0 : en_H} {w : Nat → Nat} (g0 : ai_HG ah_G t0) (k5 : ai_hv t0 206 5 = some (.inl c)) (hc : c ≤ 2) (hn : ∀ i, i < c → ai_hv t0 208 i = some (.inl (w i)) ∧ w i < 2147483648) (hx : x < 2147483648) : ∀ j k, k + j = c → (∀ i, i < k → w i ≠ x) → en_ex none fn (en_code 171) (fun _ => false) (2, [(2, .inl k), (0, gx_r 191), (1, .inl x)], [], t0, n, 0) (fun o => ∃ r, o = .inl r ∧ ∃ b, r = (some (.inl b), t0, n, 0) ∧ ((b < 2 ∧ ∃ i, i < c ∧ w i = x) ∨ (b = 4294967295 ∧ ∀ i, i < c → w i ≠ x))) := by
  intro j
  induction j with
  | zero =>
    intro k hk hi
    refine ex_go (S := (3, [(2, .inl k), (0, gx_r 191), (1, .inl x)], [.inl k], t0, n, 0)) rfl (fun _ => rfl) rfl ?_
    refine ex_go (S := (4, [(2, .inl k), (0, gx_r 191), (1, .inl x)], [gx_r 191, .inl k], t0, n, 0)) rfl (fun _ => rfl) rfl ?_
    refine gxo_ref (a := 191) (c := 206) rfl g0 rfl rfl rfl rfl rfl ?_
    refine gxo_get (a := 206) rfl g0 rfl rfl k5 rfl ?_
    refine gx_2t (c := .ge) rfl (by first | decide | omega) (by first | decide | omega) (show c ≤ k from by omega) rfl ?_
    refine ex_go (S := (35, [(2, .inl k), (0, gx_r 191), (1, .inl x)], [.inl 4294967295], t0, n, 0)) rfl (fun _ => rfl) rfl ?_
    refine ex_ret (r := (some (.inl 4294967295), t0, n, 0)) rfl (fun _ => rfl) ?_
    exact ⟨_, rfl, _, rfl, Or.inr ⟨rfl, fun i h => hi i (by first | decide | omega)⟩⟩
  | succ j ih =>
    intro k hk hi
    obtain ⟨kn, kb⟩ := hn k (by first | decide | omega)
    refine ex_go (S := (3, [(2, .inl k), (0, gx_r 191), (1, .inl x)], [.inl k], t0, n, 0)) rfl (fun _ => rfl) rfl ?_
    refine ex_go (S := (4, [(2, .inl k), (0, gx_r 191), (1, .inl x)], [gx_r 191, .inl k], t0, n, 0)) rfl (fun _ => rfl) rfl ?_
    refine gxo_ref (a := 191) (c := 206) rfl g0 rfl rfl rfl rfl rfl ?_
    refine gxo_get (a := 206) rfl g0 rfl rfl k5 rfl ?_
    refine gx_2f (c := .ge) rfl (by first | decide | omega) (by first | decide | omega) (show ¬ (c ≤ k) from by omega) rfl ?_
    refine ex_go (S := (14, [(2, .inl k), (0, gx_r 191), (1, .inl x)], [gx_r 191], t0, n, 0)) rfl (fun _ => rfl) rfl ?_
    refine gxo_ref (a := 191) (c := 206) rfl g0 rfl rfl rfl rfl rfl ?_
    refine gxo_ref (a := 206) (c := 208) rfl g0 rfl rfl rfl rfl rfl ?_
    refine ex_go (S := (21, [(2, .inl k), (0, gx_r 191), (1, .inl x)], [.inl k, gx_r 208], t0, n, 0)) rfl (fun _ => rfl) rfl ?_
    refine gx_ag (v := .inl (w k)) (cb := fun c => Nat.beq c 0) rfl (fun _ => rfl) g0 rfl rfl kn (by first | decide | omega) rfl ?_
    refine ex_go (S := (23, [(2, .inl k), (0, gx_r 191), (1, .inl x)], [.inl x, .inl (w k)], t0, n, 0)) rfl (fun _ => rfl) rfl ?_
    by_cases hc1 : w k ≠ x
    · refine gx_2t (c := .ne) rfl (by first | decide | omega) (by first | decide | omega) hc1 rfl ?_
      refine gx_iinc (i := 2) (k := 1) rfl (fun _ => rfl) (by first | decide | omega) rfl ?_
      show en_ex _ _ _ _ (31, [(2, .inl (k + 1)), (0, gx_r 191), (1, .inl x)], [], t0, n, 0) _
      refine ex_go (S := (2, [(2, .inl (k + 1)), (0, gx_r 191), (1, .inl x)], [], t0, n, 0)) rfl (fun _ => rfl) rfl ?_
      exact ih (k + 1) (by first | decide | omega) (fun i h => by
        by_cases e : i = k
        · rw [e]; omega
        · exact hi i (by first | decide | omega))
    · refine gx_2f (c := .ne) rfl (by first | decide | omega) (by first | decide | omega) hc1 rfl ?_
      refine ex_go (S := (27, [(2, .inl k), (0, gx_r 191), (1, .inl x)], [.inl k], t0, n, 0)) rfl (fun _ => rfl) rfl ?_
      refine ex_ret (r := (some (.inl k), t0, n, 0)) rfl (fun _ => rfl) ?_
      exact ⟨_, rfl, _, rfl, Or.inl ⟨by omega, k, by omega, by omega⟩⟩
theorem pc_crewOf191 (d n : Nat) {c x : Nat} {t0 : en_H} {w : Nat → Nat} (g0 : ai_HG ah_G t0) (k5 : ai_hv t0 206 5 = some (.inl c)) (hc : c ≤ 2) (hn : ∀ i, i < c → ai_hv t0 208 i = some (.inl (w i)) ∧ w i < 2147483648) (hx : x < 2147483648) : ∃ r, en_u (d + 1) 171 [gx_r 191, .inl x] t0 n = some r ∧ ∃ b, r = (some (.inl b), t0, n, 0) ∧ ((b < 2 ∧ ∃ i, i < c ∧ w i = x) ∨ (b = 4294967295 ∧ ∀ i, i < c → w i ≠ x)) := by
  refine en_u_ex rfl ?_
  show en_ex _ _ _ _ (0, [(0, gx_r 191), (1, .inl x)], [], t0, n, 0) _
  refine ex_go (S := (1, [(0, gx_r 191), (1, .inl x)], [.inl 0], t0, n, 0)) rfl (fun _ => rfl) rfl ?_
  refine ex_go (S := (2, [(2, .inl 0), (0, gx_r 191), (1, .inl x)], [], t0, n, 0)) rfl (fun _ => rfl) rfl ?_
  exact pc_crewOf191_l g0 k5 hc hn hx c 0 (by first | decide | omega) (fun i h => absurd h (Nat.not_lt_zero i))
theorem pc_hasLead191_l {fn : en_F} {n c x : Nat} {t0 : en_H} {w : Nat → Nat} (g0 : ai_HG ah_G t0) (k5 : ai_hv t0 200 5 = some (.inl c)) (hc : c ≤ 6) (hn : ∀ i, i < c → ai_hv t0 202 i = some (.inl (w i)) ∧ w i < 2147483648) (hx : x < 2147483648) : ∀ j k, k + j = c → (∀ i, i < k → w i ≠ x) → en_ex none fn (en_code 267) (fun _ => false) (2, [(2, .inl k), (0, gx_r 191), (1, .inl x)], [], t0, n, 0) (fun o => ∃ r, o = .inl r ∧ ∃ b, r = (some (.inl b), t0, n, 0) ∧ ((b = 1 ∧ ∃ i, i < c ∧ w i = x) ∨ (b = 0 ∧ ∀ i, i < c → w i ≠ x))) := by
  intro j
  induction j with
  | zero =>
    intro k hk hi
    refine ex_go (S := (3, [(2, .inl k), (0, gx_r 191), (1, .inl x)], [.inl k], t0, n, 0)) rfl (fun _ => rfl) rfl ?_
    refine ex_go (S := (4, [(2, .inl k), (0, gx_r 191), (1, .inl x)], [gx_r 191, .inl k], t0, n, 0)) rfl (fun _ => rfl) rfl ?_
    refine gxo_ref (a := 191) (c := 200) rfl g0 rfl rfl rfl rfl rfl ?_
    refine gxo_get (a := 200) rfl g0 rfl rfl k5 rfl ?_
    refine gx_2t (c := .ge) rfl (by first | decide | omega) (by first | decide | omega) (show c ≤ k from by omega) rfl ?_
    refine ex_go (S := (35, [(2, .inl k), (0, gx_r 191), (1, .inl x)], [.inl 0], t0, n, 0)) rfl (fun _ => rfl) rfl ?_
    refine ex_ret (r := (some (.inl 0), t0, n, 0)) rfl (fun _ => rfl) ?_
    exact ⟨_, rfl, _, rfl, Or.inr ⟨rfl, fun i h => hi i (by first | decide | omega)⟩⟩
  | succ j ih =>
    intro k hk hi
    obtain ⟨kn, kb⟩ := hn k (by first | decide | omega)
    refine ex_go (S := (3, [(2, .inl k), (0, gx_r 191), (1, .inl x)], [.inl k], t0, n, 0)) rfl (fun _ => rfl) rfl ?_
    refine ex_go (S := (4, [(2, .inl k), (0, gx_r 191), (1, .inl x)], [gx_r 191, .inl k], t0, n, 0)) rfl (fun _ => rfl) rfl ?_
    refine gxo_ref (a := 191) (c := 200) rfl g0 rfl rfl rfl rfl rfl ?_
    refine gxo_get (a := 200) rfl g0 rfl rfl k5 rfl ?_
    refine gx_2f (c := .ge) rfl (by first | decide | omega) (by first | decide | omega) (show ¬ (c ≤ k) from by omega) rfl ?_
    refine ex_go (S := (14, [(2, .inl k), (0, gx_r 191), (1, .inl x)], [gx_r 191], t0, n, 0)) rfl (fun _ => rfl) rfl ?_
    refine gxo_ref (a := 191) (c := 200) rfl g0 rfl rfl rfl rfl rfl ?_
    refine gxo_ref (a := 200) (c := 202) rfl g0 rfl rfl rfl rfl rfl ?_
    refine ex_go (S := (21, [(2, .inl k), (0, gx_r 191), (1, .inl x)], [.inl k, gx_r 202], t0, n, 0)) rfl (fun _ => rfl) rfl ?_
    refine gx_ag (v := .inl (w k)) (cb := fun c => Nat.beq c 0) rfl (fun _ => rfl) g0 rfl rfl kn (by first | decide | omega) rfl ?_
    refine ex_go (S := (23, [(2, .inl k), (0, gx_r 191), (1, .inl x)], [.inl x, .inl (w k)], t0, n, 0)) rfl (fun _ => rfl) rfl ?_
    by_cases hc1 : w k ≠ x
    · refine gx_2t (c := .ne) rfl (by first | decide | omega) (by first | decide | omega) hc1 rfl ?_
      refine gx_iinc (i := 2) (k := 1) rfl (fun _ => rfl) (by first | decide | omega) rfl ?_
      show en_ex _ _ _ _ (31, [(2, .inl (k + 1)), (0, gx_r 191), (1, .inl x)], [], t0, n, 0) _
      refine ex_go (S := (2, [(2, .inl (k + 1)), (0, gx_r 191), (1, .inl x)], [], t0, n, 0)) rfl (fun _ => rfl) rfl ?_
      exact ih (k + 1) (by first | decide | omega) (fun i h => by
        by_cases e : i = k
        · rw [e]; omega
        · exact hi i (by first | decide | omega))
    · refine gx_2f (c := .ne) rfl (by first | decide | omega) (by first | decide | omega) hc1 rfl ?_
      refine ex_go (S := (27, [(2, .inl k), (0, gx_r 191), (1, .inl x)], [.inl 1], t0, n, 0)) rfl (fun _ => rfl) rfl ?_
      refine ex_ret (r := (some (.inl 1), t0, n, 0)) rfl (fun _ => rfl) ?_
      exact ⟨_, rfl, _, rfl, Or.inl ⟨rfl, k, by omega, by omega⟩⟩
theorem pc_hasLead191 (d n : Nat) {c x : Nat} {t0 : en_H} {w : Nat → Nat} (g0 : ai_HG ah_G t0) (k5 : ai_hv t0 200 5 = some (.inl c)) (hc : c ≤ 6) (hn : ∀ i, i < c → ai_hv t0 202 i = some (.inl (w i)) ∧ w i < 2147483648) (hx : x < 2147483648) : ∃ r, en_u (d + 1) 267 [gx_r 191, .inl x] t0 n = some r ∧ ∃ b, r = (some (.inl b), t0, n, 0) ∧ ((b = 1 ∧ ∃ i, i < c ∧ w i = x) ∨ (b = 0 ∧ ∀ i, i < c → w i ≠ x)) := by
  refine en_u_ex rfl ?_
  show en_ex _ _ _ _ (0, [(0, gx_r 191), (1, .inl x)], [], t0, n, 0) _
  refine ex_go (S := (1, [(0, gx_r 191), (1, .inl x)], [.inl 0], t0, n, 0)) rfl (fun _ => rfl) rfl ?_
  refine ex_go (S := (2, [(2, .inl 0), (0, gx_r 191), (1, .inl x)], [], t0, n, 0)) rfl (fun _ => rfl) rfl ?_
  exact pc_hasLead191_l g0 k5 hc hn hx c 0 (by first | decide | omega) (fun i h => absurd h (Nat.not_lt_zero i))
theorem pc_crewOf257_l {fn : en_F} {n c x : Nat} {t0 : en_H} {w : Nat → Nat} (g0 : ai_HG ah_G t0) (k5 : ai_hv t0 272 5 = some (.inl c)) (hc : c ≤ 2) (hn : ∀ i, i < c → ai_hv t0 274 i = some (.inl (w i)) ∧ w i < 2147483648) (hx : x < 2147483648) : ∀ j k, k + j = c → (∀ i, i < k → w i ≠ x) → en_ex none fn (en_code 171) (fun _ => false) (2, [(2, .inl k), (0, gx_r 257), (1, .inl x)], [], t0, n, 0) (fun o => ∃ r, o = .inl r ∧ ∃ b, r = (some (.inl b), t0, n, 0) ∧ ((b < 2 ∧ ∃ i, i < c ∧ w i = x) ∨ (b = 4294967295 ∧ ∀ i, i < c → w i ≠ x))) := by
  intro j
  induction j with
  | zero =>
    intro k hk hi
    refine ex_go (S := (3, [(2, .inl k), (0, gx_r 257), (1, .inl x)], [.inl k], t0, n, 0)) rfl (fun _ => rfl) rfl ?_
    refine ex_go (S := (4, [(2, .inl k), (0, gx_r 257), (1, .inl x)], [gx_r 257, .inl k], t0, n, 0)) rfl (fun _ => rfl) rfl ?_
    refine gxo_ref (a := 257) (c := 272) rfl g0 rfl rfl rfl rfl rfl ?_
    refine gxo_get (a := 272) rfl g0 rfl rfl k5 rfl ?_
    refine gx_2t (c := .ge) rfl (by first | decide | omega) (by first | decide | omega) (show c ≤ k from by omega) rfl ?_
    refine ex_go (S := (35, [(2, .inl k), (0, gx_r 257), (1, .inl x)], [.inl 4294967295], t0, n, 0)) rfl (fun _ => rfl) rfl ?_
    refine ex_ret (r := (some (.inl 4294967295), t0, n, 0)) rfl (fun _ => rfl) ?_
    exact ⟨_, rfl, _, rfl, Or.inr ⟨rfl, fun i h => hi i (by first | decide | omega)⟩⟩
  | succ j ih =>
    intro k hk hi
    obtain ⟨kn, kb⟩ := hn k (by first | decide | omega)
    refine ex_go (S := (3, [(2, .inl k), (0, gx_r 257), (1, .inl x)], [.inl k], t0, n, 0)) rfl (fun _ => rfl) rfl ?_
    refine ex_go (S := (4, [(2, .inl k), (0, gx_r 257), (1, .inl x)], [gx_r 257, .inl k], t0, n, 0)) rfl (fun _ => rfl) rfl ?_
    refine gxo_ref (a := 257) (c := 272) rfl g0 rfl rfl rfl rfl rfl ?_
    refine gxo_get (a := 272) rfl g0 rfl rfl k5 rfl ?_
    refine gx_2f (c := .ge) rfl (by first | decide | omega) (by first | decide | omega) (show ¬ (c ≤ k) from by omega) rfl ?_
    refine ex_go (S := (14, [(2, .inl k), (0, gx_r 257), (1, .inl x)], [gx_r 257], t0, n, 0)) rfl (fun _ => rfl) rfl ?_
    refine gxo_ref (a := 257) (c := 272) rfl g0 rfl rfl rfl rfl rfl ?_
    refine gxo_ref (a := 272) (c := 274) rfl g0 rfl rfl rfl rfl rfl ?_
    refine ex_go (S := (21, [(2, .inl k), (0, gx_r 257), (1, .inl x)], [.inl k, gx_r 274], t0, n, 0)) rfl (fun _ => rfl) rfl ?_
    refine gx_ag (v := .inl (w k)) (cb := fun c => Nat.beq c 0) rfl (fun _ => rfl) g0 rfl rfl kn (by first | decide | omega) rfl ?_
    refine ex_go (S := (23, [(2, .inl k), (0, gx_r 257), (1, .inl x)], [.inl x, .inl (w k)], t0, n, 0)) rfl (fun _ => rfl) rfl ?_
    by_cases hc1 : w k ≠ x
    · refine gx_2t (c := .ne) rfl (by first | decide | omega) (by first | decide | omega) hc1 rfl ?_
      refine gx_iinc (i := 2) (k := 1) rfl (fun _ => rfl) (by first | decide | omega) rfl ?_
      show en_ex _ _ _ _ (31, [(2, .inl (k + 1)), (0, gx_r 257), (1, .inl x)], [], t0, n, 0) _
      refine ex_go (S := (2, [(2, .inl (k + 1)), (0, gx_r 257), (1, .inl x)], [], t0, n, 0)) rfl (fun _ => rfl) rfl ?_
      exact ih (k + 1) (by first | decide | omega) (fun i h => by
        by_cases e : i = k
        · rw [e]; omega
        · exact hi i (by first | decide | omega))
    · refine gx_2f (c := .ne) rfl (by first | decide | omega) (by first | decide | omega) hc1 rfl ?_
      refine ex_go (S := (27, [(2, .inl k), (0, gx_r 257), (1, .inl x)], [.inl k], t0, n, 0)) rfl (fun _ => rfl) rfl ?_
      refine ex_ret (r := (some (.inl k), t0, n, 0)) rfl (fun _ => rfl) ?_
      exact ⟨_, rfl, _, rfl, Or.inl ⟨by omega, k, by omega, by omega⟩⟩
theorem pc_crewOf257 (d n : Nat) {c x : Nat} {t0 : en_H} {w : Nat → Nat} (g0 : ai_HG ah_G t0) (k5 : ai_hv t0 272 5 = some (.inl c)) (hc : c ≤ 2) (hn : ∀ i, i < c → ai_hv t0 274 i = some (.inl (w i)) ∧ w i < 2147483648) (hx : x < 2147483648) : ∃ r, en_u (d + 1) 171 [gx_r 257, .inl x] t0 n = some r ∧ ∃ b, r = (some (.inl b), t0, n, 0) ∧ ((b < 2 ∧ ∃ i, i < c ∧ w i = x) ∨ (b = 4294967295 ∧ ∀ i, i < c → w i ≠ x)) := by
  refine en_u_ex rfl ?_
  show en_ex _ _ _ _ (0, [(0, gx_r 257), (1, .inl x)], [], t0, n, 0) _
  refine ex_go (S := (1, [(0, gx_r 257), (1, .inl x)], [.inl 0], t0, n, 0)) rfl (fun _ => rfl) rfl ?_
  refine ex_go (S := (2, [(2, .inl 0), (0, gx_r 257), (1, .inl x)], [], t0, n, 0)) rfl (fun _ => rfl) rfl ?_
  exact pc_crewOf257_l g0 k5 hc hn hx c 0 (by first | decide | omega) (fun i h => absurd h (Nat.not_lt_zero i))
theorem pc_hasLead257_l {fn : en_F} {n c x : Nat} {t0 : en_H} {w : Nat → Nat} (g0 : ai_HG ah_G t0) (k5 : ai_hv t0 266 5 = some (.inl c)) (hc : c ≤ 6) (hn : ∀ i, i < c → ai_hv t0 268 i = some (.inl (w i)) ∧ w i < 2147483648) (hx : x < 2147483648) : ∀ j k, k + j = c → (∀ i, i < k → w i ≠ x) → en_ex none fn (en_code 267) (fun _ => false) (2, [(2, .inl k), (0, gx_r 257), (1, .inl x)], [], t0, n, 0) (fun o => ∃ r, o = .inl r ∧ ∃ b, r = (some (.inl b), t0, n, 0) ∧ ((b = 1 ∧ ∃ i, i < c ∧ w i = x) ∨ (b = 0 ∧ ∀ i, i < c → w i ≠ x))) := by
  intro j
  induction j with
  | zero =>
    intro k hk hi
    refine ex_go (S := (3, [(2, .inl k), (0, gx_r 257), (1, .inl x)], [.inl k], t0, n, 0)) rfl (fun _ => rfl) rfl ?_
    refine ex_go (S := (4, [(2, .inl k), (0, gx_r 257), (1, .inl x)], [gx_r 257, .inl k], t0, n, 0)) rfl (fun _ => rfl) rfl ?_
    refine gxo_ref (a := 257) (c := 266) rfl g0 rfl rfl rfl rfl rfl ?_
    refine gxo_get (a := 266) rfl g0 rfl rfl k5 rfl ?_
    refine gx_2t (c := .ge) rfl (by first | decide | omega) (by first | decide | omega) (show c ≤ k from by omega) rfl ?_
    refine ex_go (S := (35, [(2, .inl k), (0, gx_r 257), (1, .inl x)], [.inl 0], t0, n, 0)) rfl (fun _ => rfl) rfl ?_
    refine ex_ret (r := (some (.inl 0), t0, n, 0)) rfl (fun _ => rfl) ?_
    exact ⟨_, rfl, _, rfl, Or.inr ⟨rfl, fun i h => hi i (by first | decide | omega)⟩⟩
  | succ j ih =>
    intro k hk hi
    obtain ⟨kn, kb⟩ := hn k (by first | decide | omega)
    refine ex_go (S := (3, [(2, .inl k), (0, gx_r 257), (1, .inl x)], [.inl k], t0, n, 0)) rfl (fun _ => rfl) rfl ?_
    refine ex_go (S := (4, [(2, .inl k), (0, gx_r 257), (1, .inl x)], [gx_r 257, .inl k], t0, n, 0)) rfl (fun _ => rfl) rfl ?_
    refine gxo_ref (a := 257) (c := 266) rfl g0 rfl rfl rfl rfl rfl ?_
    refine gxo_get (a := 266) rfl g0 rfl rfl k5 rfl ?_
    refine gx_2f (c := .ge) rfl (by first | decide | omega) (by first | decide | omega) (show ¬ (c ≤ k) from by omega) rfl ?_
    refine ex_go (S := (14, [(2, .inl k), (0, gx_r 257), (1, .inl x)], [gx_r 257], t0, n, 0)) rfl (fun _ => rfl) rfl ?_
    refine gxo_ref (a := 257) (c := 266) rfl g0 rfl rfl rfl rfl rfl ?_
    refine gxo_ref (a := 266) (c := 268) rfl g0 rfl rfl rfl rfl rfl ?_
    refine ex_go (S := (21, [(2, .inl k), (0, gx_r 257), (1, .inl x)], [.inl k, gx_r 268], t0, n, 0)) rfl (fun _ => rfl) rfl ?_
    refine gx_ag (v := .inl (w k)) (cb := fun c => Nat.beq c 0) rfl (fun _ => rfl) g0 rfl rfl kn (by first | decide | omega) rfl ?_
    refine ex_go (S := (23, [(2, .inl k), (0, gx_r 257), (1, .inl x)], [.inl x, .inl (w k)], t0, n, 0)) rfl (fun _ => rfl) rfl ?_
    by_cases hc1 : w k ≠ x
    · refine gx_2t (c := .ne) rfl (by first | decide | omega) (by first | decide | omega) hc1 rfl ?_
      refine gx_iinc (i := 2) (k := 1) rfl (fun _ => rfl) (by first | decide | omega) rfl ?_
      show en_ex _ _ _ _ (31, [(2, .inl (k + 1)), (0, gx_r 257), (1, .inl x)], [], t0, n, 0) _
      refine ex_go (S := (2, [(2, .inl (k + 1)), (0, gx_r 257), (1, .inl x)], [], t0, n, 0)) rfl (fun _ => rfl) rfl ?_
      exact ih (k + 1) (by first | decide | omega) (fun i h => by
        by_cases e : i = k
        · rw [e]; omega
        · exact hi i (by first | decide | omega))
    · refine gx_2f (c := .ne) rfl (by first | decide | omega) (by first | decide | omega) hc1 rfl ?_
      refine ex_go (S := (27, [(2, .inl k), (0, gx_r 257), (1, .inl x)], [.inl 1], t0, n, 0)) rfl (fun _ => rfl) rfl ?_
      refine ex_ret (r := (some (.inl 1), t0, n, 0)) rfl (fun _ => rfl) ?_
      exact ⟨_, rfl, _, rfl, Or.inl ⟨rfl, k, by omega, by omega⟩⟩
theorem pc_hasLead257 (d n : Nat) {c x : Nat} {t0 : en_H} {w : Nat → Nat} (g0 : ai_HG ah_G t0) (k5 : ai_hv t0 266 5 = some (.inl c)) (hc : c ≤ 6) (hn : ∀ i, i < c → ai_hv t0 268 i = some (.inl (w i)) ∧ w i < 2147483648) (hx : x < 2147483648) : ∃ r, en_u (d + 1) 267 [gx_r 257, .inl x] t0 n = some r ∧ ∃ b, r = (some (.inl b), t0, n, 0) ∧ ((b = 1 ∧ ∃ i, i < c ∧ w i = x) ∨ (b = 0 ∧ ∀ i, i < c → w i ≠ x)) := by
  refine en_u_ex rfl ?_
  show en_ex _ _ _ _ (0, [(0, gx_r 257), (1, .inl x)], [], t0, n, 0) _
  refine ex_go (S := (1, [(0, gx_r 257), (1, .inl x)], [.inl 0], t0, n, 0)) rfl (fun _ => rfl) rfl ?_
  refine ex_go (S := (2, [(2, .inl 0), (0, gx_r 257), (1, .inl x)], [], t0, n, 0)) rfl (fun _ => rfl) rfl ?_
  exact pc_hasLead257_l g0 k5 hc hn hx c 0 (by first | decide | omega) (fun i h => absurd h (Nat.not_lt_zero i))
end SPT
