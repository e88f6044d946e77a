section SPP
theorem f2_no {S : Nat → Nat} {m N : Nat} {p : Nat × Nat} : (∀ w, (fw S m N w p).2 = 0 → p.2 = 0) ∧ (∀ lo hi, (fn S m N lo hi p).2 = 0 → p.2 = 0) ∧ (∀ w k, (fo S m N w k p).2 = 0 → p.2 = 0) ∧ (∀ T, (fm S m N T p).2 = 0 → p.2 = 0) ∧ (∀ F w, (fr S m F w p).2 = 0 → p.2 = 0) ∧ (∀ hi D, (fd2 S m N hi D p).2 = 0 → p.2 = 0) ∧ (∀ H A, (fc S m N H A p).2 = 0 → p.2 = 0) ∧ (∀ w, (fs S m N w p).2 = 0 → p.2 = 0) := by
  obtain ⟨a, f⟩ := p
  by_cases c : f = 0
  · exact ⟨fun _ _ => c, fun _ _ _ => c, fun _ _ _ => c, fun _ _ => c, fun _ _ _ => c, fun _ _ _ => c, fun _ _ _ => c, fun _ _ => c⟩
  · refine ⟨fun w h => ?_, fun lo hi h => ?_, fun w k h => ?_, fun T h => ?_, fun F w h => ?_, fun hi D h => ?_, fun H A h => ?_, fun w h => ?_⟩
    · rw [fw_no c] at h; exact h
    · rw [fn_no c] at h; exact h
    · rw [fo_no c] at h; exact h
    · rw [fm_no c] at h; exact h
    · rw [fr_no c] at h; exact h
    · rw [fd2_no c] at h; exact h
    · rw [fc_no c] at h; exact h
    · rw [fs_no c] at h; exact h
theorem fr_0 {S : Nat → Nat} {m w a : Nat} {F : Prop} (hw : w ≠ 0) (h : (fr S m F w (a, 0)).2 = 0) : ¬ F := fun c => by
  rw [fr_w c] at h
  have h : w + 16 * sp_st S m a = 0 := h
  omega
theorem fm_0 {S : Nat → Nat} {m N a : Nat} {T : Nat → Prop} (h : (fm S m N T (a, 0)).2 = 0) : sp_nm S m N a ∧ ¬ T a := by
  by_cases c : sp_nm S m N a
  · by_cases c2 : T a
    · rw [fm_3 c c2] at h
      have h : 3 + 16 * sp_st S m a = 0 := h
      omega
    · exact ⟨c, c2⟩
  · rw [fm_1 c] at h
    have h : 1 + 16 * sp_st S m a = 0 := h
    omega
theorem fo_0 {S : Nat → Nat} {m N w k a : Nat} (h : (fo S m N w k (a, 0)).2 = 0) : ∃ j, j < k ∧ sp_wd S m N a (w + j) := by
  by_cases c : ∃ j, j < k ∧ sp_wd S m N a (w + j)
  · exact c
  · rw [fo_not (fun j h1 h2 => c ⟨j, h1, h2⟩)] at h
    have h : 1 + 16 * sp_st S m a = 0 := h
    omega
theorem fc_0 {S : Nat → Nat} {m N a : Nat} {H A : Nat → Prop} (h : (fc S m N H A (a, 0)).2 = 0) : sp_nm S m N a ∧ H a ∧ ¬ A a := by
  by_cases c : sp_nm S m N a
  · by_cases c2 : H a
    · by_cases c3 : A a
      · rw [fc_3 c c2 c3] at h
        have h : 3 + 16 * sp_st S m a = 0 := h
        omega
      · exact ⟨c, c2, c3⟩
    · rw [fc_2 c c2] at h
      have h : 2 + 16 * sp_st S m a = 0 := h
      omega
  · rw [fc_1 c] at h
    have h : 1 + 16 * sp_st S m a = 0 := h
    omega
/-- what is told hangs together: which name stands where -/
noncomputable def WF (S : Nat → Nat) (m : Nat) (σ : Nat → Nat → Nat) : Prop := ((∀ i, i < σ 2 0 → ∃ k, k < σ 15 0 ∧ σ 13 k = σ 16 i ∧ σ 14 k = i) ∧ (∀ i, i < σ 5 0 → ∃ k, k < σ 15 0 ∧ σ 13 k = σ 17 i) ∧ (∀ i, i < σ 6 0 → ∃ k, k < σ 15 0 ∧ σ 13 k = σ 18 i) ∧ (∀ i, i < σ 7 0 → ∃ k, k < σ 15 0 ∧ σ 13 k = σ 19 i)) ∧ (∀ k, k < σ 15 0 → (σ 14 k < σ 2 0 ∧ σ 16 (σ 14 k) = σ 13 k) ∨ (σ 14 k = 20 ∧ ((∃ i, i < σ 5 0 ∧ σ 17 i = σ 13 k) ∨ (∃ i, i < σ 6 0 ∧ σ 18 i = σ 13 k) ∨ ∃ i, i < σ 7 0 ∧ σ 19 i = σ 13 k))) ∧ ∀ k l, k < σ 15 0 → l < σ 15 0 → sp_wv S m (σ 13 k) = sp_wv S m (σ 13 l) → k = l
theorem bq_t (k : Nat) : Nat.beq k k = true := Nat.beq_refl k
theorem bq_f {k l : Nat} (h : k ≠ l) : Nat.beq k l = false := Bool.eq_false_iff.mpr (fun z => h (Nat.eq_of_beq_eq_true z))
theorem bi_t {k v x : Nat} : (bif Nat.beq k k then v else x) = v := by rw [bq_t]; rfl
theorem bi_f {k l v x : Nat} (h : k ≠ l) : (bif Nat.beq k l then v else x) = x := by rw [bq_f h]; rfl
theorem U_up {S : Nat → Nat} {m a : Nat} {σ : Nat → Nat → Nat} (h : ∀ k l, k < σ 15 0 → l < σ 15 0 → sp_wv S m (σ 13 k) = sp_wv S m (σ 13 l) → k = l) (hT : ¬ sg_told S m σ a) : ∀ k l, k < σ 15 0 + 1 → l < σ 15 0 + 1 → sp_wv S m (nx (σ 13) (σ 15 0) a k) = sp_wv S m (nx (σ 13) (σ 15 0) a l) → k = l := by
  intro k l hk hl e
  by_cases c1 : k = σ 15 0
  · by_cases c2 : l = σ 15 0
    · omega
    · rw [c1, nx_t, nx_f c2] at e
      exact absurd ⟨l, by omega, e.symm⟩ hT
  · by_cases c2 : l = σ 15 0
    · rw [c2, nx_t, nx_f c1] at e
      exact absurd ⟨k, by omega, e⟩ hT
    · rw [nx_f c1, nx_f c2] at e
      exact h k l (by first | decide | omega) (by first | decide | omega) e
theorem keep1 {σ : Nat → Nat → Nat} {a c : Nat} {g : Nat → Nat} (h : ∀ i, i < c → ∃ k, k < σ 15 0 ∧ σ 13 k = g i) : ∀ i, i < c → ∃ k, k < σ 15 0 + 1 ∧ nx (σ 13) (σ 15 0) a k = g i := fun i hi => by
  obtain ⟨k, h1, h2⟩ := h i hi
  exact ⟨k, by omega, (nx_lt h1).trans h2⟩
theorem add1 {σ : Nat → Nat → Nat} {a c : Nat} {g : Nat → Nat} (h : ∀ i, i < c → ∃ k, k < σ 15 0 ∧ σ 13 k = g i) : ∀ i, i < c + 1 → ∃ k, k < σ 15 0 + 1 ∧ nx (σ 13) (σ 15 0) a k = nx g c a i := fun i hi => by
  by_cases e : i = c
  · exact ⟨σ 15 0, by omega, by rw [nx_t, e, nx_t]⟩
  · obtain ⟨k, h1, h2⟩ := h i (by first | decide | omega)
    exact ⟨k, by omega, by rw [nx_lt h1, nx_f e]; exact h2⟩
theorem ex_up {c a x : Nat} {g : Nat → Nat} (h : ∃ i, i < c ∧ g i = x) : ∃ i, i < c + 1 ∧ nx g c a i = x := by
  obtain ⟨i, h1, h2⟩ := h
  exact ⟨i, by omega, (nx_lt h1).trans h2⟩
theorem WF_gap {S : Nat → Nat} {m a : Nat} {σ : Nat → Nat → Nat} (h : WF S m σ) (hT : ¬ sg_told S m σ (a + 1)) : WF S m (sn_gap σ a) := by
  obtain ⟨⟨h1, h2, h3, h4⟩, h5, h6⟩ := h
  refine ⟨⟨fun i hi => ?_, add1 h2, keep1 h3, keep1 h4⟩, fun k hk => ?_, U_up h6 hT⟩
  · obtain ⟨k, z1, z2, z3⟩ := h1 i hi
    exact ⟨k, Nat.lt_succ_of_lt z1, (nx_lt z1).trans z2, (nx_lt (g := σ 14) (v := 20) z1).trans z3⟩
  · have hk : k < σ 15 0 + 1 := hk
    by_cases e : k = σ 15 0
    · subst e
      exact Or.inr ⟨nx_t (g := σ 14), Or.inl ⟨σ 5 0, Nat.lt_succ_self _, (nx_t (g := σ 17)).trans (nx_t (g := σ 13)).symm⟩⟩
    · have e1 : sn_gap σ a 13 k = σ 13 k := nx_f (g := σ 13) e
      have e2 : sn_gap σ a 14 k = σ 14 k := nx_f (g := σ 14) e
      rw [e1, e2]
      rcases h5 k (by first | decide | omega) with ⟨z1, z2⟩ | ⟨z1, z2 | z2 | z2⟩
      · exact Or.inl ⟨z1, z2⟩
      · exact Or.inr ⟨z1, Or.inl (ex_up z2)⟩
      · exact Or.inr ⟨z1, Or.inr (Or.inl z2)⟩
      · exact Or.inr ⟨z1, Or.inr (Or.inr z2)⟩
theorem WF_sign {S : Nat → Nat} {m a : Nat} {σ : Nat → Nat → Nat} (h : WF S m σ) (hT : ¬ sg_told S m σ (a + 1)) : WF S m (sn_sign σ a) := by
  obtain ⟨⟨h1, h2, h3, h4⟩, h5, h6⟩ := h
  refine ⟨⟨fun i hi => ?_, keep1 h2, add1 h3, keep1 h4⟩, fun k hk => ?_, U_up h6 hT⟩
  · obtain ⟨k, z1, z2, z3⟩ := h1 i hi
    exact ⟨k, Nat.lt_succ_of_lt z1, (nx_lt z1).trans z2, (nx_lt (g := σ 14) (v := 20) z1).trans z3⟩
  · have hk : k < σ 15 0 + 1 := hk
    by_cases e : k = σ 15 0
    · subst e
      exact Or.inr ⟨nx_t (g := σ 14), Or.inr (Or.inl ⟨σ 6 0, Nat.lt_succ_self _, (nx_t (g := σ 18)).trans (nx_t (g := σ 13)).symm⟩)⟩
    · have e1 : sn_sign σ a 13 k = σ 13 k := nx_f (g := σ 13) e
      have e2 : sn_sign σ a 14 k = σ 14 k := nx_f (g := σ 14) e
      rw [e1, e2]
      rcases h5 k (by first | decide | omega) with ⟨z1, z2⟩ | ⟨z1, z2 | z2 | z2⟩
      · exact Or.inl ⟨z1, z2⟩
      · exact Or.inr ⟨z1, Or.inl z2⟩
      · exact Or.inr ⟨z1, Or.inr (Or.inl (ex_up z2))⟩
      · exact Or.inr ⟨z1, Or.inr (Or.inr z2)⟩
theorem WF_load {S : Nat → Nat} {m a : Nat} {σ : Nat → Nat → Nat} (h : WF S m σ) (hT : ¬ sg_told S m σ (a + 1)) : WF S m (sn_load σ a) := by
  obtain ⟨⟨h1, h2, h3, h4⟩, h5, h6⟩ := h
  refine ⟨⟨fun i hi => ?_, keep1 h2, keep1 h3, add1 h4⟩, fun k hk => ?_, U_up h6 hT⟩
  · obtain ⟨k, z1, z2, z3⟩ := h1 i hi
    exact ⟨k, Nat.lt_succ_of_lt z1, (nx_lt z1).trans z2, (nx_lt (g := σ 14) (v := 20) z1).trans z3⟩
  · have hk : k < σ 15 0 + 1 := hk
    by_cases e : k = σ 15 0
    · subst e
      exact Or.inr ⟨nx_t (g := σ 14), Or.inr (Or.inr ⟨σ 7 0, Nat.lt_succ_self _, (nx_t (g := σ 19)).trans (nx_t (g := σ 13)).symm⟩)⟩
    · have e1 : sn_load σ a 13 k = σ 13 k := nx_f (g := σ 13) e
      have e2 : sn_load σ a 14 k = σ 14 k := nx_f (g := σ 14) e
      rw [e1, e2]
      rcases h5 k (by first | decide | omega) with ⟨z1, z2⟩ | ⟨z1, z2 | z2 | z2⟩
      · exact Or.inl ⟨z1, z2⟩
      · exact Or.inr ⟨z1, Or.inl z2⟩
      · exact Or.inr ⟨z1, Or.inr (Or.inl z2)⟩
      · exact Or.inr ⟨z1, Or.inr (Or.inr (ex_up z2))⟩
theorem WF_thing {S : Nat → Nat} {m N a : Nat} {σ : Nat → Nat → Nat} (h : WF S m σ) (hT : ¬ sg_told S m σ (a + 1)) : WF S m (sn_thing S m N σ a) := by
  obtain ⟨⟨h1, h2, h3, h4⟩, h5, h6⟩ := h
  refine ⟨⟨fun i hi => ?_, keep1 h2, keep1 h3, keep1 h4⟩, fun k hk => ?_, U_up h6 hT⟩
  · have hi : i < σ 2 0 + 1 := hi
    by_cases e : i = σ 2 0
    · subst e
      exact ⟨σ 15 0, Nat.lt_succ_self _, (nx_t (g := σ 13)).trans (nx_t (g := σ 16)).symm, nx_t (g := σ 14)⟩
    · obtain ⟨k, z1, z2, z3⟩ := h1 i (by first | decide | omega)
      exact ⟨k, Nat.lt_succ_of_lt z1, (nx_lt (g := σ 13) (v := a + 1) z1).trans (z2.trans (nx_f (g := σ 16) (v := a + 1) e).symm), (nx_lt (g := σ 14) (v := σ 2 0) z1).trans z3⟩
  · have hk : k < σ 15 0 + 1 := hk
    by_cases e : k = σ 15 0
    · subst e
      have e2 : sn_thing S m N σ a 14 (σ 15 0) = σ 2 0 := nx_t (g := σ 14)
      rw [e2]
      exact Or.inl ⟨Nat.lt_succ_self _, (nx_t (g := σ 16)).trans (nx_t (g := σ 13)).symm⟩
    · have e1 : sn_thing S m N σ a 13 k = σ 13 k := nx_f (g := σ 13) e
      have e2 : sn_thing S m N σ a 14 k = σ 14 k := nx_f (g := σ 14) e
      rw [e1, e2]
      rcases h5 k (by first | decide | omega) with ⟨z1, z2⟩ | ⟨z1, z2⟩
      · exact Or.inl ⟨Nat.lt_succ_of_lt z1, (nx_lt (g := σ 16) (v := a + 1) z1).trans z2⟩
      · exact Or.inr ⟨z1, z2⟩
theorem NK_up {S : Nat → Nat} {m N a y c2 : Nat} {σ τ : Nat → Nat → Nat} (h : NK S m N σ) (hn : sp_kt S m N a = 1) (h15 : τ 15 0 = σ 15 0 + 1) (h23 : σ 15 0 + 1 ≤ 23) (h13 : ∀ k, τ 13 k = nx (σ 13) (σ 15 0) a k) (h14 : ∀ k, τ 14 k = nx (σ 14) (σ 15 0) y k) (h2 : τ 2 0 = c2) (hc : σ 2 0 ≤ c2) (hy : y ≤ 20) (hy2 : y < c2 ∨ y = 20) : NK S m N τ := by
  refine ⟨by omega, fun k hk => ?_⟩
  rw [h13, h14]
  by_cases e : k = σ 15 0
  · subst e
    rw [nx_t, nx_t]
    exact ⟨hn, hy, by omega⟩
  · rw [nx_f e, nx_f e]
    obtain ⟨z1, z2, z3⟩ := h.2 k (by first | decide | omega)
    exact ⟨z1, z2, by omega⟩
noncomputable def W3 (S : Nat → Nat) (m N : Nat) (σ : Nat → Nat → Nat) : Prop := WB σ ∧ NK S m N σ ∧ WF S m σ
theorem ki_le {S : Nat → Nat} {m N a : Nat} (h : ∃ j, j < 4 ∧ sp_wd S m N a (31 + j)) : sp_ki S m N a ≤ 3 := by
  obtain ⟨j, h1, h2⟩ := h
  rw [sp_ki_eq h1 h2]; omega
/-- what is told stays in order over a line without a fault -/
theorem W3_Ln {S : Nat → Nat} {m N a : Nat} {σ τ : Nat → Nat → Nat} {p : Nat × Nat} (h : W3 S m N σ) (hL : Ln S m N σ a p τ) (hp : p.2 = 0) : W3 S m N τ := by
  obtain ⟨hB, hK, hW⟩ := h
  obtain ⟨⟨b2, b3, b4, b5, b6, b7, b0, b0', b1, b1', b8, b15⟩, bk⟩ := hB
  rcases hL with ⟨_, e, rfl⟩ | ⟨_, e, rfl⟩ | ⟨_, e, rfl⟩ | ⟨_, e, rfl⟩ | ⟨_, e, rfl⟩ | ⟨_, e, rfl⟩ | ⟨_, e, rfl⟩ | ⟨_, e, rfl⟩ | ⟨k, hk, _, e, rfl⟩ | ⟨_, e, rfl⟩
  · exact ⟨⟨⟨b2, b3, b4, b5, b6, b7, b0, b0', b1, b1', b8, b15⟩, bk⟩, hK, hW⟩
  · rw [e] at hp
    unfold sl_thing at hp
    have q1 := f2_no.2.1 _ _ hp
    have q2 := f2_no.2.1 _ _ q1
    have q3 := f2_no.1 _ q2
    have q4 := f2_no.2.2.1 _ _ q3
    have q5 := f2_no.2.2.2.1 _ q4
    have hF := fr_0 (by first | decide | omega) q5
    rw [fr_yes hF] at q4 q3
    obtain ⟨hn, hT⟩ := fm_0 q4
    rw [fm_yes hn hT] at q3
    have hki := ki_le (fo_0 q3)
    refine ⟨⟨⟨?_, b3, b4, b5, b6, b7, b0, b0', b1, b1', b8, ?_⟩, fun i hi => ?_⟩, NK_up (y := σ 2 0) (c2 := σ 2 0 + 1) hK hn.1 rfl (by first | decide | omega) (fun _ => rfl) (fun _ => rfl) rfl (by first | decide | omega) (by first | decide | omega) (by first | decide | omega), WF_thing hW hT⟩
    · show σ 2 0 + 1 ≤ 6; omega
    · show σ 15 0 + 1 = σ 2 0 + 1 + σ 5 0 + σ 6 0 + σ 7 0; omega
    · have hi : i < σ 2 0 + 1 := hi
      show nx (σ 10) (σ 2 0) (sp_ki S m N (a + 2)) i ≤ 3
      by_cases e : i = σ 2 0
      · rw [e, nx_t]; exact hki
      · rw [nx_f e]; exact bk i (by first | decide | omega)
  · rw [e] at hp
    unfold sl_lead at hp
    have q1 := f2_no.2.1 _ _ hp
    have q2 := f2_no.1 _ q1
    have q3 := f2_no.2.1 _ _ q2
    have q4 := f2_no.1 _ q3
    have q5 := f2_no.2.1 _ _ q4
    have q6 := f2_no.1 _ q5
    have q7 := f2_no.2.2.2.2.2.1 _ _ q6
    have q8 := f2_no.2.1 _ _ q7
    have hF := fr_0 (by first | decide | omega) q8
    refine ⟨⟨⟨b2, ?_, b4, b5, b6, b7, b0, b0', b1, b1', b8, b15⟩, bk⟩, hK, hW⟩
    show σ 3 0 + 1 ≤ 6; omega
  · rw [e] at hp
    unfold sl_crew at hp
    have q1 := f2_no.2.1 _ _ hp
    have q2 := f2_no.1 _ q1
    have q3 := f2_no.2.1 _ _ q2
    have q4 := f2_no.1 _ q3
    have q5 := f2_no.2.2.2.2.2.2.1 _ _ q4
    have hF := fr_0 (by first | decide | omega) q5
    refine ⟨⟨⟨b2, b3, ?_, b5, b6, b7, b0, b0', b1, b1', b8, b15⟩, bk⟩, hK, hW⟩
    show σ 4 0 + 1 ≤ 2; omega
  · rw [e] at hp
    unfold sl_gap at hp
    have q1 := f2_no.2.1 _ _ hp
    have q2 := f2_no.1 _ q1
    have q3 := f2_no.2.1 _ _ q2
    have q4 := f2_no.1 _ q3
    have q5 := f2_no.2.2.2.1 _ q4
    have hF := fr_0 (by first | decide | omega) q5
    rw [fr_yes hF] at q4
    obtain ⟨hn, hT⟩ := fm_0 q4
    refine ⟨⟨⟨b2, b3, b4, ?_, b6, b7, b0, b0', b1, b1', b8, ?_⟩, bk⟩, NK_up (y := 20) (c2 := σ 2 0) hK hn.1 rfl (by first | decide | omega) (fun _ => rfl) (fun _ => rfl) rfl (by first | decide | omega) (by first | decide | omega) (by first | decide | omega), WF_gap hW hT⟩
    · show σ 5 0 + 1 ≤ 5; omega
    · show σ 15 0 + 1 = σ 2 0 + (σ 5 0 + 1) + σ 6 0 + σ 7 0; omega
  · rw [e] at hp
    unfold sl_sign at hp
    have q1 := f2_no.2.1 _ _ hp
    have q2 := f2_no.1 _ q1
    have q5 := f2_no.2.2.2.1 _ q2
    have hF := fr_0 (by first | decide | omega) q5
    rw [fr_yes hF] at q2
    obtain ⟨hn, hT⟩ := fm_0 q2
    refine ⟨⟨⟨b2, b3, b4, b5, ?_, b7, b0, b0', b1, b1', b8, ?_⟩, bk⟩, NK_up (y := 20) (c2 := σ 2 0) hK hn.1 rfl (by first | decide | omega) (fun _ => rfl) (fun _ => rfl) rfl (by first | decide | omega) (by first | decide | omega) (by first | decide | omega), WF_sign hW hT⟩
    · show σ 6 0 + 1 ≤ 6; omega
    · show σ 15 0 + 1 = σ 2 0 + σ 5 0 + (σ 6 0 + 1) + σ 7 0; omega
  · rw [e] at hp
    unfold sl_load at hp
    have q1 := f2_no.2.1 _ _ hp
    have q2 := f2_no.1 _ q1
    have q3 := f2_no.2.1 _ _ q2
    have q4 := f2_no.1 _ q3
    have q5 := f2_no.2.2.2.1 _ q4
    have hF := fr_0 (by first | decide | omega) q5
    rw [fr_yes hF] at q4
    obtain ⟨hn, hT⟩ := fm_0 q4
    refine ⟨⟨⟨b2, b3, b4, b5, b6, ?_, b0, b0', b1, b1', b8, ?_⟩, bk⟩, NK_up (y := 20) (c2 := σ 2 0) hK hn.1 rfl (by first | decide | omega) (fun _ => rfl) (fun _ => rfl) rfl (by first | decide | omega) (by first | decide | omega) (by first | decide | omega), WF_load hW hT⟩
    · show σ 7 0 + 1 ≤ 6; omega
    · show σ 15 0 + 1 = σ 2 0 + σ 5 0 + σ 6 0 + (σ 7 0 + 1); omega
  · refine ⟨⟨⟨b2, b3, b4, b5, b6, b7, b0, b0', b1, b1', ?_, b15⟩, bk⟩, hK, hW⟩
    show 1 ≤ 1; omega
  · exact ⟨⟨⟨b2, b3, b4, b5, b6, b7, b0, b0', b1, b1', b8, b15⟩, bk⟩, hK, hW⟩
  · exact ⟨⟨⟨b2, b3, b4, b5, b6, b7, b0, b0', b1, b1', b8, b15⟩, bk⟩, hK, hW⟩
/-- what is told behind the first line -/
noncomputable def sg_0 (S : Nat → Nat) (m : Nat) : Nat → Nat → Nat := fun i _ => bif Nat.beq i 0 then sp_nv S m 1 else bif Nat.beq i 1 then sp_nv S m 2 else bif Nat.beq i 23 then 4 else 0
noncomputable def sl_0 (S : Nat → Nat) (m N : Nat) : Nat × Nat := fs S m N 59 (fn S m N 2 8 (fn S m N 2 8 (fw S m N 0 (0, 0))))
theorem W3_0 {S : Nat → Nat} {m N : Nat} (h1 : 2 ≤ sp_nv S m 1 ∧ sp_nv S m 1 ≤ 8) (h2 : 2 ≤ sp_nv S m 2 ∧ sp_nv S m 2 ≤ 8) : W3 S m N (sg_0 S m) := by
  have z : ∀ i, ¬ i < 0 := fun i h => absurd h (Nat.not_lt_zero i)
  refine ⟨⟨⟨?_, ?_, ?_, ?_, ?_, ?_, h1.1, h1.2, h2.1, h2.2, ?_, rfl⟩, fun i hi => absurd hi (z i)⟩, ⟨?_, fun k hk => absurd hk (z k)⟩, ⟨fun i hi => absurd hi (z i), fun i hi => absurd hi (z i), fun i hi => absurd hi (z i), fun i hi => absurd hi (z i)⟩, fun k hk => absurd hk (z k), fun k l hk => absurd hk (z k)⟩ <;> exact Nat.zero_le _
end SPP
