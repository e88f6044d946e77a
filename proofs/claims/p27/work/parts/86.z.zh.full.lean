section SZH
theorem fn_0 {S : Nat → Nat} {m N lo hi : Nat} {p : Nat × Nat} (h : (fn S m N lo hi p).2 = 0) : fn S m N lo hi p = (p.1 + 1, 0) ∧ lo ≤ sp_nv S m p.1 ∧ sp_nv S m p.1 ≤ hi := by
  obtain ⟨a, f⟩ := p
  have hf : f = 0 := f2_no.2.1 lo hi h
  subst hf
  by_cases c : sp_kt S m N a = 2
  · by_cases c2 : sp_nv S m a < lo ∨ hi < sp_nv S m a
    · rw [fn_4 c c2] at h
      have h : 4 + 16 * sp_st S m a = 0 := h
      omega
    · exact ⟨fn_yes c (by first | decide | omega) (by first | decide | omega), by show lo ≤ sp_nv S m a; omega, by show sp_nv S m a ≤ hi; omega⟩
  · rw [fn_1 c] at h
    have h : 1 + 16 * sp_st S m a = 0 := h
    omega
theorem fw_0 {S : Nat → Nat} {m N w a : Nat} (h : (fw S m N w (a, 0)).2 = 0) : fw S m N w (a, 0) = (a + 1, 0) := by
  by_cases c : sp_wd S m N a w
  · exact fw_yes c
  · rw [fw_not c] at h
    have h : 1 + 16 * sp_st S m a = 0 := h
    omega
theorem W3_Pt0 {S : Nat → Nat} {m N k : Nat} {υ : Nat → Nat → Nat} (h : Pt S m N k (sg_0 S m) (sl_0 S m N) υ) : W3 S m N (sg_0 S m) := by
  have h0 : (sl_0 S m N).2 = 0 := by
    cases k with
    | zero => exact h.elim
    | succ k =>
      rcases h with ⟨g, -⟩ | ⟨g, -⟩
      · exact g
      · exact g
  unfold sl_0 at h0
  have h1 := f2_no.2.2.2.2.2.2.2 _ h0
  obtain ⟨-, a1, a2⟩ := fn_0 h1
  have h2 := f2_no.2.1 _ _ h1
  obtain ⟨e2, b1, b2⟩ := fn_0 h2
  have h3 := f2_no.2.1 _ _ h2
  have e3 := fw_0 h3
  rw [e2, e3] at a1 a2
  rw [e3] at b1 b2
  exact W3_0 ⟨b1, b2⟩ ⟨a1, a2⟩
theorem told_W {S : Nat → Nat} {m N k : Nat} {υ : Nat → Nat → Nat} (h : Pt S m N k (sg_0 S m) (sl_0 S m N) υ) : W3 S m N υ ∧ WC S m N υ ∧ WD υ := WC_Pt k _ _ υ h (W3_Pt0 h) (WC_0 (S := S) (m := m) (N := N)).1 (WC_0 (S := S) (m := m) (N := N)).2
/-- what the class tells, in the cell p -/
noncomputable def CU (t : en_H) (p : Nat) (S : Nat → Nat) (m : Nat) (υ : Nat → Nat → Nat) : Prop := ∃ t1, CA t1 p S m υ ∧ ∀ c i, (c = p ∧ i ≤ 2) ∨ c = p + 1 ∨ (p + 3 ≤ c ∧ c ≤ p + 38) → ai_hv t c i = ai_hv t1 c i
theorem CU_of {t : en_H} {p : Nat} {S : Nat → Nat} {m : Nat} {υ : Nat → Nat → Nat} (h : CA t p S m υ) : CU t p S m υ := ⟨t, h, fun _ _ _ => rfl⟩
theorem CU_keep {t t' : en_H} {p : Nat} {S : Nat → Nat} {m : Nat} {υ : Nat → Nat → Nat} (h : CU t p S m υ) (e : ∀ c i, (c = p ∧ i ≤ 2) ∨ c = p + 1 ∨ (p + 3 ≤ c ∧ c ≤ p + 38) → ai_hv t' c i = ai_hv t c i) : CU t' p S m υ := by
  obtain ⟨t1, h1, h2⟩ := h
  exact ⟨t1, h1, fun c i h => (e c i h).trans (h2 c i h)⟩
theorem RT_keep {t t' : en_H} {S : Nat → Nat} {m : Nat} {υ : Nat → Nat → Nat} (h : RT t S m υ) (e : ∀ c i, (c = 389 ∧ i < 160) ∨ (c = 383 ∧ i = 18) ∨ c = 392 ∨ c = 394 → ai_hv t' c i = ai_hv t c i) : RT t' S m υ := by
  obtain ⟨⟨t1, h1, h2⟩, h3, h4⟩ := h
  exact ⟨⟨t1, h1, fun i hi => (e 389 i (by first | decide | omega)).trans (h2 i hi)⟩, (e 383 18 (by first | decide | omega)).trans h3, fun k hk => ⟨(e 392 k (by first | decide | omega)).trans (h4 k hk).1, (e 394 k (by first | decide | omega)).trans (h4 k hk).2⟩⟩
theorem TN_of {t : en_H} {S : Nat → Nat} {m N : Nat} {υ : Nat → Nat → Nat} (h : RT t S m υ) (h3 : W3 S m N υ) : TN t S m υ ∧ ai_hv t 389 0 = some (.inl (υ 0 0)) ∧ ai_hv t 389 1 = some (.inl (υ 1 0)) := by
  obtain ⟨⟨t1, ⟨⟨ka0, ka1, -, -, ka4, -⟩, -, -, -, kc, -⟩, h2⟩, h5, h4⟩ := h
  have hB := h3.1.1
  refine ⟨⟨h5, h4, (h2 4 (by first | decide | omega)).trans ka4, fun k hk => ?_⟩, (h2 0 (by first | decide | omega)).trans ka0, (h2 1 (by first | decide | omega)).trans ka1⟩
  refine (h2 (118 + 3 * k) (by first | decide | omega)).trans ?_
  rw [show 160 + (118 + 3 * k) = 278 + 3 * k by omega]
  exact kc k hk
end SZH
