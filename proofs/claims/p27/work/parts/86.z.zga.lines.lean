section SLN
/-- the line k: the class's row and the reference's -/
noncomputable def LK (t : en_H) (R K O D k : Nat) : Prop :=
  (∃ v, (1 ≤ v ∧ v ≤ 30) ∧ (ai_hv t (R + 2) k = some (.inl 0) ∧ ai_hv t (R + 3) k = some (.inl 4294967295) ∧ ai_hv t (R + 4) k = some (.inl v)) ∧ ai_hv t 396 (1 + 4 * k) = some (.inl 0) ∧ ai_hv t 396 (1 + 4 * k + 1) = some (.inl v)) ∨
  (∃ c x y, (c < K ∧ x < O ∧ y < D) ∧ (ai_hv t (R + 2) k = some (.inl 1) ∧ ai_hv t (R + 3) k = some (.inl c) ∧ ai_hv t (R + 4) k = some (.inl (x + 8 * y))) ∧ ai_hv t 396 (1 + 4 * k) = some (.inl 1) ∧ ai_hv t 396 (1 + 4 * k + 1) = some (.inl c) ∧ ai_hv t 396 (1 + 4 * k + 2) = some (.inl x) ∧ ai_hv t 396 (1 + 4 * k + 3) = some (.inl y)) ∨
  (∃ c v, (c < K ∧ 1 ≤ v ∧ v ≤ 999) ∧ (ai_hv t (R + 2) k = some (.inl 2) ∧ ai_hv t (R + 3) k = some (.inl c) ∧ ai_hv t (R + 4) k = some (.inl v)) ∧ ai_hv t 396 (1 + 4 * k) = some (.inl 2) ∧ ai_hv t 396 (1 + 4 * k + 1) = some (.inl c) ∧ ai_hv t 396 (1 + 4 * k + 2) = some (.inl v)) ∨
  (∃ c, c < K ∧ (ai_hv t (R + 2) k = some (.inl 3) ∧ ai_hv t (R + 3) k = some (.inl c) ∧ ai_hv t (R + 4) k = some (.inl 0)) ∧ ai_hv t 396 (1 + 4 * k) = some (.inl 3) ∧ ai_hv t 396 (1 + 4 * k + 1) = some (.inl c))
theorem LK_keep {t t' : en_H} {R K O D k : Nat} (h : LK t R K O D k) (hk : k < 24) (e : ∀ c i, (R ≤ c ∧ c ≤ R + 5) ∨ (c = 396 ∧ i < 110) → ai_hv t' c i = ai_hv t c i) : LK t' R K O D k := by
  have c2 := e (R + 2) k (by first | decide | omega)
  have c3 := e (R + 3) k (by first | decide | omega)
  have c4 := e (R + 4) k (by first | decide | omega)
  have r0 := e 396 (1 + 4 * k) (by first | decide | omega)
  have r1 := e 396 (1 + 4 * k + 1) (by first | decide | omega)
  have r2 := e 396 (1 + 4 * k + 2) (by first | decide | omega)
  have r3 := e 396 (1 + 4 * k + 3) (by first | decide | omega)
  rcases h with ⟨v, hv, ⟨h1, h9, h2⟩, h3, h4⟩ | ⟨c, x, y, hv, ⟨h1, h2, h3⟩, h4, h5, h6, h7⟩ | ⟨c, v, hv, ⟨h1, h2, h3⟩, h4, h5, h6⟩ | ⟨c, hv, ⟨h1, h2, h9⟩, h3, h4⟩
  · exact Or.inl ⟨v, hv, ⟨c2.trans h1, c3.trans h9, c4.trans h2⟩, r0.trans h3, r1.trans h4⟩
  · exact Or.inr (Or.inl ⟨c, x, y, hv, ⟨c2.trans h1, c3.trans h2, c4.trans h3⟩, r0.trans h4, r1.trans h5, r2.trans h6, r3.trans h7⟩)
  · exact Or.inr (Or.inr (Or.inl ⟨c, v, hv, ⟨c2.trans h1, c3.trans h2, c4.trans h3⟩, r0.trans h4, r1.trans h5, r2.trans h6⟩))
  · exact Or.inr (Or.inr (Or.inr ⟨c, hv, ⟨c2.trans h1, c3.trans h2, c4.trans h9⟩, r0.trans h3, r1.trans h4⟩))
theorem LK_of {S0 : Nat → Nat} {m0 N0 : Nat} {υ : Nat → Nat → Nat} {S : Nat → Nat} {m N : Nat} {t : en_H} {R k b : Nat} (h3 : W3 S0 m0 N0 υ) (hc : WC S0 m0 N0 υ) (hd : WD υ) (a : LCr S0 m0 υ S m N t R k b) (r : LRr S0 m0 υ S m N t (1 + 4 * k) b) : LK t R (υ 4 0) (υ 0 0) (υ 1 0) k := by
  rcases a with ⟨w, a0, a9, a1⟩ | ⟨w, a0, ⟨c, c1, a1⟩, a2⟩ | ⟨w, a0, ⟨c, c1, a1⟩, a2⟩ | ⟨w, a0, a9, c, c1, a1⟩ <;> rcases r with ⟨v, r0, r1, r2⟩ | ⟨v, r0, ⟨e, e1, r1⟩, r2, r3, r4, r5⟩ | ⟨v, r0, ⟨e, e1, r1⟩, r2, r3⟩ | ⟨v, r0, e, e1, r1⟩
  · exact Or.inl ⟨_, r2, ⟨a0, a9, a1⟩, r0, r1⟩
  · exact absurd (sp_wd_one (by decide) (by decide) w v) (by decide)
  · exact absurd (sp_wd_one (by decide) (by decide) w v) (by decide)
  · exact absurd (sp_wd_one (by decide) (by decide) w v) (by decide)
  · exact absurd (sp_wd_one (by decide) (by decide) w v) (by decide)
  · have e9 := crw_one h3 hc hd c1 e1
    subst e9
    exact Or.inr (Or.inl ⟨c, _, _, ⟨c1.1, r4, r5⟩, ⟨a0, a1, a2⟩, r0, r1, r2, r3⟩)
  · exact absurd (sp_wd_one (by decide) (by decide) w v) (by decide)
  · exact absurd (sp_wd_one (by decide) (by decide) w v) (by decide)
  · exact absurd (sp_wd_one (by decide) (by decide) w v) (by decide)
  · exact absurd (sp_wd_one (by decide) (by decide) w v) (by decide)
  · have e9 := crw_one h3 hc hd c1 e1
    subst e9
    exact Or.inr (Or.inr (Or.inl ⟨c, _, ⟨c1.1, r3⟩, ⟨a0, a1, a2⟩, r0, r1, r2⟩))
  · exact absurd (sp_wd_one (by decide) (by decide) w v) (by decide)
  · exact absurd (sp_wd_one (by decide) (by decide) w v) (by decide)
  · exact absurd (sp_wd_one (by decide) (by decide) w v) (by decide)
  · exact absurd (sp_wd_one (by decide) (by decide) w v) (by decide)
  · have e9 := crw_one h3 hc hd c1 e1
    subst e9
    exact Or.inr (Or.inr (Or.inr ⟨c, c1.1, ⟨a0, a1, a9⟩, r0, r1⟩))
/-- both tell the same lines -/
noncomputable def LN (t : en_H) : Prop := ∃ R nl O D K, (R = 323 ∨ R = 329) ∧ ai_hv t 0 12 = some (gx_r R) ∧ (ai_hv t 389 0 = some (.inl O) ∧ ai_hv t 389 1 = some (.inl D) ∧ ai_hv t 389 4 = some (.inl K)) ∧ nl ≤ 24 ∧ ai_hv t R 5 = some (.inl nl) ∧ ai_hv t 396 0 = some (.inl nl) ∧ ∀ k, k < nl → LK t R K O D k
theorem LN_keepR {t t' : en_H} {R : Nat} (h : LN t) (h0 : ai_hv t 0 12 = some (gx_r R)) (e : ∀ c i, (c = 0 ∧ i = 12) ∨ (R ≤ c ∧ c ≤ R + 5) ∨ (c = 389 ∧ i < 160) ∨ (c = 396 ∧ i < 110) → ai_hv t' c i = ai_hv t c i) : LN t' := by
  obtain ⟨R', nl, O, D, K, hR, h1, ⟨h2, h3, h4⟩, h5, h6, h7, h8⟩ := h
  have e1 : R' = R := Option.some.inj (Sum.inl.inj (Sum.inr.inj (Sum.inr.inj (Option.some.inj (h1.symm.trans h0)))))
  subst e1
  exact ⟨R', nl, O, D, K, hR, (e _ _ (by first | decide | omega)).trans h1, ⟨(e _ _ (by first | decide | omega)).trans h2, (e _ _ (by first | decide | omega)).trans h3, (e _ _ (by first | decide | omega)).trans h4⟩, h5, (e _ _ (by first | decide | omega)).trans h6, (e _ _ (by first | decide | omega)).trans h7, fun k hk => LK_keep (h8 k hk) (by first | decide | omega) (fun c i h => e c i (by first | decide | omega))⟩
theorem LN_keep {t t' : en_H} (h : LN t) (e : ∀ c i, (c = 0 ∧ i = 12) ∨ (323 ≤ c ∧ c ≤ 334) ∨ (c = 389 ∧ i < 160) ∨ (c = 396 ∧ i < 110) → ai_hv t' c i = ai_hv t c i) : LN t' := by
  have h9 := h
  obtain ⟨R, nl, O, D, K, hR, h1, -⟩ := h9
  exact LN_keepR h h1 (fun c i h => e c i (by first | decide | omega))
end SLN
