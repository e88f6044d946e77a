section SGR
/-- each thing was told at a place of the grid -/
noncomputable def WG (S : Nat → Nat) (m : Nat) (σ : Nat → Nat → Nat) : Prop := ∀ i, i < σ 2 0 → sp_nv S m (σ 16 i + 3) < σ 0 0 ∧ sp_nv S m (σ 16 i + 4) < σ 1 0
theorem WG_Ln {S : Nat → Nat} {m N a : Nat} {σ τ : Nat → Nat → Nat} {p : Nat × Nat} (h3 : W3 S m N σ) (h : WG S m σ) (hL : Ln S m N σ a p τ) (hp : p.2 = 0) : WG S m τ := by
  rcases hL with ⟨_, e, rfl⟩ | ⟨_, e, rfl⟩ | ⟨_, e, rfl⟩ | ⟨_, e, rfl⟩ | ⟨_, e, rfl⟩ | ⟨_, e, rfl⟩ | ⟨_, e, rfl⟩ | ⟨_, e, rfl⟩ | ⟨k, hk, _, e, rfl⟩ | ⟨_, e, rfl⟩
  · exact h
  · rw [e] at hp
    unfold sl_thing at hp
    obtain ⟨⟨-, -, -, -, -, -, b1, -, b2, -⟩, -⟩ := h3.1
    have q1 := f2_no.2.1 _ _ hp
    have q2 := f2_no.2.1 _ _ q1
    have q3 := f2_no.1 _ q2
    have q4 := f2_no.2.2.1 _ _ q3
    have q5 := f2_no.2.2.2.1 _ q4
    have hF := fr_0 (by first | decide | omega) q5
    obtain ⟨-, -, y2⟩ := fn_0 hp
    obtain ⟨e1, -, x2⟩ := fn_0 q1
    rw [e1] at y2
    rw [fr_yes hF] at q2 q3 q4 x2 y2
    obtain ⟨n1, n2⟩ := fm_0 q4
    rw [fm_yes n1 n2] at q2 q3 x2 y2
    obtain ⟨v, hv, hw⟩ := fo_0 q3
    rw [fo_yes hv hw] at q2 x2 y2
    rw [fw_0 q2] at x2 y2
    have x3 : sp_nv S m (a + 1 + 3) ≤ σ 0 0 - 1 := x2
    have y3 : sp_nv S m (a + 1 + 4) ≤ σ 1 0 - 1 := y2
    intro i hi
    have hi : i < σ 2 0 + 1 := hi
    show sp_nv S m (nx (σ 16) (σ 2 0) (a + 1) i + 3) < σ 0 0 ∧ sp_nv S m (nx (σ 16) (σ 2 0) (a + 1) i + 4) < σ 1 0
    by_cases e9 : i = σ 2 0
    · rw [e9, nx_t]
      omega
    · rw [nx_f e9]
      exact h i (by first | decide | omega)
  · exact h
  · exact h
  · exact h
  · exact h
  · exact h
  · exact h
  · exact h
  · exact h
theorem WG_Pt {S : Nat → Nat} {m N : Nat} : ∀ k σ p υ, Pt S m N k σ p υ → W3 S m N σ → WG S m σ → WG S m υ
  | 0, _, _, _, h, _, _ => h.elim
  | k + 1, σ, p, υ, h, h3, hc => by
    rcases h with ⟨h1, h2, h4⟩ | ⟨h1, h2, q, τ, h4, h5⟩
    · subst h4; exact hc
    · have hq : (fs S m N 59 q).2 = 0 := by
        cases k with
        | zero => exact h5.elim
        | succ k =>
          rcases h5 with ⟨g1, -⟩ | ⟨g1, -⟩
          · exact g1
          · exact g1
      have hq2 := f2_no.2.2.2.2.2.2.2 59 hq
      exact WG_Pt k τ _ υ h5 (W3_Ln h3 h4 hq2) (WG_Ln h3 hc h4 hq2)
theorem told_V {S : Nat → Nat} {m N k : Nat} {υ : Nat → Nat → Nat} (h : Pt S m N k (sg_0 S m) (sl_0 S m N) υ) : W3 S m N υ ∧ WC S m N υ ∧ WD υ ∧ WG S m υ :=
  ⟨(told_W h).1, (told_W h).2.1, (told_W h).2.2, WG_Pt k _ _ υ h (W3_Pt0 h) (fun i hi => absurd (show i < 0 from hi) (Nat.not_lt_zero i))⟩
end SGR
