section STD
/-- each crew's ship, and the name by which it was told -/
noncomputable def WC (S : Nat → Nat) (m N : Nat) (σ : Nat → Nat → Nat) : Prop := ∀ j, j < σ 4 0 → σ 12 j < σ 2 0 ∧ sp_kt S m N (σ 21 j + 1) = 1 ∧ sp_wv S m (σ 21 j + 1) = sp_wv S m (σ 16 (σ 12 j))
/-- no ship has two crews -/
noncomputable def WD (σ : Nat → Nat → Nat) : Prop := ∀ i j, i < σ 4 0 → j < σ 4 0 → σ 12 i = σ 12 j → i = j
theorem WC_Ln {S : Nat → Nat} {m N a : Nat} {σ τ : Nat → Nat → Nat} {p : Nat × Nat} (h3 : W3 S m N σ) (h : WC S m N σ) (hd : WD σ) (hL : Ln S m N σ a p τ) (hp : p.2 = 0) : WC S m N τ ∧ WD τ := by
  rcases hL with ⟨_, e, rfl⟩ | ⟨_, e, rfl⟩ | ⟨_, e, rfl⟩ | ⟨_, e, rfl⟩ | ⟨_, e, rfl⟩ | ⟨_, e, rfl⟩ | ⟨_, e, rfl⟩ | ⟨_, e, rfl⟩ | ⟨k, hk, _, e, rfl⟩ | ⟨_, e, rfl⟩
  · exact ⟨h, hd⟩
  · refine ⟨fun j hj => ?_, hd⟩
    obtain ⟨h1, h2, h4⟩ := h j hj
    have e1 : sn_thing S m N σ a 16 (σ 12 j) = σ 16 (σ 12 j) := nx_lt (g := σ 16) (v := a + 1) h1
    refine ⟨Nat.lt_succ_of_lt h1, h2, ?_⟩
    show sp_wv S m (σ 21 j + 1) = sp_wv S m (sn_thing S m N σ a 16 (σ 12 j))
    rw [e1]; exact h4
  · exact ⟨h, hd⟩
  · rw [e] at hp
    unfold sl_crew at hp
    have q1 := f2_no.2.1 _ _ hp
    have q2 := f2_no.1 _ q1
    have q3 := f2_no.2.1 _ _ q2
    have q4 := f2_no.1 _ q3
    have q5 := f2_no.2.2.2.2.2.2.1 _ _ q4
    have hF := fr_0 (by first | decide | omega) q5
    rw [fr_yes hF] at q4
    obtain ⟨hn, hs, hc⟩ := fc_0 q4
    have hk := hs.1
    have hw : sp_wv S m (σ 13 (sg_k S m σ (a + 1))) = sp_wv S m (a + 1) := sp_fi_lt (P := fun k => sp_wv S m (σ 13 k) = sp_wv S m (a + 1)) (j := σ 15 0) (k := 0) (by rw [Nat.zero_add]; exact hk)
    have h6 := hs.2.1
    obtain ⟨z1, z2⟩ : σ 14 (sg_k S m σ (a + 1)) < σ 2 0 ∧ σ 16 (σ 14 (sg_k S m σ (a + 1))) = σ 13 (sg_k S m σ (a + 1)) := by
      rcases h3.2.2.2.1 _ hk with z | ⟨z, -⟩
      · exact z
      · omega
    constructor
    · intro j hj
      have hj : j < σ 4 0 + 1 := hj
      show nx (σ 12) (σ 4 0) (σ 14 (sg_k S m σ (a + 1))) j < σ 2 0 ∧ sp_kt S m N (nx (σ 21) (σ 4 0) a j + 1) = 1 ∧ sp_wv S m (nx (σ 21) (σ 4 0) a j + 1) = sp_wv S m (σ 16 (nx (σ 12) (σ 4 0) (σ 14 (sg_k S m σ (a + 1))) j))
      by_cases e9 : j = σ 4 0
      · rw [e9, nx_t, nx_t]
        exact ⟨z1, hn.1, by rw [z2]; exact hw.symm⟩
      · rw [nx_f e9, nx_f e9]
        exact h j (by first | decide | omega)
    · intro i j hi hj
      have hi : i < σ 4 0 + 1 := hi
      have hj : j < σ 4 0 + 1 := hj
      show nx (σ 12) (σ 4 0) (σ 14 (sg_k S m σ (a + 1))) i = nx (σ 12) (σ 4 0) (σ 14 (sg_k S m σ (a + 1))) j → i = j
      by_cases e8 : i = σ 4 0
      · by_cases e9 : j = σ 4 0
        · intro _; omega
        · rw [e8, nx_t, nx_f e9]
          intro z
          exact absurd ⟨j, by omega, z.symm⟩ hc
      · by_cases e9 : j = σ 4 0
        · rw [e9, nx_t, nx_f e8]
          intro z
          exact absurd ⟨i, by omega, z⟩ hc
        · rw [nx_f e8, nx_f e9]
          exact hd i j (by first | decide | omega) (by first | decide | omega)
  · exact ⟨h, hd⟩
  · exact ⟨h, hd⟩
  · exact ⟨h, hd⟩
  · exact ⟨h, hd⟩
  · exact ⟨h, hd⟩
  · exact ⟨h, hd⟩
/-- what is told at the end hangs together too -/
theorem WC_Pt {S : Nat → Nat} {m N : Nat} : ∀ k σ p υ, Pt S m N k σ p υ → W3 S m N σ → WC S m N σ → WD σ → W3 S m N υ ∧ WC S m N υ ∧ WD υ
  | 0, _, _, _, h, _, _, _ => h.elim
  | k + 1, σ, p, υ, h, h3, hc, hd => by
    rcases h with ⟨h1, h2, h4⟩ | ⟨h1, h2, q, τ, h4, h5⟩
    · subst h4; exact ⟨h3, hc, hd⟩
    · have hq : (fs S m N 59 q).2 = 0 := by
        cases k with
        | zero => exact h5.elim
        | succ k =>
          rcases h5 with ⟨g1, -⟩ | ⟨g1, -⟩
          · exact g1
          · exact g1
      have hq2 := f2_no.2.2.2.2.2.2.2 59 hq
      obtain ⟨c1, c2⟩ := WC_Ln h3 hc hd h4 hq2
      exact WC_Pt k τ _ υ h5 (W3_Ln h3 h4 hq2) c1 c2
theorem WC_0 {S : Nat → Nat} {m N : Nat} : WC S m N (sg_0 S m) ∧ WD (sg_0 S m) := ⟨fun j hj => absurd hj (Nat.not_lt_zero j), fun i j hi => absurd hi (Nat.not_lt_zero i)⟩
/-- a crew of that name is told -/
noncomputable def tcr (S0 : Nat → Nat) (m0 : Nat) (υ : Nat → Nat → Nat) (S : Nat → Nat) (m a : Nat) : Prop := ∃ j, j < υ 4 0 ∧ sp_wv S0 m0 (υ 21 j + 1) = sp_wv S m a
noncomputable def fk (S : Nat → Nat) (m N : Nat) (C : Nat → Prop) (p : Nat × Nat) : Nat × Nat := cif (p.2 ≠ 0) p (cif (sp_nm S m N p.1) (cif (C p.1) (p.1 + 1, 0) (fx S m 2 p.1)) (fx S m 1 p.1))
theorem fk_no {S : Nat → Nat} {m N a f : Nat} {C : Nat → Prop} (h : f ≠ 0) : fk S m N C (a, f) = (a, f) := cif_t h
theorem fk_1 {S : Nat → Nat} {m N a : Nat} {C : Nat → Prop} (h : ¬ sp_nm S m N a) : fk S m N C (a, 0) = (a, 1 + 16 * sp_st S m a) := (cif_f (by simp)).trans (cif_f h)
theorem fk_2 {S : Nat → Nat} {m N a : Nat} {C : Nat → Prop} (h : sp_nm S m N a) (h2 : ¬ C a) : fk S m N C (a, 0) = (a, 2 + 16 * sp_st S m a) := (cif_f (by simp)).trans ((cif_t h).trans (cif_f h2))
theorem fk_yes {S : Nat → Nat} {m N a : Nat} {C : Nat → Prop} (h : sp_nm S m N a) (h2 : C a) : fk S m N C (a, 0) = (a + 1, 0) := (cif_f (by simp)).trans ((cif_t h).trans (cif_t h2))
/-- a line of weeks, but for its sign at the end; n: how many there are -/
noncomputable def wl (S : Nat → Nat) (m N o d n : Nat) (C : Nat → Prop) (a : Nat) (p : Nat × Nat) : Prop :=
  (sp_wd S m N a 1 ∧ p = fn S m N 1 30 (fr S m (n = 24) 5 (a, 0))) ∨ (sp_wd S m N a 23 ∧ p = fn S m N 0 (d - 1) (fn S m N 0 (o - 1) (fk S m N C (fr S m (n = 24) 5 (a, 0))))) ∨ (sp_wd S m N a 24 ∧ p = fn S m N 1 999 (fk S m N C (fr S m (n = 24) 5 (a, 0)))) ∨ (sp_wd S m N a 25 ∧ p = fk S m N C (fr S m (n = 24) 5 (a, 0))) ∨ ((∀ w, w = 1 ∨ w = 23 ∨ w = 24 ∨ w = 25 → ¬ sp_wd S m N a w) ∧ p = fx S m 1 a)
theorem wl_det {S : Nat → Nat} {m N o d n : Nat} {C : Nat → Prop} {a : Nat} {p q : Nat × Nat} (h : wl S m N o d n C a p) (h' : wl S m N o d n C a q) : p = q := by
  rcases h with ⟨w, e⟩ | ⟨w, e⟩ | ⟨w, e⟩ | ⟨w, e⟩ | ⟨w, e⟩ <;> rcases h' with ⟨v, f⟩ | ⟨v, f⟩ | ⟨v, f⟩ | ⟨v, f⟩ | ⟨v, f⟩ <;>
  first
  | exact e.trans f.symm
  | (exfalso; have := sp_wd_one (by first | decide | omega) (by first | decide | omega) w v; omega)
  | (exfalso; exact v _ (by first | decide | omega) w)
  | (exfalso; exact w _ (by first | decide | omega) v)
/-- the lines of weeks -/
noncomputable def Wk (S : Nat → Nat) (m N o d : Nat) (C : Nat → Prop) : Nat → Nat → Nat × Nat → Nat → Prop
  | 0, _, _, _ => False
  | k + 1, n, p, f => (p.2 ≠ 0 ∧ f = p.2) ∨ (p.2 = 0 ∧ N ≤ p.1 ∧ f = 0) ∨ (p.2 = 0 ∧ p.1 < N ∧ ∃ q, wl S m N o d n C p.1 q ∧ Wk S m N o d C k (n + 1) (fs S m N 59 q) f)
theorem Wk_det {S : Nat → Nat} {m N o d : Nat} {C : Nat → Prop} : ∀ k k' n p f f', Wk S m N o d C k n p f → Wk S m N o d C k' n p f' → f = f'
  | 0, _, _, _, _, _, h, _ => h.elim
  | _, 0, _, _, _, _, _, h => h.elim
  | k + 1, k' + 1, n, p, f, f', h, h' => by
    rcases h with ⟨h1, h2⟩ | ⟨h1, h2, h3⟩ | ⟨h1, h2, q, h3, h4⟩ <;> rcases h' with ⟨g1, g2⟩ | ⟨g1, g2, g3⟩ | ⟨g1, g2, r, g3, g4⟩ <;> try omega
    have e1 := wl_det h3 g3
    subst e1
    exact Wk_det k k' (n + 1) _ f f' h4 g4
end STD
