section SPJ
/-! ### what reading does, as functions of the place and the fault -/
noncomputable def cif {α : Type} (P : Prop) (x y : α) : α := @ite α P (Classical.propDecidable P) x y
theorem cif_t {α : Type} {P : Prop} {x y : α} (h : P) : cif P x y = x := by unfold cif; exact if_pos h
theorem cif_f {α : Type} {P : Prop} {x y : α} (h : ¬ P) : cif P x y = y := by unfold cif; exact if_neg h
/-- the fault w at the token a -/
noncomputable def fx (S : Nat → Nat) (m w a : Nat) : Nat × Nat := (a, w + 16 * sp_st S m a)
noncomputable def fw (S : Nat → Nat) (m N w : Nat) (p : Nat × Nat) : Nat × Nat := cif (p.2 ≠ 0) p (cif (sp_wd S m N p.1 w) (p.1 + 1, 0) (fx S m 1 p.1))
noncomputable def fs (S : Nat → Nat) (m N g : Nat) (p : Nat × Nat) : Nat × Nat := cif (p.2 ≠ 0) p (cif (sp_sg S m N p.1 g) (p.1 + 1, 0) (fx S m 1 p.1))
noncomputable def fn (S : Nat → Nat) (m N lo hi : Nat) (p : Nat × Nat) : Nat × Nat := cif (p.2 ≠ 0) p (cif (sp_kt S m N p.1 ≠ 2) (fx S m 1 p.1) (cif (sp_nv S m p.1 < lo ∨ hi < sp_nv S m p.1) (fx S m 4 p.1) (p.1 + 1, 0)))
noncomputable def fo (S : Nat → Nat) (m N w k : Nat) (p : Nat × Nat) : Nat × Nat := cif (p.2 ≠ 0) p (cif (∃ j, j < k ∧ sp_wd S m N p.1 (w + j)) (p.1 + 1, 0) (fx S m 1 p.1))
/-- a new name: none that is told -/
noncomputable def fm (S : Nat → Nat) (m N : Nat) (T : Nat → Prop) (p : Nat × Nat) : Nat × Nat := cif (p.2 ≠ 0) p (cif (sp_nm S m N p.1) (cif (T p.1) (fx S m 3 p.1) (p.1 + 1, 0)) (fx S m 1 p.1))
/-- a row begins: F where there are as many as may be -/
noncomputable def fr (S : Nat → Nat) (m : Nat) (F : Prop) (w : Nat) (p : Nat × Nat) : Nat × Nat := cif (p.2 ≠ 0) p (cif F (fx S m w p.1) (p.1 + 1, 0))
/-- the second number of a lead: D where there is one already -/
noncomputable def fd2 (S : Nat → Nat) (m N hi : Nat) (D : Prop) (p : Nat × Nat) : Nat × Nat := cif (p.2 ≠ 0) p (cif (sp_kt S m N p.1 ≠ 2) (fx S m 1 p.1) (cif (hi < sp_nv S m p.1) (fx S m 4 p.1) (cif D (fx S m 3 p.1) (p.1 + 1, 0))))
/-- the ship of a crew -/
noncomputable def fc (S : Nat → Nat) (m N : Nat) (H A : Nat → Prop) (p : Nat × Nat) : Nat × Nat := cif (p.2 ≠ 0) p (cif (sp_nm S m N p.1) (cif (H p.1) (cif (A p.1) (fx S m 3 p.1) (p.1 + 1, 0)) (fx S m 2 p.1)) (fx S m 1 p.1))
theorem fw_no {S : Nat → Nat} {m N w a f : Nat} (h : f ≠ 0) : fw S m N w (a, f) = (a, f) := cif_t h
theorem fs_no {S : Nat → Nat} {m N w a f : Nat} (h : f ≠ 0) : fs S m N w (a, f) = (a, f) := cif_t h
theorem fn_no {S : Nat → Nat} {m N lo hi a f : Nat} (h : f ≠ 0) : fn S m N lo hi (a, f) = (a, f) := cif_t h
theorem fo_no {S : Nat → Nat} {m N w k a f : Nat} (h : f ≠ 0) : fo S m N w k (a, f) = (a, f) := cif_t h
theorem fm_no {S : Nat → Nat} {m N a f : Nat} {T : Nat → Prop} (h : f ≠ 0) : fm S m N T (a, f) = (a, f) := cif_t h
theorem fr_no {S : Nat → Nat} {m w a f : Nat} {F : Prop} (h : f ≠ 0) : fr S m F w (a, f) = (a, f) := cif_t h
theorem fd2_no {S : Nat → Nat} {m N hi a f : Nat} {D : Prop} (h : f ≠ 0) : fd2 S m N hi D (a, f) = (a, f) := cif_t h
theorem fc_no {S : Nat → Nat} {m N a f : Nat} {H A : Nat → Prop} (h : f ≠ 0) : fc S m N H A (a, f) = (a, f) := cif_t h
/-- the bounds of a number matter only where there is no fault yet -/
theorem fn_any {S : Nat → Nat} {m N lo hi lo' hi' : Nat} {p : Nat × Nat} (h : p.2 = 0 → lo = lo' ∧ hi = hi') : fn S m N lo hi p = fn S m N lo' hi' p := by
  by_cases c : p.2 = 0
  · rw [(h c).1, (h c).2]
  · rw [show p = (p.1, p.2) from rfl, fn_no c, fn_no c]
theorem fw_yes {S : Nat → Nat} {m N w a : Nat} (h : sp_wd S m N a w) : fw S m N w (a, 0) = (a + 1, 0) := (cif_f (by simp)).trans (cif_t h)
theorem fw_not {S : Nat → Nat} {m N w a : Nat} (h : ¬ sp_wd S m N a w) : fw S m N w (a, 0) = (a, 1 + 16 * sp_st S m a) := (cif_f (by simp)).trans (cif_f h)
theorem fs_yes {S : Nat → Nat} {m N w a : Nat} (h : sp_sg S m N a w) : fs S m N w (a, 0) = (a + 1, 0) := (cif_f (by simp)).trans (cif_t h)
theorem fs_not {S : Nat → Nat} {m N w a : Nat} (h : ¬ sp_sg S m N a w) : fs S m N w (a, 0) = (a, 1 + 16 * sp_st S m a) := (cif_f (by simp)).trans (cif_f h)
theorem fn_1 {S : Nat → Nat} {m N lo hi a : Nat} (h : sp_kt S m N a ≠ 2) : fn S m N lo hi (a, 0) = (a, 1 + 16 * sp_st S m a) := (cif_f (by simp)).trans (cif_t h)
theorem fn_4 {S : Nat → Nat} {m N lo hi a : Nat} (h : sp_kt S m N a = 2) (h2 : sp_nv S m a < lo ∨ hi < sp_nv S m a) : fn S m N lo hi (a, 0) = (a, 4 + 16 * sp_st S m a) := (cif_f (by simp)).trans ((cif_f (fun z => z h)).trans (cif_t h2))
theorem fn_yes {S : Nat → Nat} {m N lo hi a : Nat} (h : sp_kt S m N a = 2) (h2 : lo ≤ sp_nv S m a) (h3 : sp_nv S m a ≤ hi) : fn S m N lo hi (a, 0) = (a + 1, 0) := (cif_f (by simp)).trans ((cif_f (fun z => z h)).trans (cif_f (by show ¬ (sp_nv S m a < lo ∨ hi < sp_nv S m a); omega)))
theorem fo_yes {S : Nat → Nat} {m N w k a v : Nat} (h : v < k) (h2 : sp_wd S m N a (w + v)) : fo S m N w k (a, 0) = (a + 1, 0) := (cif_f (by simp)).trans (cif_t ⟨v, h, h2⟩)
theorem fo_not {S : Nat → Nat} {m N w k a : Nat} (h : ∀ j, j < k → ¬ sp_wd S m N a (w + j)) : fo S m N w k (a, 0) = (a, 1 + 16 * sp_st S m a) := (cif_f (by simp)).trans (cif_f (fun ⟨j, h1, h2⟩ => h j h1 h2))
theorem fm_1 {S : Nat → Nat} {m N a : Nat} {T : Nat → Prop} (h : ¬ sp_nm S m N a) : fm S m N T (a, 0) = (a, 1 + 16 * sp_st S m a) := (cif_f (by simp)).trans (cif_f h)
theorem fm_3 {S : Nat → Nat} {m N a : Nat} {T : Nat → Prop} (h : sp_nm S m N a) (h2 : T a) : fm S m N T (a, 0) = (a, 3 + 16 * sp_st S m a) := (cif_f (by simp)).trans ((cif_t h).trans (cif_t h2))
theorem fm_yes {S : Nat → Nat} {m N a : Nat} {T : Nat → Prop} (h : sp_nm S m N a) (h2 : ¬ T a) : fm S m N T (a, 0) = (a + 1, 0) := (cif_f (by simp)).trans ((cif_t h).trans (cif_f h2))
theorem fr_w {S : Nat → Nat} {m w a : Nat} {F : Prop} (h : F) : fr S m F w (a, 0) = (a, w + 16 * sp_st S m a) := (cif_f (by simp)).trans (cif_t h)
theorem fr_yes {S : Nat → Nat} {m w a : Nat} {F : Prop} (h : ¬ F) : fr S m F w (a, 0) = (a + 1, 0) := (cif_f (by simp)).trans (cif_f h)
theorem fd2_1 {S : Nat → Nat} {m N hi a : Nat} {D : Prop} (h : sp_kt S m N a ≠ 2) : fd2 S m N hi D (a, 0) = (a, 1 + 16 * sp_st S m a) := (cif_f (by simp)).trans (cif_t h)
theorem fd2_4 {S : Nat → Nat} {m N hi a : Nat} {D : Prop} (h : sp_kt S m N a = 2) (h2 : hi < sp_nv S m a) : fd2 S m N hi D (a, 0) = (a, 4 + 16 * sp_st S m a) := (cif_f (by simp)).trans ((cif_f (fun z => z h)).trans (cif_t h2))
theorem fd2_3 {S : Nat → Nat} {m N hi a : Nat} {D : Prop} (h : sp_kt S m N a = 2) (h2 : ¬ hi < sp_nv S m a) (h3 : D) : fd2 S m N hi D (a, 0) = (a, 3 + 16 * sp_st S m a) := (cif_f (by simp)).trans ((cif_f (fun z => z h)).trans ((cif_f h2).trans (cif_t h3)))
theorem fd2_yes {S : Nat → Nat} {m N hi a : Nat} {D : Prop} (h : sp_kt S m N a = 2) (h2 : ¬ hi < sp_nv S m a) (h3 : ¬ D) : fd2 S m N hi D (a, 0) = (a + 1, 0) := (cif_f (by simp)).trans ((cif_f (fun z => z h)).trans ((cif_f h2).trans (cif_f h3)))
theorem fc_1 {S : Nat → Nat} {m N a : Nat} {H A : Nat → Prop} (h : ¬ sp_nm S m N a) : fc S m N H A (a, 0) = (a, 1 + 16 * sp_st S m a) := (cif_f (by simp)).trans (cif_f h)
theorem fc_2 {S : Nat → Nat} {m N a : Nat} {H A : Nat → Prop} (h : sp_nm S m N a) (h2 : ¬ H a) : fc S m N H A (a, 0) = (a, 2 + 16 * sp_st S m a) := (cif_f (by simp)).trans ((cif_t h).trans (cif_f h2))
theorem fc_3 {S : Nat → Nat} {m N a : Nat} {H A : Nat → Prop} (h : sp_nm S m N a) (h2 : H a) (h3 : A a) : fc S m N H A (a, 0) = (a, 3 + 16 * sp_st S m a) := (cif_f (by simp)).trans ((cif_t h).trans ((cif_t h2).trans (cif_t h3)))
theorem fc_yes {S : Nat → Nat} {m N a : Nat} {H A : Nat → Prop} (h : sp_nm S m N a) (h2 : H a) (h3 : ¬ A a) : fc S m N H A (a, 0) = (a + 1, 0) := (cif_f (by simp)).trans ((cif_t h).trans ((cif_t h2).trans (cif_f h3)))
/-! ### laws: levels 0 .. 3, 4 a part, 5 .. 8 what follows a level's first -/
/-- what stands for a fact: the bits of fh -/
noncomputable def sp_fa (S : Nat → Nat) (m N fh a : Nat) : Prop := ∃ j, j < 4 ∧ sp_wd S m N a (38 + j) ∧ (fh >>> j) % 2 = 1
noncomputable def sp_bp (S : Nat → Nat) (m N fh a : Nat) : Prop := sp_kt S m N a = 2 ∨ sp_fa S m N fh a ∨ sp_sg S m N a 40 ∨ sp_wd S m N a 35
noncomputable def sp_op (S : Nat → Nat) (m N l a : Nat) : Prop := (l = 0 ∧ (sp_wd S m N a 36 ∨ sp_wd S m N a 37)) ∨ (l = 1 ∧ (sp_sg S m N a 60 ∨ sp_sg S m N a 61)) ∨ (l = 2 ∧ (sp_sg S m N a 43 ∨ sp_sg S m N a 45)) ∨ (l = 3 ∧ sp_sg S m N a 42)
noncomputable def ev (S : Nat → Nat) (m N fh : Nat) : Nat → Nat → Nat → Nat × Nat → Nat × Nat
  | 0, _, _, p => p
  | k + 1, y, d, p => cif (p.2 ≠ 0) p (cif (y < 4) (ev S m N fh k (y + 5) d (ev S m N fh k (y + 1) d p)) (cif (y = 4)
      (cif (sp_bp S m N fh p.1) (cif (d = 5) (fx S m 5 p.1) (cif (sp_wd S m N p.1 35) (ev S m N fh k 4 (d + 1) (p.1 + 1, 0)) (cif (sp_sg S m N p.1 40) (fs S m N 41 (ev S m N fh k 0 (d + 1) (p.1 + 1, 0))) (p.1 + 1, 0)))) (fx S m 1 p.1))
      (cif (sp_op S m N (y - 5) p.1) (cif (y = 6) (ev S m N fh k (y - 4) d (p.1 + 1, 0)) (ev S m N fh k y d (ev S m N fh k (y - 4) d (p.1 + 1, 0)))) p)))
noncomputable def Ev (S : Nat → Nat) (m N fh y d : Nat) (p q : Nat × Nat) : Prop := ∃ k0, ∀ k, k0 ≤ k → ev S m N fh k y d p = q
theorem Ev_det {S : Nat → Nat} {m N fh y d : Nat} {p q q' : Nat × Nat} (h : Ev S m N fh y d p q) (h' : Ev S m N fh y d p q') : q = q' := by
  obtain ⟨k, hk⟩ := h
  obtain ⟨k', hk'⟩ := h'
  exact (hk (k + k') (by first | decide | omega)).symm.trans (hk' (k + k') (by first | decide | omega))
theorem Ev_k {S : Nat → Nat} {m N fh y d : Nat} {p q : Nat × Nat} (k0 : Nat) (h : ∀ k, k0 ≤ k → ev S m N fh (k + 1) y d p = q) : Ev S m N fh y d p q :=
  ⟨k0 + 1, fun k hk => by
    obtain ⟨j, rfl⟩ : ∃ j, k = j + 1 := ⟨k - 1, by omega⟩
    exact h j (by first | decide | omega)⟩
theorem Ev_no {S : Nat → Nat} {m N fh y d a f : Nat} (h : f ≠ 0) : Ev S m N fh y d (a, f) (a, f) := Ev_k 0 (fun k _ => cif_t h)
theorem Ev_lv {S : Nat → Nat} {m N fh y d a : Nat} {q r : Nat × Nat} (hy : y < 4) (h1 : Ev S m N fh (y + 1) d (a, 0) q) (h2 : Ev S m N fh (y + 5) d q r) : Ev S m N fh y d (a, 0) r := by
  obtain ⟨k1, h1⟩ := h1
  obtain ⟨k2, h2⟩ := h2
  refine Ev_k (k1 + k2) (fun k hk => ?_)
  refine (cif_f (by simp)).trans ((cif_t hy).trans ?_)
  rw [h1 k (by first | decide | omega), h2 k (by first | decide | omega)]
theorem Ev_stop {S : Nat → Nat} {m N fh y d a : Nat} (hy : 5 ≤ y) (h : ¬ sp_op S m N (y - 5) a) : Ev S m N fh y d (a, 0) (a, 0) :=
  Ev_k 0 (fun k _ => (cif_f (by simp)).trans ((cif_f (by first | decide | omega)).trans ((cif_f (by first | decide | omega)).trans (cif_f h))))
theorem Ev_once {S : Nat → Nat} {m N fh d a : Nat} {q : Nat × Nat} (h : sp_op S m N 1 a) (h1 : Ev S m N fh 2 d (a + 1, 0) q) : Ev S m N fh 6 d (a, 0) q := by
  obtain ⟨k1, h1⟩ := h1
  refine Ev_k k1 (fun k hk => ?_)
  refine (cif_f (by simp)).trans ((cif_f (by first | decide | omega)).trans ((cif_f (by first | decide | omega)).trans ((cif_t h).trans ((cif_t rfl).trans ?_))))
  exact h1 k hk
theorem Ev_more {S : Nat → Nat} {m N fh y d a : Nat} {q r : Nat × Nat} (hy : 5 ≤ y) (hy6 : y ≠ 6) (h : sp_op S m N (y - 5) a) (h1 : Ev S m N fh (y - 4) d (a + 1, 0) q) (h2 : Ev S m N fh y d q r) : Ev S m N fh y d (a, 0) r := by
  obtain ⟨k1, h1⟩ := h1
  obtain ⟨k2, h2⟩ := h2
  refine Ev_k (k1 + k2) (fun k hk => ?_)
  refine (cif_f (by simp)).trans ((cif_f (by first | decide | omega)).trans ((cif_f (by first | decide | omega)).trans ((cif_t h).trans ((cif_f hy6).trans ?_))))
  show ev S m N fh k y d (ev S m N fh k (y - 4) d (a + 1, 0)) = r
  rw [h1 k (by first | decide | omega), h2 k (by first | decide | omega)]
theorem Ev_p1 {S : Nat → Nat} {m N fh d a : Nat} (h : ¬ sp_bp S m N fh a) : Ev S m N fh 4 d (a, 0) (a, 1 + 16 * sp_st S m a) :=
  Ev_k 0 (fun k _ => (cif_f (by simp)).trans ((cif_f (by first | decide | omega)).trans ((cif_t rfl).trans (cif_f h))))
theorem Ev_p5 {S : Nat → Nat} {m N fh a : Nat} (h : sp_bp S m N fh a) : Ev S m N fh 4 5 (a, 0) (a, 5 + 16 * sp_st S m a) :=
  Ev_k 0 (fun k _ => (cif_f (by simp)).trans ((cif_f (by first | decide | omega)).trans ((cif_t rfl).trans ((cif_t h).trans (cif_t rfl)))))
theorem Ev_not {S : Nat → Nat} {m N fh d a : Nat} {q : Nat × Nat} (hd : d ≠ 5) (h : sp_wd S m N a 35) (h1 : Ev S m N fh 4 (d + 1) (a + 1, 0) q) : Ev S m N fh 4 d (a, 0) q := by
  obtain ⟨k1, h1⟩ := h1
  refine Ev_k k1 (fun k hk => ?_)
  refine (cif_f (by simp)).trans ((cif_f (by first | decide | omega)).trans ((cif_t rfl).trans ((cif_t (Or.inr (Or.inr (Or.inr h)))).trans ((cif_f hd).trans ((cif_t h).trans ?_)))))
  exact h1 k hk
theorem Ev_in {S : Nat → Nat} {m N fh d a : Nat} {q : Nat × Nat} (hd : d ≠ 5) (hw : ¬ sp_wd S m N a 35) (h : sp_sg S m N a 40) (h1 : Ev S m N fh 0 (d + 1) (a + 1, 0) q) : Ev S m N fh 4 d (a, 0) (fs S m N 41 q) := by
  obtain ⟨k1, h1⟩ := h1
  refine Ev_k k1 (fun k hk => ?_)
  refine (cif_f (by simp)).trans ((cif_f (by first | decide | omega)).trans ((cif_t rfl).trans ((cif_t (Or.inr (Or.inr (Or.inl h)))).trans ((cif_f hd).trans ((cif_f hw).trans ((cif_t h).trans ?_))))))
  rw [h1 k hk]
theorem Ev_one {S : Nat → Nat} {m N fh d a : Nat} (hd : d ≠ 5) (hw : ¬ sp_wd S m N a 35) (h : ¬ sp_sg S m N a 40) (hb : sp_bp S m N fh a) : Ev S m N fh 4 d (a, 0) (a + 1, 0) :=
  Ev_k 0 (fun k _ => (cif_f (by simp)).trans ((cif_f (by first | decide | omega)).trans ((cif_t rfl).trans ((cif_t hb).trans ((cif_f hd).trans ((cif_f hw).trans (cif_f h)))))))
/-! ### what is told: 0 over, 1 down, 2 things, 3 leads, 4 crews, 5 gaps, 6 signs, 7 loads, 8 pace told, 9 laws told, 10 kinds, 11 places of leads, 12 ships, 13 names, 14 what they name, 15 how many, 16 .. 19 the names of things, gaps, signs, loads -/
noncomputable def up (σ : Nat → Nat → Nat) (x y v : Nat) : Nat → Nat → Nat := fun i j => bif Nat.beq i x && Nat.beq j y then v else σ i j
/-- the first k from there on, of j, that P holds for -/
noncomputable def sp_fi (P : Nat → Prop) : Nat → Nat → Nat
  | 0, k => k
  | j + 1, k => cif (P k) k (sp_fi P j (k + 1))
/-- the reading of the word a -/
noncomputable def sp_wv (S : Nat → Nat) (m a : Nat) : Nat := sp_hv S (sp_st S m a) 32 96 (sp_rn S sp_le m (sp_st S m a) - sp_st S m a)
noncomputable def sg_told (S : Nat → Nat) (m : Nat) (σ : Nat → Nat → Nat) (a : Nat) : Prop := ∃ k, k < σ 15 0 ∧ sp_wv S m (σ 13 k) = sp_wv S m a
noncomputable def sg_k (S : Nat → Nat) (m : Nat) (σ : Nat → Nat → Nat) (a : Nat) : Nat := sp_fi (fun k => sp_wv S m (σ 13 k) = sp_wv S m a) (σ 15 0) 0
noncomputable def sg_ship (S : Nat → Nat) (m : Nat) (σ : Nat → Nat → Nat) (a : Nat) : Prop := sg_k S m σ a < σ 15 0 ∧ σ 14 (sg_k S m σ a) < 6 ∧ σ 10 (σ 14 (sg_k S m σ a)) = 0
noncomputable def sg_crew (S : Nat → Nat) (m : Nat) (σ : Nat → Nat → Nat) (a : Nat) : Prop := ∃ i, i < σ 4 0 ∧ σ 12 i = σ 14 (sg_k S m σ a)
noncomputable def sp_ki (S : Nat → Nat) (m N a : Nat) : Nat := sp_fi (fun k => sp_wd S m N a (31 + k)) 4 0
noncomputable def sg_lead (σ : Nat → Nat → Nat) (v : Nat) : Prop := ∃ i, i < σ 3 0 ∧ σ 11 i = v
/-- a name more: y what it names, z the row of such names, i its place there -/
noncomputable def sg_name (σ : Nat → Nat → Nat) (a y z i : Nat) : Nat → Nat → Nat := up (up (up (up σ 13 (σ 15 0) a) 14 (σ 15 0) y) z i a) 15 0 (σ 15 0 + 1)
noncomputable def sl_drift (S : Nat → Nat) (m N : Nat) (σ : Nat → Nat → Nat) (a : Nat) : Nat × Nat := fn S m N (sp_nv S m (a + 3)) (σ 0 0 - 1) (fn S m N 0 (σ 0 0 - 1) (fo S m N 26 5 (fn S m N 0 (σ 1 0 - 1) (a + 1, 0))))
/-- which way: north 0 .. still 4 -/
noncomputable def sp_wy (S : Nat → Nat) (m N a : Nat) : Nat := sp_fi (fun k => sp_wd S m N a (26 + k)) 5 0
/-- the flows that a line of drift tells -/
noncomputable def sn_drift (S : Nat → Nat) (m N : Nat) (σ : Nat → Nat → Nat) (a : Nat) : Nat → Nat → Nat := fun i j => bif Nat.beq i 23 && (Nat.ble (8 * sp_nv S m (a + 1) + sp_nv S m (a + 3)) j && Nat.ble j (8 * sp_nv S m (a + 1) + sp_nv S m (a + 4))) then sp_wy S m N (a + 2) else σ i j
noncomputable def sn_pace (σ : Nat → Nat → Nat) (a : Nat) : Nat → Nat → Nat := up (up σ 8 0 1) 22 0 (a + 1)
noncomputable def sl_thing (S : Nat → Nat) (m N : Nat) (σ : Nat → Nat → Nat) (a : Nat) : Nat × Nat := fn S m N 0 (σ 1 0 - 1) (fn S m N 0 (σ 0 0 - 1) (fw S m N 3 (fo S m N 31 4 (fm S m N (sg_told S m σ) (fr S m (σ 2 0 = 6) 5 (a, 0))))))
noncomputable def sn_thing (S : Nat → Nat) (m N : Nat) (σ : Nat → Nat → Nat) (a : Nat) : Nat → Nat → Nat := up (up (sg_name σ (a + 1) (σ 2 0) 16 (σ 2 0)) 10 (σ 2 0) (sp_ki S m N (a + 2))) 2 0 (σ 2 0 + 1)
noncomputable def sl_lead (S : Nat → Nat) (m N : Nat) (σ : Nat → Nat → Nat) (a : Nat) : Nat × Nat := fn S m N 0 (sp_nv S m (a + 4)) (fw S m N 7 (fn S m N 0 (sp_nv S m (a + 4) - 1) (fw S m N 6 (fn S m N 1 30 (fw S m N 5 (fd2 S m N (σ 1 0 - 1) (sg_lead σ (8 * sp_nv S m (a + 2) + sp_nv S m (a + 1))) (fn S m N 0 (σ 0 0 - 1) (fr S m (σ 3 0 = 6) 5 (a, 0)))))))))
noncomputable def sn_lead (S : Nat → Nat) (m : Nat) (σ : Nat → Nat → Nat) (a : Nat) : Nat → Nat → Nat := up (up (up σ 20 (σ 3 0) a) 11 (σ 3 0) (8 * sp_nv S m (a + 2) + sp_nv S m (a + 1))) 3 0 (σ 3 0 + 1)
noncomputable def sl_crew (S : Nat → Nat) (m N : Nat) (σ : Nat → Nat → Nat) (a : Nat) : Nat × Nat := fn S m N 0 9999 (fw S m N 10 (fn S m N 1 30 (fw S m N 9 (fc S m N (sg_ship S m σ) (sg_crew S m σ) (fr S m (σ 4 0 = 2) 5 (a, 0))))))
noncomputable def sn_crew (S : Nat → Nat) (m : Nat) (σ : Nat → Nat → Nat) (a : Nat) : Nat → Nat → Nat := up (up (up σ 21 (σ 4 0) a) 12 (σ 4 0) (σ 14 (sg_k S m σ (a + 1)))) 4 0 (σ 4 0 + 1)
noncomputable def sl_gap (S : Nat → Nat) (m N : Nat) (σ : Nat → Nat → Nat) (a : Nat) : Nat × Nat := fn S m N 0 10 (fw S m N 14 (fn S m N 0 10 (fw S m N 13 (fm S m N (sg_told S m σ) (fr S m (σ 5 0 = 5) 5 (a, 0))))))
noncomputable def sn_gap (σ : Nat → Nat → Nat) (a : Nat) : Nat → Nat → Nat := up (sg_name σ (a + 1) 20 17 (σ 5 0)) 5 0 (σ 5 0 + 1)
noncomputable def sl_sign (S : Nat → Nat) (m N : Nat) (σ : Nat → Nat → Nat) (a : Nat) : Nat × Nat := fn S m N 1 99 (fw S m N 16 (fm S m N (sg_told S m σ) (fr S m (σ 6 0 = 6) 5 (a, 0))))
noncomputable def sn_sign (σ : Nat → Nat → Nat) (a : Nat) : Nat → Nat → Nat := up (sg_name σ (a + 1) 20 18 (σ 6 0)) 6 0 (σ 6 0 + 1)
noncomputable def sl_load (S : Nat → Nat) (m N : Nat) (σ : Nat → Nat → Nat) (a : Nat) : Nat × Nat := fn S m N 1 9 (fw S m N 19 (fn S m N 0 999 (fw S m N 18 (fm S m N (sg_told S m σ) (fr S m (σ 7 0 = 6) 5 (a, 0))))))
noncomputable def sn_load (σ : Nat → Nat → Nat) (a : Nat) : Nat → Nat → Nat := up (sg_name σ (a + 1) 20 19 (σ 7 0)) 7 0 (σ 7 0 + 1)
noncomputable def sl_pace (S : Nat → Nat) (m N : Nat) (σ : Nat → Nat → Nat) (a : Nat) : Nat × Nat := fn S m N 1 4 (fr S m (σ 8 0 ≠ 0) 3 (a, 0))
/-- the facts of a law -/
noncomputable def sp_fh (k : Nat) : Nat := if k = 0 then 7 else if k = 1 then 8 else 2
/-- a line, but for its sign at the end: from where, to where or the fault, what is told then -/
noncomputable def Ln (S : Nat → Nat) (m N : Nat) (σ : Nat → Nat → Nat) (a : Nat) (p : Nat × Nat) (τ : Nat → Nat → Nat) : Prop :=
  (sp_wd S m N a 1 ∧ p = sl_drift S m N σ a ∧ τ = sn_drift S m N σ a) ∨ (sp_wd S m N a 2 ∧ p = sl_thing S m N σ a ∧ τ = sn_thing S m N σ a) ∨ (sp_wd S m N a 4 ∧ p = sl_lead S m N σ a ∧ τ = sn_lead S m σ a) ∨ (sp_wd S m N a 8 ∧ p = sl_crew S m N σ a ∧ τ = sn_crew S m σ a) ∨ (sp_wd S m N a 12 ∧ p = sl_gap S m N σ a ∧ τ = sn_gap σ a) ∨ (sp_wd S m N a 15 ∧ p = sl_sign S m N σ a ∧ τ = sn_sign σ a) ∨ (sp_wd S m N a 17 ∧ p = sl_load S m N σ a ∧ τ = sn_load σ a) ∨ (sp_wd S m N a 11 ∧ p = sl_pace S m N σ a ∧ τ = sn_pace σ a) ∨ (∃ k, k < 3 ∧ sp_wd S m N a (20 + k) ∧ Ev S m N (sp_fh k) 0 0 (fr S m (σ 9 k ≠ 0) 3 (a, 0)) p ∧ τ = up (up σ 9 k 1) 24 k (a + 1)) ∨ ((∀ w, w = 1 ∨ w = 2 ∨ w = 4 ∨ w = 8 ∨ w = 12 ∨ w = 15 ∨ w = 17 ∨ w = 11 ∨ w = 20 ∨ w = 21 ∨ w = 22 → ¬ sp_wd S m N a w) ∧ p = fx S m 1 a ∧ τ = σ)
theorem wd_key_inj {w v : Nat} (hw : w < 42) (hv : v < 42) (h : wd_key w = wd_key v) : w = v := by
  have h1 : (List.range 42).all (fun w => (List.range 42).all (fun v => !(wd_key w == wd_key v) || (w == v))) = true := by decide +kernel
  have h2 := List.all_eq_true.mp (List.all_eq_true.mp h1 w (List.mem_range.mpr hw)) v (List.mem_range.mpr hv)
  rw [h] at h2
  simpa using h2
theorem sp_wd_one {S : Nat → Nat} {m N a w v : Nat} (hw : w < 42) (hv : v < 42) (h1 : sp_wd S m N a w) (h2 : sp_wd S m N a v) : w = v := wd_key_inj hw hv (h1.2.2.symm.trans h2.2.2)
theorem Ln_det {S : Nat → Nat} {m N : Nat} {σ : Nat → Nat → Nat} {a : Nat} {p q : Nat × Nat} {τ υ : Nat → Nat → Nat} (h : Ln S m N σ a p τ) (h' : Ln S m N σ a q υ) : p = q ∧ τ = υ := by
  rcases h with ⟨w, e, e'⟩ | ⟨w, e, e'⟩ | ⟨w, e, e'⟩ | ⟨w, e, e'⟩ | ⟨w, e, e'⟩ | ⟨w, e, e'⟩ | ⟨w, e, e'⟩ | ⟨w, e, e'⟩ | ⟨k, hk, w, e, e'⟩ | ⟨w, e, e'⟩ <;>
  rcases h' with ⟨v, d, d'⟩ | ⟨v, d, d'⟩ | ⟨v, d, d'⟩ | ⟨v, d, d'⟩ | ⟨v, d, d'⟩ | ⟨v, d, d'⟩ | ⟨v, d, d'⟩ | ⟨v, d, d'⟩ | ⟨l, hl, v, d, d'⟩ | ⟨v, d, d'⟩ <;>
  first
  | exact ⟨e.trans d.symm, e'.trans d'.symm⟩
  | (exfalso; have := sp_wd_one (by first | decide | omega) (by first | decide | omega) w v; omega)
  | (exfalso; exact v _ (by first | decide | omega) w)
  | (exfalso; exact w _ (by first | decide | omega) v)
  | (have hkl : k = l := by
       have := sp_wd_one (by first | decide | omega) (by first | decide | omega) w v
       omega
     subst hkl
     exact ⟨Ev_det e d, e'.trans d'.symm⟩)
/-- the lines of a pack: from p on, to the fault f, 0 where there is none -/
noncomputable def Pk (S : Nat → Nat) (m N : Nat) : Nat → (Nat → Nat → Nat) → Nat × Nat → Nat → Prop
  | 0, _, _, _ => False
  | k + 1, σ, p, f => (p.2 ≠ 0 ∧ f = p.2) ∨ (p.2 = 0 ∧ N ≤ p.1 ∧ f = 0) ∨ (p.2 = 0 ∧ p.1 < N ∧ ∃ q τ, Ln S m N σ p.1 q τ ∧ Pk S m N k τ (fs S m N 59 q) f)
theorem Pk_det {S : Nat → Nat} {m N : Nat} : ∀ k k' σ p f f', Pk S m N k σ p f → Pk S m N k' σ p f' → f = f'
  | 0, _, _, _, _, _, h, _ => h.elim
  | _, 0, _, _, _, _, _, h => h.elim
  | k + 1, k' + 1, σ, p, f, f', h, h' => by
    rcases h with ⟨h1, h2⟩ | ⟨h1, h2, h3⟩ | ⟨h1, h2, q, τ, h3, h4⟩ <;> rcases h' with ⟨g1, g2⟩ | ⟨g1, g2, g3⟩ | ⟨g1, g2, r, υ, g3, g4⟩ <;> try omega
    obtain ⟨e1, e2⟩ := Ln_det h3 g3
    subst e1
    subst e2
    exact Pk_det k k' τ _ f f' h4 g4
/-- the lines of a pack without a fault: what is told at the end -/
noncomputable def Pt (S : Nat → Nat) (m N : Nat) : Nat → (Nat → Nat → Nat) → Nat × Nat → (Nat → Nat → Nat) → Prop
  | 0, _, _, _ => False
  | k + 1, σ, p, υ => (p.2 = 0 ∧ N ≤ p.1 ∧ υ = σ) ∨ (p.2 = 0 ∧ p.1 < N ∧ ∃ q τ, Ln S m N σ p.1 q τ ∧ Pt S m N k τ (fs S m N 59 q) υ)
theorem Pt_det {S : Nat → Nat} {m N : Nat} : ∀ k k' σ p υ υ', Pt S m N k σ p υ → Pt S m N k' σ p υ' → υ = υ'
  | 0, _, _, _, _, _, h, _ => h.elim
  | _, 0, _, _, _, _, _, h => h.elim
  | k + 1, k' + 1, σ, p, υ, υ', h, h' => by
    rcases h with ⟨h1, h2, h3⟩ | ⟨h1, h2, q, τ, h3, h4⟩ <;> rcases h' with ⟨g1, g2, g3⟩ | ⟨g1, g2, r, τ', g3, g4⟩
    · exact h3.trans g3.symm
    · omega
    · omega
    · obtain ⟨e1, e2⟩ := Ln_det h3 g3
      subst e1
      subst e2
      exact Pt_det k k' τ _ υ υ' h4 g4
end SPJ
