section AI5
noncomputable def ai_ro (ρ : Nat → Nat) : Option ai_v → Option en_V → Prop
  | none, none => True
  | some a, some v => ai_rv ρ a v
  | none, some _ => False
  | some _, none => False
noncomputable def ai_Hp (G : ai_G) (wr : ai_W) (t0 : en_H) (O : ai_O) (t : en_H) : Prop := ai_HG G t ∧ ai_HO O t ∧ ai_FR wr t0 t ∧ ai_E t
noncomputable def ai_St (G : ai_G) (wr : ai_W) (ρ : Nat → Nat) (t0 : en_H) (A : ai_S) (cl : en_L) (cst : List en_V) (t : en_H) : Prop := ai_lr ρ A.2.1 cl ∧ ai_rvs ρ A.2.2.1 cst ∧ ai_Hp G wr t0 A.2.2.2 t
noncomputable def ai_good (G : ai_G) (wr : ai_W) (ρ : Nat → Nat) (t0 : en_H) (F : en_K → Option en_O) (t : en_H) (n sl : Nat) : ai_N → Prop
  | .inl As => ∃ (pc : Nat) (cl : en_L) (cst : List en_V) (t' : en_H), (∀ k, F k = k pc cl cst t' n sl) ∧ ∃ A ∈ As, A.1 = pc ∧ ai_St G wr ρ t0 A cl cst t'
  | .inr R => ∃ v, (∀ k, F k = some (.inl (v, t, n, sl))) ∧ ai_ro ρ R.1 v ∧ ai_Hp G wr t0 R.2 t
/-- a contract holds of the calls f -/
noncomputable def ai_cok (G : ai_G) (f : en_F) (mi : Nat) (c : ai_C) : Prop := ∀ (ρ : Nat → Nat) (as : List en_V) (t : en_H) (n : Nat), ai_rvs ρ c.2.1 as → ai_HG G t → ai_HO c.2.2.1 t → ai_E t → ∃ r : en_R, f mi as t n = some r ∧ r.2.2.1 = n ∧ r.2.2.2 = 0 ∧ ai_HG G r.2.1 ∧ ai_FR c.2.2.2.1 t r.2.1 ∧ ai_E r.2.1 ∧ ∃ o ∈ c.2.2.2.2, ai_ro ρ o.1 r.1 ∧ ai_HO o.2 r.2.1
variable {G : ai_G} {cs : Nat → List ai_C} {wr : ai_W} {ρ : Nat → Nat} {t0 : en_H} {f : en_F} {n sl : Nat} {F : en_K → Option en_O} {N : ai_N}
variable {nx : Nat} {ls : ai_L} {st : List ai_v} {O : ai_O} {cl : en_L} {cst : List en_V} {t : en_H}
theorem ai_nx_good {pc : Nat} {cl' : en_L} {cst' : List en_V} {t' : en_H} (h : ai_nx pc ls st O = some N) (hF : ∀ k, F k = k pc cl' cst' t' n sl) (hl : ai_lr ρ ls cl') (hs : ai_rvs ρ st cst') (hH : ai_Hp G wr t0 O t') : ai_good G wr ρ t0 F t n sl N := by
  cases h
  exact ⟨pc, cl', cst', t', hF, _, List.mem_cons_self, rfl, hl, hs, hH⟩
theorem ai_exi (ρ : Nat → Nat) {m : Nat} (h : m < 4294967296) : ai_rv ρ (.inl (ai_off m, ai_off m, none)) (.inl m) := ⟨m, rfl, h, Nat.le_refl _, Nat.le_refl _, trivial⟩
theorem ai_ini {ρ : Nat → Nat} {p : Nat × Nat × Option (Nat × Nat)} {v : en_V} (h : ai_rv ρ (.inl p) v) : ∃ m, v = .inl m ∧ ai_in (p.1, p.2.1) m := by
  obtain ⟨m, e, h1, h2, h3, -⟩ := h
  exact ⟨m, e, h1, h2, h3⟩
theorem ai_oni (ρ : Nat → Nat) {w : Nat × Nat} {z : Nat} (h : ai_in w z) : ai_rv ρ (.inl (w.1, w.2, none)) (.inl z) := ⟨z, rfl, h.1, h.2.1, h.2.2, trivial⟩
theorem ai_ci_good {m : Nat} (h : ai_ci m nx ls st O = some N) (hF : ∀ k, F k = k nx cl (.inl m :: cst) t n sl) (hl : ai_lr ρ ls cl) (hs : ai_rvs ρ st cst) (hH : ai_Hp G wr t0 O t) : ai_good G wr ρ t0 F t n sl N := by
  unfold ai_ci at h
  obtain ⟨h1, h⟩ := en_bif h
  exact ai_nx_good h hF hl ⟨ai_exi ρ (Nat.le_of_ble_eq_true h1), hs⟩ hH
theorem ai_load_good {d i : Nat} (h : ai_load d i nx ls st O = some N) (hl : ai_lr ρ ls cl) (hs : ai_rvs ρ st cst) (hH : ai_Hp G wr t0 O t) : ai_good G wr ρ t0 (fun k => en_load d i nx cl cst t n sl k) t n sl N := by
  unfold ai_load at h
  split at h
  · rename_i a ha
    obtain ⟨h1, h⟩ := en_bif h
    obtain ⟨v, g1, g2⟩ := hl i a ha
    refine ai_nx_good h (cl' := cl) (cst' := v :: cst) (t' := t) (fun k => ?_) hl ⟨g2, hs⟩ hH
    unfold en_load
    rw [g1]
    dsimp only
    rw [ai_rv_kd g2, h1]
    rfl
  · cases h
theorem ai_store_good {d i : Nat} (h : ai_store d i nx ls st O = some N) (hl : ai_lr ρ ls cl) (hs : ai_rvs ρ st cst) (hH : ai_Hp G wr t0 O t) : ai_good G wr ρ t0 (fun k => en_store d i nx cl cst t n sl k) t n sl N := by
  unfold ai_store at h
  split at h
  · rename_i a r
    obtain ⟨h1, h⟩ := en_bif h
    obtain ⟨v, ws, rfl, g1, g2⟩ := ai_rvs_cons hs
    refine ai_nx_good h (cl' := (i, v) :: en_flt (bif Nat.beq d 1 then en_keep2 i else en_keep1 i) cl) (cst' := ws) (t' := t) (fun k => ?_) (ai_sto_ok hl g1) g2 hH
    unfold en_store
    dsimp only
    rw [ai_rv_kd g1, h1]
    rfl
  · cases h
theorem ai_tinc_ok {x o : Nat} {q : Option (Nat × Nat)} (h : ai_tg ρ x q) (h1 : 2147483648 ≤ x + o) : ai_tg ρ (x + o - 2147483648) (ai_tinc o q) := by
  cases q with
  | none => exact trivial
  | some q =>
    have h : x + 8589934592 = ρ q.1 + q.2 := h
    unfold ai_tinc
    dsimp only
    cases hc : Nat.ble 2147483648 (q.2 + o) with
    | false => exact trivial
    | true =>
      have := Nat.le_of_ble_eq_true hc
      show x + o - 2147483648 + 8589934592 = ρ q.1 + (q.2 + o - 2147483648)
      omega
theorem ai_inc_ok {q : Nat × Nat × Option (Nat × Nat)} {x m : Nat} (h : ai_rv ρ (.inl q) (.inl m)) : ai_rv ρ (.inl (ai_inc (ai_off x) q)) (.inl (en_wrap (m + x))) := by
  obtain ⟨m', e, h1, h2, h3, h4⟩ := h
  cases e
  have hw : en_wrap (m + x) < 4294967296 := Nat.mod_lt _ (by decide)
  have e : ai_off (en_wrap (m + x)) = (ai_off m + ai_off x + 2147483648) % 4294967296 := by unfold ai_off en_wrap; omega
  have hx := ai_off_lt x
  have hm := ai_off_lt m
  unfold ai_inc
  cases hc : (Nat.ble 2147483648 (q.1 + ai_off x) && Nat.blt (q.2.1 + ai_off x) 6442450944) with
  | false => exact ⟨_, rfl, hw, Nat.zero_le _, by have := ai_off_lt (en_wrap (m + x)); show _ ≤ 4294967295; omega, trivial⟩
  | true =>
    rw [Bool.and_eq_true] at hc
    have c1 := Nat.le_of_ble_eq_true hc.1
    have c2 : q.2.1 + ai_off x < 6442450944 := Nat.le_of_ble_eq_true hc.2
    have e2 : ai_off (en_wrap (m + x)) = ai_off m + ai_off x - 2147483648 := by rw [e]; omega
    refine ⟨_, rfl, hw, ?_, ?_, ?_⟩
    · rw [e2]
      show q.1 + ai_off x - 2147483648 ≤ _
      omega
    · rw [e2]
      show _ ≤ q.2.1 + ai_off x - 2147483648
      omega
    · rw [e2]
      exact ai_tinc_ok h4 (by first | decide | omega)
theorem ai_iinc_good {i x : Nat} (h : ai_iinc i x nx ls st O = some N) (hl : ai_lr ρ ls cl) (hs : ai_rvs ρ st cst) (hH : ai_Hp G wr t0 O t) : ai_good G wr ρ t0 (fun k => en_iinc i x nx cl cst t n sl k) t n sl N := by
  unfold ai_iinc at h
  split at h
  · rename_i q ha
    obtain ⟨v, g1, g2⟩ := hl i _ ha
    obtain ⟨m, rfl, -⟩ := ai_ini g2
    have g3 := ai_inc_ok (x := x) g2
    refine ai_nx_good h (cl' := (i, .inl (en_wrap (m + x))) :: en_flt (en_keep1 i) cl) (cst' := cst) (t' := t) (fun k => ?_) (ai_sto_ok (d := 0) hl g3) hs hH
    unfold en_iinc
    rw [g1]
  · cases h
theorem ai_bin_good {g : en_V → en_V → Option en_V} {F9 : Nat × Nat → Nat × Nat → Option (Nat × Nat)} (ho : ai_op g F9) (h : ai_bin F9 nx ls st O = some N) (hl : ai_lr ρ ls cl) (hs : ai_rvs ρ st cst) (hH : ai_Hp G wr t0 O t) : ai_good G wr ρ t0 (fun k => en_bin g nx cl cst t n sl k) t n sl N := by
  unfold ai_bin at h
  split at h
  · rename_i q p r
    split at h
    · rename_i w hw
      obtain ⟨v2, ws, rfl, g1, hs1⟩ := ai_rvs_cons hs
      obtain ⟨v1, ws, rfl, g2, hs2⟩ := ai_rvs_cons hs1
      obtain ⟨y, rfl, hy⟩ := ai_ini g1
      obtain ⟨x, rfl, hx⟩ := ai_ini g2
      obtain ⟨z, e, hz⟩ := ho _ _ _ x y hw hx hy
      refine ai_nx_good h (cl' := cl) (cst' := .inl z :: ws) (t' := t) (fun k => ?_) hl ⟨ai_oni ρ hz, hs2⟩ hH
      unfold en_bin
      dsimp only
      rw [e]
    · cases h
  · cases h
theorem ai_mm_good {g : en_V → en_V → Option en_V} {F9 : Nat × Nat → Nat × Nat → Option (Nat × Nat)} (ho : ai_op g F9) (h : ai_mm F9 nx ls st O = some N) (hl : ai_lr ρ ls cl) (hs : ai_rvs ρ st cst) (hH : ai_Hp G wr t0 O t) : ai_good G wr ρ t0 (fun k => en_mm g nx cl cst t n sl k) t n sl N := by
  unfold ai_mm at h
  split at h
  · rename_i q p r
    obtain ⟨h8, h⟩ := en_bif h
    split at h
    · rename_i w hw
      obtain ⟨v2, ws, rfl, g1, hs1⟩ := ai_rvs_cons hs
      obtain ⟨v1, ws, rfl, g2, hs2⟩ := ai_rvs_cons hs1
      obtain ⟨y, rfl, hy⟩ := ai_ini g1
      obtain ⟨x, rfl, hx⟩ := ai_ini g2
      obtain ⟨z, e, hz⟩ := ho _ _ _ x y hw hx hy
      refine ai_nx_good h (cl' := cl) (cst' := .inl z :: ws) (t' := t) (fun k => ?_) hl ⟨ai_oni ρ hz, hs2⟩ hH
      unfold en_mm
      dsimp only
      rw [ai_sum_ok hs2, h8, e]
      rfl
    · cases h
  · cases h
theorem ai_inl {ρ : Nat → Nat} {o : Option Nat} {v : en_V} (h : ai_rv ρ (.inr (.inl o)) v) : ∃ m, v = .inr (.inl m) := by
  cases o with
  | none => exact h
  | some c => exact ⟨c, h⟩
theorem ai_ll_good {g : Nat → Nat → Nat} (h : ai_ll nx ls st O = some N) (hl : ai_lr ρ ls cl) (hs : ai_rvs ρ st cst) (hH : ai_Hp G wr t0 O t) : ai_good G wr ρ t0 (fun k => en_bin (en_ll g) nx cl cst t n sl k) t n sl N := by
  unfold ai_ll at h
  split at h
  · obtain ⟨v2, ws, rfl, g1, hs1⟩ := ai_rvs_cons hs
    obtain ⟨v1, ws, rfl, g2, hs2⟩ := ai_rvs_cons hs1
    obtain ⟨y, rfl⟩ := ai_inl g1
    obtain ⟨x, rfl⟩ := ai_inl g2
    exact ai_nx_good h (cl' := cl) (cst' := .inr (.inl (g x y)) :: ws) (t' := t) (fun k => rfl) hl ⟨⟨_, rfl⟩, hs2⟩ hH
  · cases h
theorem ai_lmul_good (h : ai_lmul nx ls st O = some N) (hl : ai_lr ρ ls cl) (hs : ai_rvs ρ st cst) (hH : ai_Hp G wr t0 O t) : ai_good G wr ρ t0 (fun k => en_bin (en_ll en_lmul) nx cl cst t n sl k) t n sl N := by
  unfold ai_lmul at h
  split at h
  · rename_i b a r
    obtain ⟨v2, ws, rfl, g1, hs1⟩ := ai_rvs_cons hs
    obtain ⟨v1, ws, rfl, g2, hs2⟩ := ai_rvs_cons hs1
    have g1 : v2 = .inr (.inl b) := g1
    have g2 : v1 = .inr (.inl a) := g2
    subst g1
    subst g2
    exact ai_nx_good h (cl' := cl) (cst' := .inr (.inl (en_lmul a b)) :: ws) (t' := t) (fun k => rfl) hl ⟨rfl, hs2⟩ hH
  · obtain ⟨v2, ws, rfl, g1, hs1⟩ := ai_rvs_cons hs
    obtain ⟨v1, ws, rfl, g2, hs2⟩ := ai_rvs_cons hs1
    obtain ⟨y, rfl⟩ := ai_inl g1
    obtain ⟨x, rfl⟩ := ai_inl g2
    exact ai_nx_good h (cl' := cl) (cst' := .inr (.inl (en_lmul x y)) :: ws) (t' := t) (fun k => rfl) hl ⟨⟨_, rfl⟩, hs2⟩ hH
  · cases h
theorem ai_lN0 {b : Nat} (h : Nat.beq (b % 18446744073709551616) 0 = false) : ¬ lN b = 0 := by
  intro e
  have e2 := congrArg (fun z : Int64 => z.toBitVec.toNat) e
  simp [lN] at e2
  rw [e2] at h
  cases h
theorem ai_ldv_good {g : Nat → Nat → Option Nat} (hg : ∀ x y, ¬ lN y = 0 → ∃ z, g x y = some z) (h : ai_ldv nx ls st O = some N) (hl : ai_lr ρ ls cl) (hs : ai_rvs ρ st cst) (hH : ai_Hp G wr t0 O t) : ai_good G wr ρ t0 (fun k => en_bin (en_llo g) nx cl cst t n sl k) t n sl N := by
  unfold ai_ldv at h
  split at h
  · rename_i b o r
    obtain ⟨v2, ws, rfl, g1, hs1⟩ := ai_rvs_cons hs
    obtain ⟨v1, ws, rfl, g2, hs2⟩ := ai_rvs_cons hs1
    have g1 : v2 = .inr (.inl b) := g1
    subst g1
    obtain ⟨x, rfl⟩ := ai_inl g2
    cases hc : Nat.beq (b % 18446744073709551616) 0 with
    | true => rw [hc] at h; cases h
    | false =>
      rw [hc] at h
      obtain ⟨z, hz⟩ := hg x b (ai_lN0 hc)
      refine ai_nx_good h (cl' := cl) (cst' := .inr (.inl z) :: ws) (t' := t) (fun k => ?_) hl ⟨⟨_, rfl⟩, hs2⟩ hH
      unfold en_bin en_llo
      dsimp only
      rw [hz]
  · cases h
theorem ai_li_good {g : Nat → Nat → Nat} (h : ai_li nx ls st O = some N) (hl : ai_lr ρ ls cl) (hs : ai_rvs ρ st cst) (hH : ai_Hp G wr t0 O t) : ai_good G wr ρ t0 (fun k => en_bin (en_li g) nx cl cst t n sl k) t n sl N := by
  unfold ai_li at h
  split at h
  · obtain ⟨v2, ws, rfl, g1, hs1⟩ := ai_rvs_cons hs
    obtain ⟨v1, ws, rfl, g2, hs2⟩ := ai_rvs_cons hs1
    obtain ⟨y, rfl, -⟩ := ai_ini g1
    obtain ⟨x, rfl⟩ := ai_inl g2
    exact ai_nx_good h (cl' := cl) (cst' := .inr (.inl (g x y)) :: ws) (t' := t) (fun k => rfl) hl ⟨⟨_, rfl⟩, hs2⟩ hH
  · cases h
theorem ai_lcmp_good (h : ai_lcmp nx ls st O = some N) (hl : ai_lr ρ ls cl) (hs : ai_rvs ρ st cst) (hH : ai_Hp G wr t0 O t) : ai_good G wr ρ t0 (fun k => en_bin en_lcmp nx cl cst t n sl k) t n sl N := by
  unfold ai_lcmp at h
  split at h
  · obtain ⟨v2, ws, rfl, g1, hs1⟩ := ai_rvs_cons hs
    obtain ⟨v1, ws, rfl, g2, hs2⟩ := ai_rvs_cons hs1
    obtain ⟨y, rfl⟩ := ai_inl g1
    obtain ⟨x, rfl⟩ := ai_inl g2
    exact ai_nx_good h (cl' := cl) (cst' := .inl (lg_cmp (lN x) (lN y)).toBitVec.toNat :: ws) (t' := t) (fun k => rfl) hl ⟨ai_oni ρ (ai_lcmp_ok _ _), hs2⟩ hH
  · cases h
theorem ai_i2l_good (h : ai_i2l nx ls st O = some N) (hl : ai_lr ρ ls cl) (hs : ai_rvs ρ st cst) (hH : ai_Hp G wr t0 O t) : ai_good G wr ρ t0 (fun k => en_i2l nx cl cst t n sl k) t n sl N := by
  unfold ai_i2l at h
  split at h
  · rename_i q r9
    obtain ⟨v2, ws, rfl, g1, hs1⟩ := ai_rvs_cons hs
    obtain ⟨y, rfl, y1, y2, y3, -⟩ := g1
    cases c : Nat.beq q.1 q.2.1 with
    | true =>
      rw [c] at h
      have e := ai_un_off y1 y2 (by rw [Nat.eq_of_beq_eq_true c]; exact y3)
      rw [e] at h
      exact ai_nx_good h (cl' := cl) (cst' := .inr (.inl (nI y).toInt64.toBitVec.toNat) :: ws) (t' := t) (fun k => rfl) hl ⟨rfl, hs1⟩ hH
    | false =>
      rw [c] at h
      exact ai_nx_good h (cl' := cl) (cst' := .inr (.inl (nI y).toInt64.toBitVec.toNat) :: ws) (t' := t) (fun k => rfl) hl ⟨⟨_, rfl⟩, hs1⟩ hH
  · cases h
theorem ai_l2i_good (h : ai_l2i nx ls st O = some N) (hl : ai_lr ρ ls cl) (hs : ai_rvs ρ st cst) (hH : ai_Hp G wr t0 O t) : ai_good G wr ρ t0 (fun k => en_l2i nx cl cst t n sl k) t n sl N := by
  unfold ai_l2i at h
  split at h
  · obtain ⟨v2, ws, rfl, g1, hs1⟩ := ai_rvs_cons hs
    obtain ⟨y, rfl⟩ := ai_inl g1
    exact ai_nx_good h (cl' := cl) (cst' := .inl (lN y).toInt32.toBitVec.toNat :: ws) (t' := t) (fun k => rfl) hl ⟨ai_oni ρ (ai_full_32 _), hs1⟩ hH
  · cases h
theorem ai_i2b_good (h : ai_i2b nx ls st O = some N) (hl : ai_lr ρ ls cl) (hs : ai_rvs ρ st cst) (hH : ai_Hp G wr t0 O t) : ai_good G wr ρ t0 (fun k => en_i2b nx cl cst t n sl k) t n sl N := by
  unfold ai_i2b at h
  split at h
  · obtain ⟨v2, ws, rfl, g1, hs1⟩ := ai_rvs_cons hs
    obtain ⟨y, rfl, -⟩ := ai_ini g1
    exact ai_nx_good h (cl' := cl) (cst' := .inl ((nI y).toInt8.toInt32).toBitVec.toNat :: ws) (t' := t) (fun k => rfl) hl ⟨ai_oni ρ (ai_i2b_ok _), hs1⟩ hH
  · cases h
theorem ai_dup_good (h : ai_dup nx ls st O = some N) (hl : ai_lr ρ ls cl) (hs : ai_rvs ρ st cst) (hH : ai_Hp G wr t0 O t) : ai_good G wr ρ t0 (fun k => en_dup nx cl cst t n sl k) t n sl N := by
  unfold ai_dup at h
  split at h
  · obtain ⟨h1, h⟩ := en_bif h
    obtain ⟨v, ws, rfl, g1, hs1⟩ := ai_rvs_cons hs
    refine ai_nx_good h (cl' := cl) (cst' := v :: v :: ws) (t' := t) (fun k => ?_) hl ⟨g1, g1, hs1⟩ hH
    unfold en_dup
    dsimp only
    rw [ai_rv_cat g1, h1]
    rfl
  · cases h
theorem ai_dup2_good (h : ai_dup2 nx ls st O = some N) (hl : ai_lr ρ ls cl) (hs : ai_rvs ρ st cst) (hH : ai_Hp G wr t0 O t) : ai_good G wr ρ t0 (fun k => en_dup2 nx cl cst t n sl k) t n sl N := by
  unfold ai_dup2 at h
  split at h
  · obtain ⟨h1, h⟩ := en_bif h
    obtain ⟨v, ws, rfl, g1, hs1⟩ := ai_rvs_cons hs
    obtain ⟨w, ws, rfl, g2, hs2⟩ := ai_rvs_cons hs1
    refine ai_nx_good h (cl' := cl) (cst' := v :: w :: v :: w :: ws) (t' := t) (fun k => ?_) hl ⟨g1, g2, g1, g2, hs2⟩ hH
    unfold en_dup2
    dsimp only
    rw [ai_rv_cat g1, ai_rv_cat g2, h1]
    rfl
  · cases h
theorem ai_pop_good (h : ai_pop 1 nx ls st O = some N) (hl : ai_lr ρ ls cl) (hs : ai_rvs ρ st cst) (hH : ai_Hp G wr t0 O t) : ai_good G wr ρ t0 (fun k => en_pop nx cl cst t n sl k) t n sl N := by
  unfold ai_pop at h
  split at h
  · obtain ⟨h1, h⟩ := en_bif h
    obtain ⟨v, ws, rfl, g1, hs1⟩ := ai_rvs_cons hs
    refine ai_nx_good h (cl' := cl) (cst' := ws) (t' := t) (fun k => ?_) hl hs1 hH
    unfold en_pop
    dsimp only
    rw [ai_rv_cat g1, h1]
    rfl
  · cases h
theorem ai_pop2_good (h : ai_pop 2 nx ls st O = some N) (hl : ai_lr ρ ls cl) (hs : ai_rvs ρ st cst) (hH : ai_Hp G wr t0 O t) : ai_good G wr ρ t0 (fun k => en_pop2 nx cl cst t n sl k) t n sl N := by
  unfold ai_pop at h
  split at h
  · obtain ⟨h1, h⟩ := en_bif h
    obtain ⟨v, ws, rfl, g1, hs1⟩ := ai_rvs_cons hs
    refine ai_nx_good h (cl' := cl) (cst' := ws) (t' := t) (fun k => ?_) hl hs1 hH
    unfold en_pop2
    dsimp only
    rw [ai_rv_cat g1, h1]
    rfl
  · cases h
theorem ai_jump_good {b : Bool} {o : Option Bool} {tg : Nat} (ho : ∀ b', o = some b' → b' = b) (h : ai_jump o tg nx ls st O = some N) (hF : ∀ k, F k = en_jump (some b) tg nx cl cst t n sl k) (hl : ai_lr ρ ls cl) (hs : ai_rvs ρ st cst) (hH : ai_Hp G wr t0 O t) : ai_good G wr ρ t0 F t n sl N := by
  unfold ai_jump at h
  split at h
  · rename_i b'
    have e := ho b' rfl
    subst e
    cases b' with
    | true => exact ai_nx_good h (cl' := cl) (cst' := cst) (t' := t) (fun k => (hF k).trans rfl) hl hs hH
    | false => exact ai_nx_good h (cl' := cl) (cst' := cst) (t' := t) (fun k => (hF k).trans rfl) hl hs hH
  · cases h
    cases b with
    | true => exact ⟨tg, cl, cst, t, fun k => (hF k).trans rfl, _, List.mem_cons_self, rfl, hl, hs, hH⟩
    | false => exact ⟨nx, cl, cst, t, fun k => (hF k).trans rfl, _, List.mem_cons_of_mem _ List.mem_cons_self, rfl, hl, hs, hH⟩
theorem ai_cmp1_good {c : ClassFile.Cond} {tg : Nat} (h : ai_cmp1 c tg nx ls st O = some N) (hl : ai_lr ρ ls cl) (hs : ai_rvs ρ st cst) (hH : ai_Hp G wr t0 O t) : ai_good G wr ρ t0 (fun k => en_cmp1 c tg nx cl cst t n sl k) t n sl N := by
  unfold ai_cmp1 at h
  split at h
  · obtain ⟨v, ws, rfl, g1, hs1⟩ := ai_rvs_cons hs
    obtain ⟨x, rfl, hx⟩ := ai_ini g1
    obtain ⟨b, e, hb⟩ := ai_rel_ok (c := c) (y := 0) hx (q := (2147483648, 2147483648)) ⟨by decide, by decide, by decide⟩
    refine ai_jump_good hb h (cl := cl) (cst := ws) (t := t) (fun k => ?_) hl hs1 hH
    unfold en_cmp1
    dsimp only
    rw [e]
  · cases h
theorem ai_cmp2_good {c : ClassFile.Cond} {tg : Nat} (h : ai_cmp2 c tg nx ls st O = some N) (hl : ai_lr ρ ls cl) (hs : ai_rvs ρ st cst) (hH : ai_Hp G wr t0 O t) : ai_good G wr ρ t0 (fun k => en_cmp2 c tg nx cl cst t n sl k) t n sl N := by
  unfold ai_cmp2 at h
  split at h
  · obtain ⟨v2, ws, rfl, g1, hs1⟩ := ai_rvs_cons hs
    obtain ⟨v1, ws, rfl, g2, hs2⟩ := ai_rvs_cons hs1
    obtain ⟨y, rfl, hy⟩ := ai_ini g1
    obtain ⟨x, rfl, hx⟩ := ai_ini g2
    obtain ⟨b, e, hb⟩ := ai_rel_ok (c := c) hx hy
    refine ai_jump_good hb h (cl := cl) (cst := ws) (t := t) (fun k => ?_) hl hs2 hH
    unfold en_cmp2
    dsimp only
    rw [e]
  · cases h
end AI5
