section AI2
/-! ### locals, by what is loaded -/
noncomputable def ai_lr (ρ : Nat → Nat) (ls : ai_L) (cs : en_L) : Prop := ∀ i a, ai_ld ls i = some a → ∃ v, en_ld cs i = some v ∧ ai_rv ρ a v
theorem ai_rls_lr {ρ : Nat → Nat} {ls : ai_L} {cs : en_L} (h : ai_rls ρ ls cs) : ai_lr ρ ls cs := fun _ _ ha => ai_ld_ok h ha
theorem en_ld_flt {keep : Nat × en_V → Bool} {j : Nat} {v : en_V} : ∀ {cs : en_L}, en_ld cs j = some v → keep (j, v) = true → en_ld (en_flt keep cs) j = some v
  | [], h, _ => by cases h
  | q :: cs, h, hk => by
    have h : (bif Nat.beq q.1 j then some q.2 else en_ld cs j) = some v := h
    show en_ld (bif keep q then q :: en_flt keep cs else en_flt keep cs) j = some v
    cases hq : Nat.beq q.1 j with
    | true =>
      rw [hq] at h
      have e1 := Nat.eq_of_beq_eq_true hq
      have e2 : q.2 = v := Option.some.inj h
      have e : q = (j, v) := by rw [← e1, ← e2]
      rw [e, hk]
      show (bif Nat.beq j j then some v else _) = some v
      rw [Nat.beq_refl]
      rfl
    | false =>
      rw [hq] at h
      have ih := en_ld_flt (keep := keep) h hk
      cases keep q with
      | false => exact ih
      | true =>
        show (bif Nat.beq q.1 j then some q.2 else en_ld (en_flt keep cs) j) = some v
        rw [hq]
        exact ih
/-- a local's new value; what is loaded else was there before -/
theorem ai_lr_sto {ρ : Nat → Nat} {ls : ai_L} {cs : en_L} {i : Nat} {a : ai_v} {v : en_V} {ls' : ai_L} {keep : Nat × en_V → Bool} (h : ai_lr ρ ls cs) (hv : ai_rv ρ a v) (hl : ∀ j b, ai_ld ls' j = some b → j ≠ i → ai_ld ls j = some b ∧ ∀ w, ai_rv ρ b w → keep (j, w) = true) (hi : ∀ b, ai_ld ls' i = some b → b = a) : ai_lr ρ ls' ((i, v) :: en_flt keep cs) := by
  intro j b hb
  show ∃ w, (bif Nat.beq i j then some v else en_ld (en_flt keep cs) j) = some w ∧ _
  by_cases e : j = i
  · subst e
    rw [Nat.beq_refl, hi b hb]
    exact ⟨v, rfl, hv⟩
  · obtain ⟨h1, h2⟩ := hl j b hb e
    obtain ⟨w, h3, h4⟩ := h j b h1
    have hne : Nat.beq i j = false := Bool.eq_false_iff.mpr (fun q => e (Nat.eq_of_beq_eq_true q).symm)
    rw [hne]
    exact ⟨w, en_ld_flt h3 (h2 w h4), h4⟩
/-- the locals behind a store: a place of the kind d -/
noncomputable def ai_kp (d i : Nat) (b : Bool) (k : Nat) : Bool := bif Nat.beq k i then false else bif Nat.beq d 1 && Nat.beq k (i + 1) then false else bif Nat.beq (k + 1) i && b then false else true
noncomputable def ai_two (ls : ai_L) : Nat → Bool
  | 0 => false
  | j + 1 => (match ai_ld ls j with | some a => Nat.beq (ai_cat a) 2 | none => true)
noncomputable def ai_sto (d i : Nat) (a : ai_v) (ls : ai_L) : ai_L := (i, a) :: en_flt (fun q => ai_kp d i (ai_two ls i) q.1) ls
theorem ai_ld_flt {kp : Nat → Bool} {j : Nat} {b : ai_v} : ∀ {ls : ai_L}, ai_ld (en_flt (fun q => kp q.1) ls) j = some b → kp j = true ∧ ai_ld ls j = some b
  | [], h => by cases h
  | q :: ls, h => by
    have h : ai_ld (bif kp q.1 then q :: en_flt (fun q => kp q.1) ls else en_flt (fun q => kp q.1) ls) j = some b := h
    show _ ∧ (bif Nat.beq q.1 j then some q.2 else ai_ld ls j) = some b
    cases hk : kp q.1 with
    | false =>
      rw [hk] at h
      obtain ⟨h1, h2⟩ := ai_ld_flt h
      have hne : Nat.beq q.1 j = false := Bool.eq_false_iff.mpr (fun z => by rw [Nat.eq_of_beq_eq_true z, h1] at hk; cases hk)
      rw [hne]
      exact ⟨h1, h2⟩
    | true =>
      rw [hk] at h
      have h : (bif Nat.beq q.1 j then some q.2 else ai_ld (en_flt (fun q => kp q.1) ls) j) = some b := h
      cases hq : Nat.beq q.1 j with
      | true =>
        rw [hq] at h
        rw [← Nat.eq_of_beq_eq_true hq]
        exact ⟨hk, h⟩
      | false =>
        rw [hq] at h
        exact ai_ld_flt h
theorem ai_sto_ok {ρ : Nat → Nat} {ls : ai_L} {cs : en_L} {d i : Nat} {a : ai_v} {v : en_V} (h : ai_lr ρ ls cs) (hv : ai_rv ρ a v) : ai_lr ρ (ai_sto d i a ls) ((i, v) :: en_flt (bif Nat.beq d 1 then en_keep2 i else en_keep1 i) cs) := by
  refine ai_lr_sto h hv (fun j b hb hji => ?_) (fun b hb => ?_)
  · have hb : (bif Nat.beq i j then some a else ai_ld (en_flt (fun q => ai_kp d i (ai_two ls i) q.1) ls) j) = some b := hb
    have hne : Nat.beq i j = false := Bool.eq_false_iff.mpr (fun q => hji (Nat.eq_of_beq_eq_true q).symm)
    rw [hne] at hb
    obtain ⟨h1, h2⟩ := ai_ld_flt hb
    refine ⟨h2, fun w hw => ?_⟩
    have hji' : Nat.beq j i = false := Bool.eq_false_iff.mpr (fun q => hji (Nat.eq_of_beq_eq_true q))
    unfold ai_kp at h1
    rw [hji'] at h1
    dsimp only [cond] at h1
    have k1 : en_keep1 i (j, w) = true := by
      unfold en_keep1
      dsimp only
      rw [hji']
      dsimp only [cond]
      cases hz : Nat.beq (j + 1) i with
      | false => rfl
      | true =>
        have e := Nat.eq_of_beq_eq_true hz
        rw [hz] at h1
        have h3 : ai_two ls i = false := by
          cases h4 : ai_two ls i with
          | false => rfl
          | true =>
            rw [h4] at h1
            cases hd : (Nat.beq d 1 && Nat.beq j (i + 1)) <;> rw [hd] at h1 <;> cases h1
        rw [← e] at h3
        have h3 : (match ai_ld ls j with | some a => Nat.beq (ai_cat a) 2 | none => true) = false := h3
        rw [h2] at h3
        dsimp only at h3 ⊢
        rw [ai_rv_cat hw]
        match b, h3 with
        | .inl q, _ => rfl
        | .inr (.inl q), h3 => cases h3
        | .inr (.inr c), _ => rfl
    cases hd : Nat.beq d 1 with
    | false => exact k1
    | true =>
      show en_keep2 i (j, w) = true
      unfold en_keep2
      rw [hd] at h1
      cases hz : Nat.beq j (i + 1) with
      | true => rw [hz] at h1; cases h1
      | false => exact k1
  · have hb : (bif Nat.beq i i then some a else ai_ld (en_flt (fun q => ai_kp d i (ai_two ls i) q.1) ls) i) = some b := hb
    rw [Nat.beq_refl] at hb
    exact (Option.some.inj hb).symm
/-! ### the heap -/
noncomputable def ai_hv (t : en_H) (c i : Nat) : Option en_V := match en_get t c with
  | some (.inl q) => q.2[i]?
  | some (.inr q) => q.2[i]?
  | none => none
noncomputable def ai_run (rs : List (Nat × ai_h)) (i : Nat) : Option ai_h := List.rec (motive := fun _ => Option ai_h) none (fun q _ ih => bif Nat.blt i q.1 then some q.2 else ih) rs
noncomputable def ai_mk (g : ai_g) (vs : List en_V) : en_C := match g.1 with
  | true => .inl (g.2.1, vs)
  | false => .inr (g.2.1, vs)
noncomputable def ai_cell (g : ai_g) (t : en_H) (c : Nat) : Prop := ∃ vs : List en_V, en_get t c = some (ai_mk g vs) ∧ vs.length = g.2.2.1 ∧ ∀ i v, vs[i]? = some v → ∃ h, ai_run g.2.2.2 i = some h ∧ ai_rh h v
noncomputable def ai_HG (G : ai_G) (t : en_H) : Prop := ∀ c g, G c = some g → ai_cell g t c
noncomputable def ai_HO (O : ai_O) (t : en_H) : Prop := ∀ q ∈ O, ∃ v, ai_hv t q.1 q.2.1 = some v ∧ ai_rh q.2.2 v
noncomputable def ai_inw (wr : ai_W) (c i : Nat) : Prop := ∃ q ∈ wr, q.1 = c ∧ q.2.1 ≤ i ∧ i ≤ q.2.2
noncomputable def ai_FR (wr : ai_W) (t0 t : en_H) : Prop := ∀ c i, ¬ ai_inw wr c i → ai_hv t c i = ai_hv t0 c i
theorem ai_FR.rf (wr : ai_W) (t : en_H) : ai_FR wr t t := fun _ _ _ => rfl
theorem ai_FR.tr {wr : ai_W} {a b c : en_H} (h1 : ai_FR wr a b) (h2 : ai_FR wr b c) : ai_FR wr a c := fun k i h => (h2 k i h).trans (h1 k i h)
theorem ai_hv_mk {t : en_H} {c : Nat} {g : ai_g} {vs : List en_V} (h : en_get t c = some (ai_mk g vs)) (i : Nat) : ai_hv t c i = vs[i]? := by
  obtain ⟨b, k, n, rs⟩ := g
  unfold ai_hv
  rw [h]
  cases b <;> rfl
noncomputable def ai_ov (O : ai_O) (c i : Nat) : Option ai_h := List.rec (motive := fun _ => Option ai_h) none (fun q _ ih => bif Nat.beq q.1 c && Nat.beq q.2.1 i then some q.2.2 else ih) O
theorem ai_ov_ok {O : ai_O} {c i : Nat} {h : ai_h} (ho : ai_ov O c i = some h) : (c, i, h) ∈ O := by
  induction O with
  | nil => cases ho
  | cons q O ih =>
    have ho : (bif Nat.beq q.1 c && Nat.beq q.2.1 i then some q.2.2 else ai_ov O c i) = some h := ho
    cases hq : (Nat.beq q.1 c && Nat.beq q.2.1 i) with
    | true =>
      rw [hq] at ho
      rw [Bool.and_eq_true] at hq
      have e1 := Nat.eq_of_beq_eq_true hq.1
      have e2 := Nat.eq_of_beq_eq_true hq.2
      have e3 : q.2.2 = h := Option.some.inj ho
      rw [← e1, ← e2, ← e3]
      exact List.mem_cons_self
    | false =>
      rw [hq] at ho
      exact List.mem_cons_of_mem _ (ih ho)
/-- what is known of the slot i of the cell c -/
noncomputable def ai_sl (O : ai_O) (c : Nat) (g : ai_g) (i : Nat) : Option ai_h := match ai_ov O c i with
  | some h => some h
  | none => ai_run g.2.2.2 i
theorem ai_sl_ok {G : ai_G} {O : ai_O} {t : en_H} {c i : Nat} {g : ai_g} {h : ai_h} (hG : ai_HG G t) (hO : ai_HO O t) (hc : G c = some g) (hi : i < g.2.2.1) (hs : ai_sl O c g i = some h) : ∃ vs v, en_get t c = some (ai_mk g vs) ∧ vs.length = g.2.2.1 ∧ vs[i]? = some v ∧ ai_rh h v := by
  obtain ⟨vs, h1, h2, h3⟩ := hG c g hc
  obtain ⟨v, hv⟩ : ∃ v, vs[i]? = some v := ⟨vs[i]'(by first | decide | omega), List.getElem?_eq_getElem _⟩
  refine ⟨vs, v, h1, h2, hv, ?_⟩
  unfold ai_sl at hs
  split at hs
  · rename_i h' ho
    cases hs
    obtain ⟨w, g1, g2⟩ := hO _ (ai_ov_ok ho)
    rw [ai_hv_mk h1] at g1
    cases hv.symm.trans g1
    exact g2
  · obtain ⟨h', g1, g2⟩ := h3 i v hv
    cases hs.symm.trans g1
    exact g2
/-- two slots' values together -/
noncomputable def ai_hj : ai_h → ai_h → Option ai_h
  | .inl p, .inl q => some (.inl (Nat.min p.1 q.1, Nat.max p.2 q.2))
  | .inr (.inl _), .inr (.inl _) => some (.inr (.inl 0))
  | .inr (.inr cs), .inr (.inr ds) => some (.inr (.inr (cs ++ ds)))
  | _, _ => none
theorem ai_hj_l {a b c : ai_h} {v : en_V} (h : ai_hj a b = some c) (hv : ai_rh a v) : ai_rh c v := by
  match a, b, h, hv with
  | .inl p, .inl q, h, ⟨m, e, h1, h2, h3⟩ => cases h; exact ⟨m, e, h1, Nat.le_trans (Nat.min_le_left _ _) h2, Nat.le_trans h3 (Nat.le_max_left _ _)⟩
  | .inr (.inl _), .inr (.inl _), h, hv => cases h; exact hv
  | .inr (.inr cs), .inr (.inr ds), h, ⟨c, hc, hv⟩ => cases h; exact ⟨c, List.mem_append_left _ hc, hv⟩
theorem ai_hj_r {a b c : ai_h} {v : en_V} (h : ai_hj a b = some c) (hv : ai_rh b v) : ai_rh c v := by
  match a, b, h, hv with
  | .inl p, .inl q, h, ⟨m, e, h1, h2, h3⟩ => cases h; exact ⟨m, e, h1, Nat.le_trans (Nat.min_le_right _ _) h2, Nat.le_trans h3 (Nat.le_max_right _ _)⟩
  | .inr (.inl _), .inr (.inl _), h, hv => cases h; exact hv
  | .inr (.inr cs), .inr (.inr ds), h, ⟨c, hc, hv⟩ => cases h; exact ⟨c, List.mem_append_right _ hc, hv⟩
/-- what the places from a to b may hold together -/
noncomputable def ai_jn (rs : List (Nat × ai_h)) (a b : Nat) : Option ai_h := List.rec (motive := fun _ => Option ai_h) none (fun q _ ih => bif Nat.ble q.1 a then ih else bif Nat.blt b q.1 then some q.2 else (match ih with | some h => ai_hj q.2 h | none => none)) rs
theorem ai_jn_ok {rs : List (Nat × ai_h)} {a b i : Nat} {h h' : ai_h} {v : en_V} (hj : ai_jn rs a b = some h) (h1 : a ≤ i) (h2 : i ≤ b) (hr : ai_run rs i = some h') (hv : ai_rh h' v) : ai_rh h v := by
  induction rs generalizing h with
  | nil => cases hr
  | cons q rs ih =>
    have hj : (bif Nat.ble q.1 a then ai_jn rs a b else bif Nat.blt b q.1 then some q.2 else (match ai_jn rs a b with | some h => ai_hj q.2 h | none => none)) = some h := hj
    have hr : (bif Nat.blt i q.1 then some q.2 else ai_run rs i) = some h' := hr
    cases c1 : Nat.ble q.1 a with
    | true =>
      rw [c1] at hj
      have := Nat.le_of_ble_eq_true c1
      have hb : Nat.blt i q.1 = false := Bool.eq_false_iff.mpr (fun z => by have := Nat.le_of_ble_eq_true z; omega)
      rw [hb] at hr
      exact ih hj hr
    | false =>
      rw [c1] at hj
      dsimp only [cond] at hj
      cases c2 : Nat.blt b q.1 with
      | true =>
        rw [c2] at hj
        have := Nat.le_of_ble_eq_true c2
        have hb : Nat.blt i q.1 = true := Nat.ble_eq_true_of_le (by first | decide | omega)
        rw [hb] at hr
        cases hj
        cases hr
        exact hv
      | false =>
        rw [c2] at hj
        dsimp only [cond] at hj
        split at hj
        · rename_i h9 hh9
          cases c3 : Nat.blt i q.1 with
          | true =>
            rw [c3] at hr
            cases hr
            exact ai_hj_l hj hv
          | false =>
            rw [c3] at hr
            exact ai_hj_r hj (ih hh9 hr)
        · cases hj
/-- may the places from a to b hold it -/
noncomputable def ai_fit (rs : List (Nat × ai_h)) (a b : Nat) (x : ai_h) : Bool := List.rec (motive := fun _ => Bool) false (fun q _ ih => bif Nat.ble q.1 a then ih else bif ai_hle x q.2 then (bif Nat.blt b q.1 then true else ih) else false) rs
theorem ai_fit_ok {rs : List (Nat × ai_h)} {a b i : Nat} {x : ai_h} (hf : ai_fit rs a b x = true) (h1 : a ≤ i) (h2 : i ≤ b) : ∃ h, ai_run rs i = some h ∧ ai_hle x h = true := by
  induction rs with
  | nil => cases hf
  | cons q rs ih =>
    have hf : (bif Nat.ble q.1 a then ai_fit rs a b x else bif ai_hle x q.2 then (bif Nat.blt b q.1 then true else ai_fit rs a b x) else false) = true := hf
    show ∃ h, (bif Nat.blt i q.1 then some q.2 else ai_run rs i) = some h ∧ _
    cases c1 : Nat.ble q.1 a with
    | true =>
      rw [c1] at hf
      have := Nat.le_of_ble_eq_true c1
      have hb : Nat.blt i q.1 = false := Bool.eq_false_iff.mpr (fun z => by have := Nat.le_of_ble_eq_true z; omega)
      rw [hb]
      exact ih hf
    | false =>
      rw [c1] at hf
      dsimp only [cond] at hf
      cases c2 : ai_hle x q.2 with
      | false => rw [c2] at hf; cases hf
      | true =>
        rw [c2] at hf
        dsimp only [cond] at hf
        cases c3 : Nat.blt i q.1 with
        | true => exact ⟨q.2, rfl, c2⟩
        | false =>
          cases c4 : Nat.blt b q.1 with
          | true =>
            have := Nat.le_of_ble_eq_true c4
            have : Nat.blt i q.1 = true := Nat.ble_eq_true_of_le (by first | decide | omega)
            rw [this] at c3
            cases c3
          | false =>
            rw [c4] at hf
            exact ih hf
/-! ### a write -/
theorem ai_set_hv {t : en_H} {c i : Nat} {g : ai_g} {vs : List en_V} {v : en_V} (h : en_get t c = some (ai_mk g vs)) (hi : i < vs.length) (c' i' : Nat) : ai_hv (en_set t c (ai_mk g (en_upd vs i v))) c' i' = if c' = c ∧ i' = i then some v else ai_hv t c' i' := by
  have hg := en_get_set (c := ai_mk g (en_upd vs i v)) h
  by_cases e : c' = c
  · subst e
    have h2 : en_get (en_set t c' (ai_mk g (en_upd vs i v))) c' = some (ai_mk g (en_upd vs i v)) := by rw [hg, if_pos rfl]
    rw [ai_hv_mk h2, ai_hv_mk h, en_upd_eq]
    by_cases e2 : i' = i
    · subst e2
      rw [if_pos ⟨rfl, rfl⟩, List.getElem?_set_self hi]
    · rw [if_neg (fun q => e2 q.2), List.getElem?_set_ne (Ne.symm e2)]
  · rw [if_neg (fun q => e q.1)]
    unfold ai_hv
    rw [hg, if_neg e]
theorem ai_set_HG {G : ai_G} {t : en_H} {c i : Nat} {g : ai_g} {vs : List en_V} {v : en_V} {h : ai_h} (hG : ai_HG G t) (hc : G c = some g) (hg : en_get t c = some (ai_mk g vs)) (hi : i < vs.length) (hr : ai_run g.2.2.2 i = some h) (hv : ai_rh h v) : ai_HG G (en_set t c (ai_mk g (en_upd vs i v))) := by
  intro c' g' hc'
  have hs := en_get_set (c := ai_mk g (en_upd vs i v)) hg
  by_cases e : c' = c
  · subst e
    cases hc.symm.trans hc'
    obtain ⟨vs', h1, h2, h3⟩ := hG c' g hc
    have e2 : vs' = vs := by
      have := h1.symm.trans hg
      have := Option.some.inj this
      unfold ai_mk at this
      split at this <;> simp at this <;> exact this
    subst e2
    refine ⟨en_upd vs' i v, by rw [hs, if_pos rfl], by rw [en_upd_eq, List.length_set, h2], fun j w hw => ?_⟩
    rw [en_upd_eq] at hw
    by_cases e3 : j = i
    · subst e3
      rw [List.getElem?_set_self hi] at hw
      cases hw
      exact ⟨h, hr, hv⟩
    · rw [List.getElem?_set_ne (Ne.symm e3)] at hw
      exact h3 j w hw
  · obtain ⟨vs', h1, h2, h3⟩ := hG c' g' hc'
    exact ⟨vs', by rw [hs, if_neg e]; exact h1, h2, h3⟩
/-- without what is said of the places from a to b of the cell c -/
noncomputable def ai_drop (O : ai_O) (c a b : Nat) : ai_O := en_flt (fun q => bif Nat.beq q.1 c && (Nat.ble a q.2.1 && Nat.ble q.2.1 b) then false else true) O
theorem ai_drop_mem {O : ai_O} {c a b : Nat} {q : Nat × Nat × ai_h} (h : q ∈ ai_drop O c a b) : q ∈ O ∧ ¬ (q.1 = c ∧ a ≤ q.2.1 ∧ q.2.1 ≤ b) := by
  unfold ai_drop at h
  rw [en_flt_eq, List.mem_filter] at h
  refine ⟨h.1, fun z => ?_⟩
  have h2 := h.2
  rw [z.1, Nat.beq_refl, Nat.ble_eq_true_of_le z.2.1, Nat.ble_eq_true_of_le z.2.2] at h2
  cases h2
theorem ai_set_HO {O : ai_O} {t : en_H} {c i a b : Nat} {g : ai_g} {vs : List en_V} {v : en_V} (hO : ai_HO O t) (hg : en_get t c = some (ai_mk g vs)) (hi : i < vs.length) (h1 : a ≤ i) (h2 : i ≤ b) : ai_HO (ai_drop O c a b) (en_set t c (ai_mk g (en_upd vs i v))) := by
  intro q hq
  obtain ⟨q1, q2⟩ := ai_drop_mem hq
  obtain ⟨w, h3, h4⟩ := hO q q1
  refine ⟨w, ?_, h4⟩
  rw [ai_set_hv hg hi, if_neg (fun z => q2 ⟨z.1, by rw [z.2]; exact h1, by rw [z.2]; exact h2⟩)]
  exact h3
theorem ai_set_FR {wr : ai_W} {t : en_H} {c i : Nat} {g : ai_g} {vs : List en_V} {v : en_V} (hg : en_get t c = some (ai_mk g vs)) (hi : i < vs.length) (hw : ai_inw wr c i) : ai_FR wr t (en_set t c (ai_mk g (en_upd vs i v))) := by
  intro c' i' hn
  rw [ai_set_hv hg hi, if_neg (fun z => hn (by rw [z.1, z.2]; exact hw))]
noncomputable def ai_wok (wr : ai_W) (c a b : Nat) : Bool := ai_any (fun q => Nat.beq q.1 c && (Nat.ble q.2.1 a && Nat.ble b q.2.2)) wr
theorem ai_wok_ok {wr : ai_W} {c a b : Nat} (h : ai_wok wr c a b = true) {i : Nat} (h1 : a ≤ i) (h2 : i ≤ b) : ai_inw wr c i := by
  obtain ⟨q, hq, h⟩ := ai_any_ok h
  simp only [Bool.and_eq_true] at h
  exact ⟨q, hq, Nat.eq_of_beq_eq_true h.1, Nat.le_trans (Nat.le_of_ble_eq_true h.2.1) h1, Nat.le_trans h2 (Nat.le_of_ble_eq_true h.2.2)⟩
end AI2
