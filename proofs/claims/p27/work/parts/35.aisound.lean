section AI6
variable {G : ai_G} {cs : Nat → List ai_C} {wr : ai_W} {ρ : Nat → Nat} {t0 : en_H} {f : en_F} {n sl : Nat} {F : en_K → Option en_O} {N : ai_N}
variable {nx : Nat} {ls : ai_L} {st : List ai_v} {O : ai_O} {cl : en_L} {cst : List en_V} {t : en_H}
theorem ai_rc_0 {v : en_V} (h : ai_rc 0 v) : v = .inr (.inr (.inl none)) := by
  rcases h with ⟨-, rfl⟩ | ⟨e, -⟩ | ⟨j, e, -⟩ | ⟨k, e, -⟩ | ⟨s, k, e, -⟩
  · rfl
  · omega
  · omega
  · omega
  · omega
theorem ai_rc_cell {c : Nat} {v : en_V} (h : ai_rc c v) (hc : 100 ≤ c) : v = .inr (.inr (.inl (some (c - 100)))) := by
  rcases h with ⟨e, -⟩ | ⟨e, -⟩ | ⟨j, e, hj, -⟩ | ⟨k, e, rfl⟩ | ⟨s, k, e, hs, -⟩
  · omega
  · omega
  · omega
  · rw [e, Nat.add_sub_cancel]
  · omega
theorem ai_rc_ext {c : Nat} {v : en_V} (h : ai_rc c v) (h1 : 2 ≤ c) (h2 : c < 48) : v = .inr (.inr (.inr (.inl (c - 2 + 1)))) := by
  rcases h with ⟨e, -⟩ | ⟨e, -⟩ | ⟨j, e, hj, rfl⟩ | ⟨k, e, rfl⟩ | ⟨s, k, e, hs, -⟩
  · omega
  · omega
  · rw [e, Nat.add_sub_cancel]
  · omega
  · omega
theorem ai_rc_word {c : Nat} {v : en_V} (h : ai_rc c v) (hc : c = 1 ∨ (4 ≤ c ∧ c ≤ 45)) : ∃ i, 2 ≤ i ∧ i ≤ 43 ∧ v = .inr (.inr (.inr (.inl (i + 1)))) ∧ (4 ≤ c → c = i + 2) := by
  rcases h with ⟨e, -⟩ | ⟨e, w, hw, rfl⟩ | ⟨j, e, hj, rfl⟩ | ⟨k, e, rfl⟩ | ⟨s, k, e, hs, -⟩
  · omega
  · exact ⟨w + 2, by omega, by omega, rfl, by omega⟩
  · exact ⟨j, by omega, by omega, rfl, fun _ => e⟩
  · omega
  · omega
theorem ai_rc_ne {c : Nat} {v : en_V} (h : ai_rc c v) (hc : c ≠ 0) : (∃ k, v = .inr (.inr (.inl (some k)))) ∨ ∃ j, v = .inr (.inr (.inr (.inl (j + 1)))) := by
  rcases h with ⟨e, -⟩ | ⟨e, w, hw, rfl⟩ | ⟨j, e, hj, rfl⟩ | ⟨k, e, rfl⟩ | ⟨s, k, e, hs, -, rfl⟩
  · exact absurd e hc
  · exact Or.inr ⟨w + 2, rfl⟩
  · exact Or.inr ⟨j, rfl⟩
  · exact Or.inl ⟨k, rfl⟩
  · exact Or.inl ⟨k, rfl⟩
theorem ai_nul_ok {c : Nat} {v : en_V} (h : ai_rc c v) : en_nul v = some (Nat.beq c 0) := by
  cases hc : Nat.beq c 0 with
  | true => rw [Nat.eq_of_beq_eq_true hc] at h; rw [ai_rc_0 h]; rfl
  | false =>
    rcases ai_rc_ne h (fun e => by rw [e] at hc; cases hc) with ⟨k, rfl⟩ | ⟨j, rfl⟩ <;> rfl
theorem ai_beq_ne {a b : Nat} (h : Nat.beq a b = false) : a ≠ b := fun e => by rw [e, Nat.beq_refl] at h; cases h
theorem ai_eac {i j : Nat} (h1 : 2 ≤ i) (h2 : i ≤ 43) (h3 : 2 ≤ j) (h4 : j ≤ 43) : en_ac (.inr (.inr (.inr (.inl (i + 1))))) (.inr (.inr (.inr (.inl (j + 1))))) = some (Nat.beq i j) := by
  show (bif (Nat.ble 2 i && Nat.ble i 43) && (Nat.ble 2 j && Nat.ble j 43) then some (Nat.beq i j) else none) = _
  rw [Nat.ble_eq_true_of_le h1, Nat.ble_eq_true_of_le h2, Nat.ble_eq_true_of_le h3, Nat.ble_eq_true_of_le h4]
  rfl
theorem ai_isw {c : Nat} (h : (Nat.beq c 1 || (Nat.ble 4 c && Nat.ble c 45)) = true) : c = 1 ∨ (4 ≤ c ∧ c ≤ 45) := by
  simp only [Bool.or_eq_true, Bool.and_eq_true] at h
  rcases h with h | ⟨h1, h2⟩
  · exact Or.inl (Nat.eq_of_beq_eq_true h)
  · exact Or.inr ⟨Nat.le_of_ble_eq_true h1, Nat.le_of_ble_eq_true h2⟩
theorem ai_ac_ok {a b : Nat} {v w : en_V} {o : Option Bool} (ha : ai_rc a v) (hb : ai_rc b w) (h : ai_ac a b = some o) : ∃ r, en_ac v w = some r ∧ ∀ b', o = some b' → b' = r := by
  unfold ai_ac at h
  cases c0 : Nat.beq a 0 with
  | true =>
    rw [c0] at h
    have h := Option.some.inj h
    rw [Nat.eq_of_beq_eq_true c0] at ha
    have e := ai_rc_0 ha
    subst e
    cases c1 : Nat.beq b 0 with
    | true =>
      rw [Nat.eq_of_beq_eq_true c1] at hb
      have e := ai_rc_0 hb
      subst e
      exact ⟨true, rfl, fun b' hb' => by rw [c1, hb'] at h; exact (Option.some.inj h).symm⟩
    | false =>
      rcases ai_rc_ne hb (ai_beq_ne c1) with ⟨k, rfl⟩ | ⟨j, rfl⟩
      · exact ⟨false, rfl, fun b' hb' => by rw [c1, hb'] at h; exact (Option.some.inj h).symm⟩
      · exact ⟨false, rfl, fun b' hb' => by rw [c1, hb'] at h; exact (Option.some.inj h).symm⟩
  | false =>
    rw [c0] at h
    dsimp only [cond] at h
    cases c1 : Nat.beq b 0 with
    | true =>
      rw [c1] at h
      have h := Option.some.inj h
      rw [Nat.eq_of_beq_eq_true c1] at hb
      have e := ai_rc_0 hb
      subst e
      rcases ai_rc_ne ha (ai_beq_ne c0) with ⟨k, rfl⟩ | ⟨j, rfl⟩
      · exact ⟨false, rfl, fun b' hb' => by rw [hb'] at h; exact (Option.some.inj h).symm⟩
      · exact ⟨false, rfl, fun b' hb' => by rw [hb'] at h; exact (Option.some.inj h).symm⟩
    | false =>
      rw [c1] at h
      dsimp only [cond] at h
      cases c2 : (Nat.ble 100 a && Nat.ble 100 b) with
      | true =>
        rw [c2] at h
        have h := Option.some.inj h
        rw [Bool.and_eq_true] at c2
        have d1 := Nat.le_of_ble_eq_true c2.1
        have d2 := Nat.le_of_ble_eq_true c2.2
        rw [ai_rc_cell ha d1, ai_rc_cell hb d2]
        refine ⟨_, rfl, fun b' hb' => ?_⟩
        rw [hb'] at h
        rw [← Option.some.inj h, en_beq]
        by_cases e : a = b
        · subst e
          rw [decide_eq_true rfl, decide_eq_true rfl]
        · rw [decide_eq_false e, decide_eq_false (fun q => e (by have := Option.some.inj q; omega))]
      | false =>
        rw [c2] at h
        dsimp only [cond] at h
        cases c3 : ((Nat.ble 4 a && Nat.ble a 45) && (Nat.ble 4 b && Nat.ble b 45)) with
        | true =>
          rw [c3] at h
          have h := Option.some.inj h
          simp only [Bool.and_eq_true] at c3
          obtain ⟨⟨d1, d2⟩, d3, d4⟩ := c3
          have d1 := Nat.le_of_ble_eq_true d1
          have d2 := Nat.le_of_ble_eq_true d2
          have d3 := Nat.le_of_ble_eq_true d3
          have d4 := Nat.le_of_ble_eq_true d4
          obtain ⟨i, i1, i2, rfl, i3⟩ := ai_rc_word ha (Or.inr ⟨d1, d2⟩)
          obtain ⟨j, j1, j2, rfl, j3⟩ := ai_rc_word hb (Or.inr ⟨d3, d4⟩)
          refine ⟨_, ai_eac i1 i2 j1 j2, fun b' hb' => ?_⟩
          rw [hb'] at h
          rw [← Option.some.inj h, en_beq, en_beq]
          have i3 := i3 d1
          have j3 := j3 d3
          by_cases e : a = b
          · rw [decide_eq_true e, decide_eq_true (by first | decide | omega)]
          · rw [decide_eq_false e, decide_eq_false (by first | decide | omega)]
        | false =>
          rw [c3] at h
          dsimp only [cond] at h
          obtain ⟨c4, h⟩ := en_bif h
          rw [Bool.and_eq_true] at c4
          obtain ⟨i, i1, i2, rfl, -⟩ := ai_rc_word ha (ai_isw c4.1)
          obtain ⟨j, j1, j2, rfl, -⟩ := ai_rc_word hb (ai_isw c4.2)
          have h := Option.some.inj h
          exact ⟨_, ai_eac i1 i2 j1 j2, fun b' hb' => by rw [hb'] at h; cases h⟩
theorem ai_acmp_good {neg : Bool} {tg : Nat} (h : ai_acmp neg tg nx ls st O = some N) (hl : ai_lr ρ ls cl) (hs : ai_rvs ρ st cst) (hH : ai_Hp G wr t0 O t) : ai_good G wr ρ t0 (fun k => bif neg then en_acne tg nx cl cst t n sl k else en_aceq tg nx cl cst t n sl k) t n sl N := by
  unfold ai_acmp at h
  split at h
  · split at h
    · rename_i o ho
      obtain ⟨v2, ws, rfl, g1, hs1⟩ := ai_rvs_cons hs
      obtain ⟨v1, ws, rfl, g2, hs2⟩ := ai_rvs_cons hs1
      obtain ⟨r, e, hr⟩ := ai_ac_ok (v := v1) (w := v2) g2 g1 ho
      cases neg with
      | false =>
        refine ai_jump_good hr h (cl := cl) (cst := ws) (t := t) (fun k => ?_) hl hs2 hH
        show en_aceq tg nx cl (v2 :: v1 :: ws) t n sl k = _
        unfold en_aceq
        dsimp only
        rw [e]
      | true =>
        refine ai_jump_good (b := !r) (o := en_not o) (fun b' hb' => ?_) h (cl := cl) (cst := ws) (t := t) (fun k => ?_) hl hs2 hH
        · cases o with
          | none => cases hb'
          | some d => cases hb'; rw [hr d rfl]
        · show en_acne tg nx cl (v2 :: v1 :: ws) t n sl k = _
          unfold en_acne
          dsimp only
          rw [e]
          rfl
    · cases h
  · cases h
theorem ai_ifnull_good {tg : Nat} (h : ai_ifnull tg nx ls st O = some N) (hl : ai_lr ρ ls cl) (hs : ai_rvs ρ st cst) (hH : ai_Hp G wr t0 O t) : ai_good G wr ρ t0 (fun k => en_ifnull tg nx cl cst t n sl k) t n sl N := by
  unfold ai_ifnull at h
  split at h
  · obtain ⟨v, ws, rfl, g1, hs1⟩ := ai_rvs_cons hs
    refine ai_jump_good (fun b' hb' => (Option.some.inj hb').symm) h (cl := cl) (cst := ws) (t := t) (fun k => ?_) hl hs1 hH
    unfold en_ifnull
    dsimp only
    rw [ai_nul_ok g1]
  · cases h
/-! ### switches -/
theorem ai_tgs_ok {pc : Nat} {r : List ai_v} {o : Int} : ∀ {os : List Int} {l : List ai_S}, ai_tgs pc ls r O os = some l → o ∈ os → 0 ≤ (pc : Int) + o ∧ (((pc : Int) + o).toNat, ls, r, O) ∈ l
  | [], _, _, h => by cases h
  | a :: os, l, h, hm => by
    have h : (if 0 ≤ (pc : Int) + a then (match ai_tgs pc ls r O os with | some l => some ((((pc : Int) + a).toNat, ls, r, O) :: l) | none => none) else none) = some l := h
    split at h
    · rename_i h0
      split at h
      · rename_i l' hl'
        cases h
        rcases List.mem_cons.mp hm with rfl | hm
        · exact ⟨h0, List.mem_cons_self⟩
        · obtain ⟨h1, h2⟩ := ai_tgs_ok hl' hm
          exact ⟨h1, List.mem_cons_of_mem _ h2⟩
      · cases h
    · cases h
theorem ai_switch_good {pc : Nat} {df lo hi : Int} {os : Array Int} (h : ai_switch pc df lo hi os ls st O = some N) (hl : ai_lr ρ ls cl) (hs : ai_rvs ρ st cst) (hH : ai_Hp G wr t0 O t) : ai_good G wr ρ t0 (fun k => en_switch pc df lo hi os cl cst t n sl k) t n sl N := by
  unfold ai_switch at h
  split at h
  · rename_i q r
    obtain ⟨v, ws, rfl, g1, hs1⟩ := ai_rvs_cons hs
    obtain ⟨m, rfl, hm⟩ := ai_ini g1
    have m1 : q.1 ≤ ai_off m := hm.2.1
    have m2 : ai_off m ≤ q.2.1 := hm.2.2
    have hsw : ∀ k : en_K, en_switch pc df lo hi os cl (.inl m :: ws) t n sl k = (if ((ai_off m : Nat) : Int) - 2147483648 < lo ∨ hi < ((ai_off m : Nat) : Int) - 2147483648 then (if 0 ≤ (pc : Int) + df then k ((pc : Int) + df).toNat cl ws t n sl else none)
      else (match en_nth os.toList (((ai_off m : Nat) : Int) - 2147483648 - lo).toNat with
        | some o => (if 0 ≤ (pc : Int) + o then k ((pc : Int) + o).toNat cl ws t n sl else none)
        | none => none)) := fun k => by
      unfold en_switch
      dsimp only
      rw [ai_bnd_in]
      dsimp only
      rw [if_pos rfl]
      rfl
    generalize ai_off m = x at m1 m2 hsw
    split at h
    · rename_i hout
      split at h
      · rename_i h0
        refine ai_nx_good h (cl' := cl) (cst' := ws) (t' := t) (fun k => ?_) hl hs1 hH
        show en_switch pc df lo hi os cl (.inl m :: ws) t n sl k = _
        rw [hsw k, if_pos (by first | decide | omega), if_pos h0]
      · cases h
    · rename_i hout
      split at h
      · rename_i he
        split at h
        · rename_i o ho
          split at h
          · rename_i h0
            refine ai_nx_good h (cl' := cl) (cst' := ws) (t' := t) (fun k => ?_) hl hs1 hH
            show en_switch pc df lo hi os cl (.inl m :: ws) t n sl k = _
            have ex : x = q.1 := by omega
            rw [hsw k, if_neg (by first | decide | omega), ex, ho]
            dsimp only
            rw [if_pos h0]
          · cases h
        · cases h
      · split at h
        · rename_i hlen
          split at h
          · rename_i l hl9
            cases h
            by_cases hx : (x : Int) - 2147483648 < lo ∨ hi < (x : Int) - 2147483648
            · obtain ⟨h0, hm9⟩ := ai_tgs_ok (l := l) hl9 List.mem_cons_self
              exact ⟨_, cl, ws, t, fun k => by
                show en_switch pc df lo hi os cl (.inl m :: ws) t n sl k = _
                rw [hsw k, if_pos hx, if_pos h0], _, hm9, rfl, hl, hs1, hH⟩
            · rw [en_len_eq] at hlen
              obtain ⟨o, ho⟩ : ∃ o, os.toList[((x : Int) - 2147483648 - lo).toNat]? = some o := ⟨_, List.getElem?_eq_getElem (by rw [hlen]; omega)⟩
              obtain ⟨h0, hm9⟩ := ai_tgs_ok (l := l) hl9 (List.mem_cons_of_mem _ (List.mem_of_getElem? ho))
              exact ⟨_, cl, ws, t, fun k => by
                show en_switch pc df lo hi os cl (.inl m :: ws) t n sl k = _
                rw [hsw k, if_neg hx, en_nth_eq, ho]
                dsimp only
                rw [if_pos h0], _, hm9, rfl, hl, hs1, hH⟩
          · cases h
        · cases h
  · cases h
/-! ### fields and rows -/
theorem ai_lds_good {h9 : ai_h} {r : List ai_v} {v : en_V} {ws : List en_V} (h : ai_lds h9 nx ls r O = some N) (hv : ai_rh h9 v) (hF : ∀ k, F k = k nx cl (v :: ws) t n sl) (hl : ai_lr ρ ls cl) (hs : ai_rvs ρ r ws) (hH : ai_Hp G wr t0 O t) : ai_good G wr ρ t0 F t n sl N := by
  unfold ai_lds at h
  cases h
  obtain ⟨a, ha, hv⟩ := ai_h2v_ok ρ hv
  exact ⟨nx, cl, v :: ws, t, hF, _, List.mem_map.mpr ⟨a, ha, rfl⟩, rfl, hl, ⟨hv, hs⟩, hH⟩
theorem ai_wks_ok : ∀ w : Fin 42, ai_in (2147483648, 2147483651) (en_wk w.val).2.1 ∧ ai_in (2147483637, 2147483652) (en_wk w.val).2.2 := by
  unfold ai_in
  decide +kernel
theorem ai_wf_ok {c x1 w : Nat} {a : ai_v} (h : ai_wf c x1 = some a) (hc : (c = 1 ∧ w < 42) ∨ c = w + 4) : ∃ v, en_wf w x1 = some v ∧ ai_rv ρ a v := by
  have key : ∀ w, w < 42 → ∃ q, en_nth en_wks w = some q ∧ en_wk w = q := fun w hw => by
    have hl : w < en_wks.length := hw
    refine ⟨en_wks[w], by rw [en_nth_eq, List.getElem?_eq_getElem hl], ?_⟩
    unfold en_wk
    rw [List.getD_eq_getElem?_getD, List.getElem?_eq_getElem hl]
    rfl
  unfold ai_wf at h
  cases c1 : Nat.beq c 1 with
  | true =>
    rw [c1] at h
    dsimp only [cond] at h
    have e1 := Nat.eq_of_beq_eq_true c1
    have hw : w < 42 := by omega
    obtain ⟨q, hq, he⟩ := key w hw
    have hk := ai_wks_ok ⟨w, hw⟩
    dsimp only at hk
    rw [he] at hk
    unfold en_wf
    rw [hq]
    dsimp only
    split at h
    · cases h; exact ⟨_, rfl, _, rfl⟩
    · cases h; exact ⟨_, rfl, ai_oni ρ hk.1⟩
    · cases h; exact ⟨_, rfl, ai_oni ρ hk.2⟩
    · cases h
  | false =>
    rw [c1] at h
    dsimp only [cond] at h
    obtain ⟨c2, h⟩ := en_bif h
    rw [Bool.and_eq_true] at c2
    have d1 := Nat.le_of_ble_eq_true c2.1
    have d2 := Nat.le_of_ble_eq_true c2.2
    have e : c - 4 = w := by
      rcases hc with ⟨e, -⟩ | e
      · rw [e] at c1; cases c1
      · omega
    rw [e] at h
    have hw : w < 42 := by omega
    obtain ⟨q, hq, he⟩ := key w hw
    have hk := ai_wks_ok ⟨w, hw⟩
    dsimp only at hk
    rw [he] at hk
    unfold en_wf
    rw [hq] at h ⊢
    dsimp only at h ⊢
    split at h
    · cases h; exact ⟨_, rfl, rfl⟩
    · cases h; exact ⟨_, rfl, ai_exi ρ hk.1.1⟩
    · cases h; exact ⟨_, rfl, ai_exi ρ hk.2.1⟩
    · cases h
theorem ai_mk_o {g : ai_g} {vs : List en_V} (h : (bif g.1 then false else true) = true) : ai_mk g vs = .inr (g.2.1, vs) := by
  obtain ⟨b, k, m, rs⟩ := g
  cases b with
  | true => cases h
  | false => rfl
theorem ai_mk_a {g : ai_g} {vs : List en_V} (h : g.1 = true) : ai_mk g vs = .inl (g.2.1, vs) := by
  obtain ⟨b, k, m, rs⟩ := g
  cases h
  rfl
theorem ai_getf_good {x1 x2 : Nat} (h : ai_getf G x1 x2 nx ls st O = some N) (hl : ai_lr ρ ls cl) (hs : ai_rvs ρ st cst) (hH : ai_Hp G wr t0 O t) : ai_good G wr ρ t0 (fun k => en_getf x1 x2 nx cl cst t n sl k) t n sl N := by
  unfold ai_getf at h
  split at h
  · rename_i c r
    obtain ⟨v, ws, rfl, g1, hs1⟩ := ai_rvs_cons hs
    have g1 : ai_rc c v := g1
    cases c1 : Nat.ble 100 c with
    | true =>
      rw [c1] at h
      dsimp only [cond] at h
      have e := ai_rc_cell g1 (Nat.le_of_ble_eq_true c1)
      subst e
      split at h
      · rename_i g hg
        obtain ⟨h1, h⟩ := en_bif h
        simp only [Bool.and_eq_true] at h1
        obtain ⟨b1, b2, b3⟩ := h1
        split at h
        · rename_i h9 hh9
          obtain ⟨vs, v, k1, k2, k3, k4⟩ := ai_sl_ok hH.1 hH.2.1 hg (Nat.le_of_ble_eq_true b3) hh9
          refine ai_lds_good h k4 (cl := cl) (ws := ws) (t := t) (fun k => ?_) hl hs1 hH
          show en_getf x1 x2 nx cl (.inr (.inr (.inl (some (c - 100)))) :: ws) t n sl k = _
          unfold en_getf
          dsimp only
          rw [k1, ai_mk_o b1]
          dsimp only
          rw [b2, en_nth_eq, k3]
          rfl
        · cases h
      · cases h
    | false =>
      rw [c1] at h
      dsimp only [cond] at h
      obtain ⟨b1, h⟩ := en_bif h
      split at h
      · rename_i a ha
        have hw : ∃ w, v = .inr (.inr (.inr (.inl (w + 3)))) ∧ ((c = 1 ∧ w < 42) ∨ c = w + 4) := by
          by_cases e1 : c = 1
          · obtain ⟨i, i1, i2, rfl, -⟩ := ai_rc_word g1 (Or.inl e1)
            exact ⟨i - 2, by rw [show i - 2 + 3 = i + 1 by omega], Or.inl ⟨e1, by omega⟩⟩
          · have hx : 4 ≤ c ∧ c ≤ 45 := by
              unfold ai_wf at ha
              rw [show Nat.beq c 1 = false from Bool.eq_false_iff.mpr (fun q => e1 (Nat.eq_of_beq_eq_true q))] at ha
              dsimp only [cond] at ha
              obtain ⟨q, -⟩ := en_bif ha
              rw [Bool.and_eq_true] at q
              exact ⟨Nat.le_of_ble_eq_true q.1, Nat.le_of_ble_eq_true q.2⟩
            obtain ⟨i, i1, i2, rfl, i3⟩ := ai_rc_word g1 (Or.inr hx)
            have i3 := i3 hx.1
            exact ⟨i - 2, by rw [show i - 2 + 3 = i + 1 by omega], Or.inr (by first | decide | omega)⟩
        obtain ⟨w, rfl, hc⟩ := hw
        obtain ⟨v9, e9, hv9⟩ := ai_wf_ok (ρ := ρ) ha hc
        refine ai_nx_good h (cl' := cl) (cst' := v9 :: ws) (t' := t) (fun k => ?_) hl ⟨hv9, hs1⟩ hH
        show en_getf x1 x2 nx cl (.inr (.inr (.inr (.inl (w + 3)))) :: ws) t n sl k = _
        unfold en_getf
        dsimp only
        rw [b1, e9]
        rfl
      · cases h
  · cases h
theorem ai_fitk_ok {kd : Nat} {a : ai_v} {v : en_V} (h : ai_fitk kd a = true) (hv : ai_rv ρ a v) : en_fit kd v = true := by
  unfold ai_fitk at h
  unfold en_fit
  cases c1 : Nat.beq kd 3 with
  | false =>
    rw [c1] at h
    dsimp only [cond] at h ⊢
    rw [ai_rv_kd hv]
    exact h
  | true =>
    rw [c1] at h
    dsimp only [cond] at h ⊢
    split at h
    · rename_i q
      rw [Bool.and_eq_true] at h
      obtain ⟨m, rfl, hm⟩ := ai_ini hv
      obtain ⟨e1, e2⟩ := ai_nn hm (Nat.le_of_ble_eq_true h.1)
      have h2 := Nat.le_of_ble_eq_true h.2
      have h3 := hm.2.2
      dsimp only at h3 ⊢
      exact Nat.ble_eq_true_of_le (by first | decide | omega)
    · cases h
/-- a write, as the heap has it -/
theorem ai_put_ok {c a b i : Nat} {v : ai_v} {w : en_V} {g : ai_g} {O' : ai_O} {vs : List en_V} (h : ai_put G wr c a b v g.2.2.2 O = some O') (hc : G c = some g) (hg : en_get t c = some (ai_mk g vs)) (hi : i < vs.length) (h1 : a ≤ i) (h2 : i ≤ b) (hv : ai_rv ρ v w) (hH : ai_Hp G wr t0 O t) : ai_Hp G wr t0 O' (en_set t c (ai_mk g (en_upd vs i w))) := by
  unfold ai_put at h
  obtain ⟨k1, h⟩ := en_bif h
  simp only [Bool.and_eq_true] at k1
  obtain ⟨h9, r1, r2⟩ := ai_fit_ok k1.1 h1 h2
  have hG := ai_set_HG hH.1 hc hg hi r1 (ai_hle_ok r2 (ai_v2h_ok hv))
  have hO := ai_set_HO (v := w) hH.2.1 hg hi h1 h2
  have hF := hH.2.2.1.tr (ai_set_FR (v := w) hg hi (ai_wok_ok k1.2.1 h1 h2))
  have hE : ai_E (en_set t c (ai_mk g (en_upd vs i w))) := by
    have k3 := k1.2.2
    cases hz : ai_frz c with
    | false =>
      exact ai_E_kept hH.2.2.2 (fun c' i' hc' => by
        rw [ai_set_hv hg hi, if_neg (fun z => by rw [z.1, hz] at hc'; cases hc')])
    | true =>
      rw [hz] at k3
      dsimp only [cond] at k3
      rw [Bool.and_eq_true] at k3
      have e1 := Nat.eq_of_beq_eq_true k3.1
      have e2 : a = i := by omega
      have k4 := k3.2
      rw [e2] at k4
      exact ai_ep_ok k4 hv hH.2.1 hH.2.2.2 (ai_set_hv hg hi)
  cases c1 : Nat.beq a b with
  | false =>
    rw [c1] at h
    cases h
    exact ⟨hG, hO, hF, hE⟩
  | true =>
    rw [c1] at h
    cases h
    refine ⟨hG, fun q hq => ?_, hF, hE⟩
    rcases List.mem_cons.mp hq with rfl | hq
    · have e := Nat.eq_of_beq_eq_true c1
      have e2 : a = i := by omega
      refine ⟨w, ?_, ai_v2h_ok hv⟩
      rw [ai_set_hv hg hi, if_pos ⟨rfl, e2⟩]
    · exact hO q hq
theorem ai_putf_good {x1 ci kd : Nat} (h : ai_putf G wr x1 ci kd nx ls st O = some N) (hl : ai_lr ρ ls cl) (hs : ai_rvs ρ st cst) (hH : ai_Hp G wr t0 O t) : ai_good G wr ρ t0 (fun k => en_putf x1 ci kd nx cl cst t n sl k) t n sl N := by
  unfold ai_putf at h
  split at h
  · rename_i a c r
    obtain ⟨v, ws, rfl, g1, hs1⟩ := ai_rvs_cons hs
    obtain ⟨v2, ws, rfl, g2, hs2⟩ := ai_rvs_cons hs1
    have g2 : ai_rc c v2 := g2
    obtain ⟨c1, h⟩ := en_bif h
    have e := ai_rc_cell g2 (Nat.le_of_ble_eq_true c1)
    subst e
    split at h
    · rename_i g hg
      obtain ⟨h1, h⟩ := en_bif h
      simp only [Bool.and_eq_true] at h1
      obtain ⟨b1, b2, b3, b4⟩ := h1
      split at h
      · rename_i O' hO'
        obtain ⟨vs, k1, k2, k3⟩ := hH.1 _ _ hg
        have hi : x1 < vs.length := by rw [k2]; exact Nat.le_of_ble_eq_true b3
        have hP := ai_put_ok hO' hg k1 hi (Nat.le_refl _) (Nat.le_refl _) g1 hH
        refine ai_nx_good h (cl' := cl) (cst' := ws) (t' := en_set t (c - 100) (ai_mk g (en_upd vs x1 v))) (fun k => ?_) hl hs2 hP
        show en_putf x1 ci kd nx cl (v :: .inr (.inr (.inl (some (c - 100)))) :: ws) t n sl k = _
        unfold en_putf
        dsimp only
        rw [k1, ai_mk_o b1, ai_mk_o b1]
        dsimp only
        rw [b2, ai_fitk_ok b4 g1, en_len_eq, show Nat.blt x1 vs.length = true from Nat.ble_eq_true_of_le hi]
        rfl
      · cases h
    · cases h
  · cases h
end AI6
