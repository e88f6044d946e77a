section AI7
variable {G : ai_G} {cs : Nat → List ai_C} {wr : ai_W} {ρ : Nat → Nat} {t0 : en_H} {f : en_F} {n sl : Nat} {F : en_K → Option en_O} {N : ai_N}
variable {nx : Nat} {ls : ai_L} {st : List ai_v} {O : ai_O} {cl : en_L} {cst : List en_V} {t : en_H}
theorem ai_rose_ok : ∀ i : Fin 9, ∃ x, en_rose[i.val]? = some x ∧ ai_in (2147483648, 2147483656) x := by
  have h : ∀ i : Fin 9, (match en_rose[i.val]? with | some x => decide (x < 4294967296 ∧ 2147483648 ≤ ai_off x ∧ ai_off x ≤ 2147483656) | none => false) = true := by decide +kernel
  intro i
  have h := h i
  split at h
  · rename_i x hx
    have h9 := of_decide_eq_true h
    exact ⟨x, hx, h9⟩
  · cases h
theorem ai_sjn_ok {cb : Nat → Bool} {q : Nat × Nat} : ∀ {l : List Nat} {h : ai_h} {k : Nat}, ai_sjn G cb q l = some h → k ∈ l → ∃ g h', G k = some g ∧ g.1 = true ∧ cb g.2.1 = true ∧ 2147483648 ≤ q.1 ∧ q.2 < g.2.2.1 + 2147483648 ∧ ai_jn g.2.2.2 (q.1 - 2147483648) (q.2 - 2147483648) = some h' ∧ ∀ v, ai_rh h' v → ai_rh h v
  | [], _, _, h, _ => by cases h
  | a :: ks, h, k, hs, hk => by
    have hs : (match ai_sj1 G cb q a with
      | some h => ai_sjt h ks (ai_sjn G cb q ks)
      | none => none) = some h := hs
    split at hs
    · rename_i h1 hh1
      have key : ∃ g h', G a = some g ∧ g.1 = true ∧ cb g.2.1 = true ∧ 2147483648 ≤ q.1 ∧ q.2 < g.2.2.1 + 2147483648 ∧ ai_jn g.2.2.2 (q.1 - 2147483648) (q.2 - 2147483648) = some h' ∧ ∀ v, ai_rh h' v → ai_rh h1 v := by
        unfold ai_sj1 at hh1
        split at hh1
        · rename_i g hg
          obtain ⟨b, hh1⟩ := en_bif hh1
          simp only [Bool.and_eq_true] at b
          exact ⟨g, h1, hg, b.1.1, b.1.2, Nat.le_of_ble_eq_true b.2.1, Nat.le_of_ble_eq_true b.2.2, hh1, fun v h => h⟩
        · cases hh1
      cases ks with
      | nil =>
        have hs : some h1 = some h := hs
        cases hs
        rcases List.mem_cons.mp hk with rfl | hk
        · exact key
        · cases hk
      | cons b bs =>
        have hs9 : (match ai_sjn G cb q (b :: bs) with | some h2 => ai_hj h1 h2 | none => none) = some h := hs
        split at hs9
        · rename_i h2 hh2
          rcases List.mem_cons.mp hk with rfl | hk
          · obtain ⟨g, h', k1, k2, k3, k4, k5, k6, k7⟩ := key
            exact ⟨g, h', k1, k2, k3, k4, k5, k6, fun v hv => ai_hj_l hs9 (k7 v hv)⟩
          · obtain ⟨g, h', k1, k2, k3, k4, k5, k6, k7⟩ := ai_sjn_ok hh2 hk
            exact ⟨g, h', k1, k2, k3, k4, k5, k6, fun v hv => ai_hj_r hs9 (k7 v hv)⟩
        · cases hs9
    · cases hs
theorem ai_rc_set {c : Nat} {v : en_V} (h : ai_rc c v) (h1 : 48 ≤ c) (h2 : c < 100) : ∃ k ∈ ai_set (c - 48), v = .inr (.inr (.inl (some k))) := by
  rcases h with ⟨e, -⟩ | ⟨e, -⟩ | ⟨j, e, hj, -⟩ | ⟨k, e, -⟩ | ⟨s, k, e, hs, hk, rfl⟩
  · omega
  · omega
  · omega
  · omega
  · exact ⟨k, by rw [e, Nat.add_sub_cancel]; exact hk, rfl⟩
theorem ai_aget_good {cb : Nat → Bool} (h : ai_aget G cb nx ls st O = some N) (hl : ai_lr ρ ls cl) (hs : ai_rvs ρ st cst) (hH : ai_Hp G wr t0 O t) : ai_good G wr ρ t0 (fun k => en_aget none cb nx cl cst t n sl k) t n sl N := by
  unfold ai_aget at h
  split at h
  · rename_i q c r
    obtain ⟨v, ws, rfl, g1, hs1⟩ := ai_rvs_cons hs
    obtain ⟨v2, ws, rfl, g2, hs2⟩ := ai_rvs_cons hs1
    obtain ⟨m, rfl, hm⟩ := ai_ini g1
    have g2 : ai_rc c v2 := g2
    have m1 : q.1 ≤ ai_off m := hm.2.1
    have m2 : ai_off m ≤ q.2.1 := hm.2.2
    cases c1 : Nat.ble 100 c with
    | true =>
      rw [c1] at h
      dsimp only [cond] at h
      have e := ai_rc_cell g2 (Nat.le_of_ble_eq_true c1)
      subst e
      split at h
      · rename_i g hg
        obtain ⟨h1, h⟩ := en_bif h
        simp only [Bool.and_eq_true] at h1
        obtain ⟨⟨b1, b2⟩, b3, b4⟩ := h1
        have b3 := Nat.le_of_ble_eq_true b3
        have b4 : q.2.1 < g.2.2.1 + 2147483648 := Nat.le_of_ble_eq_true b4
        obtain ⟨e1, e2⟩ := ai_nn hm b3
        obtain ⟨vs, k1, k2, k3⟩ := hH.1 _ _ hg
        obtain ⟨v, hv⟩ : ∃ v, vs[m]? = some v := ⟨vs[m]'(by first | decide | omega), List.getElem?_eq_getElem _⟩
        split at h
        · rename_i h9 hh9
          have hr : ai_rh h9 v := by
            cases c2 : Nat.beq q.1 q.2.1 with
            | true =>
              rw [c2] at hh9
              have e3 := Nat.eq_of_beq_eq_true c2
              have e4 : q.1 - 2147483648 = m := by omega
              dsimp only [cond] at hh9
              rw [e4] at hh9
              obtain ⟨vs', v', j1, j2, j3, j4⟩ := ai_sl_ok hH.1 hH.2.1 hg (by first | decide | omega) hh9
              rw [ai_mk_a b1] at j1 k1
              cases j1.symm.trans k1
              cases hv.symm.trans j3
              exact j4
            | false =>
              rw [c2] at hh9
              dsimp only [cond] at hh9
              obtain ⟨h', r1, r2⟩ := k3 m v hv
              exact ai_jn_ok hh9 (by first | decide | omega) (by first | decide | omega) r1 r2
          refine ai_lds_good h hr (cl := cl) (ws := ws) (t := t) (fun k => ?_) hl hs2 hH
          show en_aget none cb nx cl (.inl m :: .inr (.inr (.inl (some (c - 100)))) :: ws) t n sl k = _
          unfold en_aget
          dsimp only
          rw [k1, ai_mk_a b1]
          dsimp only
          rw [b2, show Nat.blt m 2147483648 = true from Nat.ble_eq_true_of_le e2, en_nth_eq, hv]
          rfl
        · cases h
      · cases h
    | false =>
      rw [c1] at h
      dsimp only [cond] at h
      cases c2 : Nat.beq c 46 with
      | true =>
        rw [c2] at h
        dsimp only [cond] at h
        obtain ⟨h1, h⟩ := en_bif h
        simp only [Bool.and_eq_true] at h1
        obtain ⟨b2, b3, b4⟩ := h1
        have b3 := Nat.le_of_ble_eq_true b3
        have b4 : q.2.1 < 2147483690 := Nat.le_of_ble_eq_true b4
        obtain ⟨e1, e2⟩ := ai_nn hm b3
        have ec := Nat.eq_of_beq_eq_true c2
        subst ec
        have e := ai_rc_ext g2 (by decide) (by decide)
        subst e
        refine ai_nx_good h (cl' := cl) (cst' := .inr (.inr (.inr (.inl (2 + m + 1)))) :: ws) (t' := t) (fun k => ?_) hl ⟨Or.inr (Or.inl ⟨rfl, m, by omega, by rw [show 2 + m + 1 = m + 3 by omega]⟩), hs2⟩ hH
        show (bif Nat.blt m 2147483648 then (match (bif cb 4 && Nat.blt m 42 then (some (.inr (.inr (.inr (.inl (2 + m + 1))))) : Option en_V) else none) with | some v => k nx cl (v :: ws) t n sl | none => none) else none) = _
        rw [show Nat.blt m 2147483648 = true from Nat.ble_eq_true_of_le e2, b2, show Nat.blt m 42 = true from Nat.ble_eq_true_of_le (by first | decide | omega)]
        rfl
      | false =>
        rw [c2] at h
        dsimp only [cond] at h
        cases c3 : Nat.beq c 47 with
        | false =>
          rw [c3] at h
          dsimp only [cond] at h
          obtain ⟨c4, h⟩ := en_bif h
          have d1 := Nat.le_of_ble_eq_true c4
          have d2 : c < 100 := Nat.not_le.mp (fun z => by rw [Nat.ble_eq_true_of_le z] at c1; cases c1)
          obtain ⟨k9, hk9, e⟩ := ai_rc_set g2 d1 d2
          subst e
          split at h
          · rename_i h9 hh9
            obtain ⟨g, h', z1, z2, z3, z4, z5, z6, z7⟩ := ai_sjn_ok hh9 hk9
            have z4 : 2147483648 ≤ q.1 := z4
            have z5 : q.2.1 < g.2.2.1 + 2147483648 := z5
            obtain ⟨e1, e2⟩ := ai_nn hm z4
            obtain ⟨vs, k1, k2, k3⟩ := hH.1 _ _ z1
            obtain ⟨v, hv⟩ : ∃ v, vs[m]? = some v := ⟨vs[m]'(by first | decide | omega), List.getElem?_eq_getElem _⟩
            obtain ⟨h'', r1, r2⟩ := k3 m v hv
            have hr : ai_rh h9 v := z7 v (ai_jn_ok z6 (show q.1 - 2147483648 ≤ m by omega) (show m ≤ q.2.1 - 2147483648 by omega) r1 r2)
            refine ai_lds_good h hr (cl := cl) (ws := ws) (t := t) (fun k => ?_) hl hs2 hH
            show en_aget none cb nx cl (.inl m :: .inr (.inr (.inl (some k9))) :: ws) t n sl k = _
            unfold en_aget
            dsimp only
            rw [k1, ai_mk_a z2]
            dsimp only
            rw [z3, show Nat.blt m 2147483648 = true from Nat.ble_eq_true_of_le e2, en_nth_eq, hv]
            rfl
          · cases h
        | true =>
        rw [c3] at h
        dsimp only [cond] at h
        obtain ⟨h1, h⟩ := en_bif h
        simp only [Bool.and_eq_true] at h1
        obtain ⟨b2, b3, b4⟩ := h1
        have b3 := Nat.le_of_ble_eq_true b3
        have b4 : q.2.1 < 2147483657 := Nat.le_of_ble_eq_true b4
        obtain ⟨e1, e2⟩ := ai_nn hm b3
        have ec := Nat.eq_of_beq_eq_true c3
        subst ec
        have e := ai_rc_ext g2 (by decide) (by decide)
        subst e
        obtain ⟨x, hx, hx2⟩ := ai_rose_ok ⟨m, by omega⟩
        dsimp only at hx
        refine ai_nx_good h (cl' := cl) (cst' := .inl x :: ws) (t' := t) (fun k => ?_) hl ⟨ai_oni ρ hx2, hs2⟩ hH
        show (bif Nat.blt m 2147483648 then (match (bif cb 0 then (match en_nth en_rose m with | some x => (some (.inl x) : Option en_V) | none => none) else none) with | some v => k nx cl (v :: ws) t n sl | none => none) else none) = _
        rw [show Nat.blt m 2147483648 = true from Nat.ble_eq_true_of_le e2, b2, en_nth_eq, hx]
        rfl
  · cases h
theorem ai_afit_ok {d c : Nat} {a : ai_v} {v : en_V} (h : ai_afit d c a = true) (hv : ai_rv ρ a v) : en_afit t d c v = true := by
  unfold ai_afit at h
  split at h
  · obtain ⟨m, rfl, -⟩ := ai_ini hv
    exact h
  · obtain ⟨m, rfl⟩ := ai_inl hv
    exact h
  · rename_i q
    obtain ⟨m, rfl, hm⟩ := ai_ini hv
    show ((Nat.beq c 2 && Nat.ble m 1) || (Nat.beq c 1 && (Nat.blt m 128 || (Nat.ble 4294967168 m && Nat.blt m 4294967296)))) = true
    simp only [Bool.or_eq_true, Bool.and_eq_true] at h ⊢
    have h1 := hm.1
    have h2 : q.1 ≤ ai_off m := hm.2.1
    have h3 : ai_off m ≤ q.2.1 := hm.2.2
    rcases h with ⟨k1, k2, k3⟩ | ⟨k1, k2, k3⟩
    · have k2 := Nat.le_of_ble_eq_true k2
      have k3 := Nat.le_of_ble_eq_true k3
      obtain ⟨e1, e2⟩ := ai_nn hm k2
      exact Or.inl ⟨k1, Nat.ble_eq_true_of_le (by first | decide | omega)⟩
    · have k2 := Nat.le_of_ble_eq_true k2
      have k3 := Nat.le_of_ble_eq_true k3
      refine Or.inr ⟨k1, ?_⟩
      have : m < 128 ∨ 4294967168 ≤ m := by
        unfold ai_off at h2 h3
        omega
      rcases this with z | z
      · exact Or.inl (Nat.ble_eq_true_of_le z)
      · exact Or.inr ⟨Nat.ble_eq_true_of_le z, Nat.ble_eq_true_of_le h1⟩
  · rename_i c9
    have hv : ai_rc c9 v := hv
    simp only [Bool.or_eq_true, Bool.and_eq_true] at h
    obtain ⟨k1, k2⟩ := h
    by_cases h0 : c9 = 0
    · rw [h0] at hv
      rw [ai_rc_0 hv]
      exact k1
    · have hw : c9 = 1 ∨ (4 ≤ c9 ∧ c9 ≤ 45) := by
        rcases k2 with k2 | k2 | ⟨k2, k3⟩
        · exact absurd (Nat.eq_of_beq_eq_true k2) h0
        · exact Or.inl (Nat.eq_of_beq_eq_true k2)
        · exact Or.inr ⟨Nat.le_of_ble_eq_true k2, Nat.le_of_ble_eq_true k3⟩
      obtain ⟨i, i1, i2, rfl, -⟩ := ai_rc_word hv hw
      show (Nat.beq c 4 && (Nat.ble 2 i && Nat.ble i 43)) = true
      rw [k1, Nat.ble_eq_true_of_le i1, Nat.ble_eq_true_of_le i2]
      rfl
  · cases h
theorem ai_drop_in {O : ai_O} {c a b : Nat} {q : Nat × Nat × ai_h} (h1 : q ∈ O) (h2 : ¬ (q.1 = c ∧ a ≤ q.2.1 ∧ q.2.1 ≤ b)) : q ∈ ai_drop O c a b := by
  unfold ai_drop
  rw [en_flt_eq, List.mem_filter]
  refine ⟨h1, ?_⟩
  cases hb : (Nat.beq q.1 c && (Nat.ble a q.2.1 && Nat.ble q.2.1 b)) with
  | false => rfl
  | true =>
    simp only [Bool.and_eq_true] at hb
    exact absurd ⟨Nat.eq_of_beq_eq_true hb.1, Nat.le_of_ble_eq_true hb.2.1, Nat.le_of_ble_eq_true hb.2.2⟩ h2
theorem ai_drops_sub {O : ai_O} {a b : Nat} {q : Nat × Nat × ai_h} : ∀ {l : List Nat}, q ∈ ai_drops O a b l → q ∈ O ∧ ∀ k ∈ l, ¬ (q.1 = k ∧ a ≤ q.2.1 ∧ q.2.1 ≤ b)
  | [], h => ⟨h, fun k hk => by cases hk⟩
  | k :: l, h => by
    obtain ⟨h1, h2⟩ := ai_drop_mem (O := ai_drops O a b l) h
    obtain ⟨h3, h4⟩ := ai_drops_sub h1
    refine ⟨h3, fun j hj => ?_⟩
    rcases List.mem_cons.mp hj with rfl | hj
    · exact h2
    · exact h4 j hj
theorem ai_drops_mem {O : ai_O} {a b k : Nat} {q : Nat × Nat × ai_h} {l : List Nat} (h : q ∈ ai_drops O a b l) (hk : k ∈ l) : q ∈ ai_drop O k a b := by
  obtain ⟨h1, h2⟩ := ai_drops_sub h
  exact ai_drop_in h1 (h2 k hk)
theorem ai_aput_good {d : Nat} (h : ai_aput G wr d nx ls st O = some N) (hl : ai_lr ρ ls cl) (hs : ai_rvs ρ st cst) (hH : ai_Hp G wr t0 O t) : ai_good G wr ρ t0 (fun k => en_aput d nx cl cst t n sl k) t n sl N := by
  unfold ai_aput at h
  split at h
  · rename_i a q c r
    obtain ⟨v, ws, rfl, g0, hs1⟩ := ai_rvs_cons hs
    obtain ⟨v1, ws, rfl, g1, hs2⟩ := ai_rvs_cons hs1
    obtain ⟨v2, ws, rfl, g2, hs3⟩ := ai_rvs_cons hs2
    obtain ⟨m, rfl, hm⟩ := ai_ini g1
    have g2 : ai_rc c v2 := g2
    have m1 : q.1 ≤ ai_off m := hm.2.1
    have m2 : ai_off m ≤ q.2.1 := hm.2.2
    cases c1 : Nat.ble 100 c with
    | false =>
      rw [c1] at h
      dsimp only [cond] at h
      obtain ⟨c2, h⟩ := en_bif h
      rw [Bool.and_eq_true] at c2
      have d1 := Nat.le_of_ble_eq_true c2.1
      have d2 : c < 100 := Nat.not_le.mp (fun z => by rw [Nat.ble_eq_true_of_le z] at c1; cases c1)
      obtain ⟨k9, hk9, e⟩ := ai_rc_set g2 d1 d2
      subst e
      have z := ai_all_ok c2.2 k9 hk9
      unfold ai_sp1 at z
      split at z
      · rename_i g hg
        simp only [Bool.and_eq_true] at z
        obtain ⟨⟨b1, b2⟩, ⟨b3, b4⟩, b5, b6, b7⟩ := z
        have b3 : 2147483648 ≤ q.1 := Nat.le_of_ble_eq_true b3
        have b4 : q.2.1 < g.2.2.1 + 2147483648 := Nat.le_of_ble_eq_true b4
        obtain ⟨e1, e2⟩ := ai_nn hm b3
        obtain ⟨vs, k1, k2, k3⟩ := hH.1 _ _ hg
        have hi : m < vs.length := by omega
        have hP := ai_put_ok (O' := bif Nat.beq (q.1 - 2147483648) (q.2.1 - 2147483648) then (k9, q.1 - 2147483648, ai_v2h a) :: ai_drop O k9 (q.1 - 2147483648) (q.2.1 - 2147483648) else ai_drop O k9 (q.1 - 2147483648) (q.2.1 - 2147483648)) (by
          have hz : ai_frz k9 = false := by
            cases hz : ai_frz k9 with
            | false => rfl
            | true => rw [hz] at b7; cases b7
          unfold ai_put
          rw [b5, b6, hz]
          rfl) hg k1 hi (show q.1 - 2147483648 ≤ m by omega) (show m ≤ q.2.1 - 2147483648 by omega) g0 hH
        refine ai_nx_good h (cl' := cl) (cst' := ws) (t' := en_set t k9 (ai_mk g (en_upd vs m v))) (fun k => ?_) hl hs3 ⟨hP.1, fun p hp => ?_, hP.2.2⟩
        · show en_aput d nx cl (v :: .inl m :: .inr (.inr (.inl (some k9))) :: ws) t n sl k = _
          unfold en_aput
          dsimp only
          rw [k1, ai_mk_a b1, ai_mk_a b1]
          dsimp only
          rw [ai_afit_ok b2 g0, show Nat.blt m 2147483648 = true from Nat.ble_eq_true_of_le e2, en_len_eq, show Nat.blt m vs.length = true from Nat.ble_eq_true_of_le hi]
          rfl
        · have hd := ai_drops_mem hp hk9
          refine hP.2.1 p ?_
          cases Nat.beq (q.1 - 2147483648) (q.2.1 - 2147483648) with
          | true => exact List.mem_cons_of_mem _ hd
          | false => exact hd
      · cases z
    | true =>
    rw [c1] at h
    dsimp only [cond] at h
    have e := ai_rc_cell g2 (Nat.le_of_ble_eq_true c1)
    subst e
    split at h
    · rename_i g hg
      obtain ⟨h1, h⟩ := en_bif h
      simp only [Bool.and_eq_true] at h1
      obtain ⟨⟨b1, b2⟩, b3, b4⟩ := h1
      have b3 := Nat.le_of_ble_eq_true b3
      have b4 : q.2.1 < g.2.2.1 + 2147483648 := Nat.le_of_ble_eq_true b4
      obtain ⟨e1, e2⟩ := ai_nn hm b3
      split at h
      · rename_i O' hO'
        obtain ⟨vs, k1, k2, k3⟩ := hH.1 _ _ hg
        have hi : m < vs.length := by omega
        have hP := ai_put_ok hO' hg k1 hi (show q.1 - 2147483648 ≤ m by omega) (by first | decide | omega) g0 hH
        refine ai_nx_good h (cl' := cl) (cst' := ws) (t' := en_set t (c - 100) (ai_mk g (en_upd vs m v))) (fun k => ?_) hl hs3 hP
        show en_aput d nx cl (v :: .inl m :: .inr (.inr (.inl (some (c - 100)))) :: ws) t n sl k = _
        unfold en_aput
        dsimp only
        rw [k1, ai_mk_a b1, ai_mk_a b1]
        dsimp only
        rw [ai_afit_ok b2 g0, show Nat.blt m 2147483648 = true from Nat.ble_eq_true_of_le e2, en_len_eq, show Nat.blt m vs.length = true from Nat.ble_eq_true_of_le hi]
        rfl
      · cases h
    · cases h
  · cases h
theorem ai_alen_good (h : ai_alen G nx ls st O = some N) (hl : ai_lr ρ ls cl) (hs : ai_rvs ρ st cst) (hH : ai_Hp G wr t0 O t) : ai_good G wr ρ t0 (fun k => en_alen none nx cl cst t n sl k) t n sl N := by
  unfold ai_alen at h
  split at h
  · rename_i c r
    obtain ⟨v, ws, rfl, g1, hs1⟩ := ai_rvs_cons hs
    have g1 : ai_rc c v := g1
    cases c1 : Nat.ble 100 c with
    | true =>
      rw [c1] at h
      dsimp only [cond] at h
      have e := ai_rc_cell g1 (Nat.le_of_ble_eq_true c1)
      subst e
      split at h
      · rename_i g hg
        obtain ⟨h1, h⟩ := en_bif h
        simp only [Bool.and_eq_true] at h1
        obtain ⟨b1, b2, b3⟩ := h1
        have b3 : g.2.2.1 < 2147483648 := Nat.le_of_ble_eq_true b3
        obtain ⟨vs, k1, k2, k3⟩ := hH.1 _ _ hg
        have ho : ai_off vs.length = g.2.2.1 + 2147483648 := by rw [ai_off_nn (by first | decide | omega), k2]
        refine ai_nx_good h (cl' := cl) (cst' := .inl vs.length :: ws) (t' := t) (fun k => ?_) hl ⟨by rw [← ho]; exact ai_exi ρ (by first | decide | omega), hs1⟩ hH
        show en_alen none nx cl (.inr (.inr (.inl (some (c - 100)))) :: ws) t n sl k = _
        unfold en_alen
        dsimp only
        rw [k1, ai_mk_a b1]
        dsimp only
        rw [b2, en_len_eq]
        rfl
      · cases h
    | false =>
      rw [c1] at h
      dsimp only [cond] at h
      obtain ⟨c2, h⟩ := en_bif h
      have ec := Nat.eq_of_beq_eq_true c2
      subst ec
      have e := ai_rc_ext g1 (by decide) (by decide)
      subst e
      exact ai_nx_good h (cl' := cl) (cst' := .inl 42 :: ws) (t' := t) (fun k => rfl) hl ⟨ai_exi ρ (m := 42) (by decide), hs1⟩ hH
  · cases h
theorem ai_ent_ok {q : Nat × Nat × ai_h} (h : ai_ent G O q = true) (hG : ai_HG G t) (hO : ai_HO O t) : ∃ v, ai_hv t q.1 q.2.1 = some v ∧ ai_rh q.2.2 v := by
  unfold ai_ent at h
  split at h
  · rename_i h9 h8
    obtain ⟨v, k1, k2⟩ := hO _ (ai_ov_ok h8)
    exact ⟨v, k1, ai_hle_ok h k2⟩
  · split at h
    · rename_i g hg
      rw [Bool.and_eq_true] at h
      have hi : q.2.1 < g.2.2.1 := Nat.le_of_ble_eq_true h.1
      have h := h.2
      split at h
      · rename_i h9 h8
        obtain ⟨vs, k1, k2, k3⟩ := hG _ _ hg
        obtain ⟨v, hv⟩ : ∃ v, vs[q.2.1]? = some v := ⟨vs[q.2.1]'(by first | decide | omega), List.getElem?_eq_getElem _⟩
        obtain ⟨h', r1, r2⟩ := k3 _ _ hv
        cases h8.symm.trans r1
        exact ⟨v, by rw [ai_hv_mk k1]; exact hv, ai_hle_ok h r2⟩
      · cases h
    · cases h
theorem ai_find_ok {p : ai_C → Bool} {l : List ai_C} {c : ai_C} (h : ai_find p l = some c) : c ∈ l ∧ p c = true := by
  induction l with
  | nil => cases h
  | cons a l ih =>
    have h : (bif p a then some a else ai_find p l) = some c := h
    cases hp : p a with
    | true =>
      rw [hp] at h
      cases h
      exact ⟨List.mem_cons_self, hp⟩
    | false =>
      rw [hp] at h
      obtain ⟨h1, h2⟩ := ih h
      exact ⟨List.mem_cons_of_mem _ h1, h2⟩
theorem ai_still_mem {w9 : ai_W} {q : Nat × Nat × ai_h} (h : q ∈ ai_still w9 O) : q ∈ O ∧ ¬ ai_inw w9 q.1 q.2.1 := by
  unfold ai_still at h
  rw [en_flt_eq, List.mem_filter] at h
  refine ⟨h.1, fun z => ?_⟩
  have h2 := h.2
  have hx : ∀ (l : ai_W), ai_inw l q.1 q.2.1 → ai_any (fun w => Nat.beq w.1 q.1 && (Nat.ble w.2.1 q.2.1 && Nat.ble q.2.1 w.2.2)) l = true := by
    intro l
    induction l with
    | nil => rintro ⟨p, hp, -⟩; cases hp
    | cons b l ih2 =>
      rintro ⟨p, hp, e1, e2, e3⟩
      show (bif Nat.beq b.1 q.1 && (Nat.ble b.2.1 q.2.1 && Nat.ble q.2.1 b.2.2) then true else ai_any _ l) = true
      rcases List.mem_cons.mp hp with rfl | hp
      · rw [e1, Nat.beq_refl, Nat.ble_eq_true_of_le e2, Nat.ble_eq_true_of_le e3]; rfl
      · rw [ih2 ⟨p, hp, e1, e2, e3⟩]
        cases (Nat.beq b.1 q.1 && (Nat.ble b.2.1 q.2.1 && Nat.ble q.2.1 b.2.2)) <;> rfl
  rw [hx w9 z] at h2
  cases h2
theorem ai_FR.wide {w9 : ai_W} {a b : en_H} (h : ai_FR w9 a b) (hw : ∀ q ∈ w9, ai_wok wr q.1 q.2.1 q.2.2 = true) : ai_FR wr a b := fun c i hn => h c i (fun ⟨q, hq, e1, e2, e3⟩ => hn (by rw [← e1]; exact ai_wok_ok (hw q hq) e2 e3))
theorem ai_call_good {ok : List ai_v → Bool} {okc : List en_V → Bool} {mi na : Nat} (hok : ∀ as cas, ok as = true → ai_rvs ρ as cas → okc cas = true) (hcs : ∀ mi c, c ∈ cs mi → ai_cok G f mi c) (h : ai_call G cs wr ok mi na nx ls st O = some N) (hl : ai_lr ρ ls cl) (hs : ai_rvs ρ st cst) (hH : ai_Hp G wr t0 O t) : ai_good G wr ρ t0 (fun k => en_inv okc f mi na nx cl cst t n sl k) t n sl N := by
  unfold ai_call at h
  split at h
  · rename_i q hq
    obtain ⟨h1, h⟩ := en_bif h
    rw [Bool.and_eq_true] at h1
    split at h
    · rename_i c hc
      obtain ⟨c1, c2⟩ := ai_find_ok hc
      unfold ai_app at c2
      cases d1 : ai_vsle q.1 c.2.1 with
      | false => rw [d1] at c2; cases c2
      | true =>
        rw [d1] at c2
        dsimp only [cond] at c2
        cases d2 : ai_all (ai_ent G O) c.2.2.1 with
        | false => rw [d2] at c2; cases c2
        | true =>
          rw [d2] at c2
          dsimp only [cond] at c2
          have d3 := ai_all_ok c2
          obtain ⟨cas, crest, k1, k2, k3⟩ := ai_take_ok (cacc := []) na hq hs trivial
          obtain ⟨r, r1, r2, r3, r4, r5, r8, o, ho, r6, r7⟩ := hcs mi c c1 ρ cas t n (ai_vsle_ok d1 k2) hH.1 (fun p hp => ai_ent_ok (ai_all_ok d2 p hp) hH.1 hH.2.1) hH.2.2.2
          cases h
          refine ⟨nx, cl, r.1.toList ++ crest, r.2.1, fun k => ?_, _, List.mem_map.mpr ⟨o, ho, rfl⟩, rfl, hl, ?_, r4, ?_, hH.2.2.1.tr (r5.wide d3), r8⟩
          · show en_inv okc f mi na nx cl cst t n sl k = _
            unfold en_inv
            rw [k1]
            dsimp only
            rw [hok _ _ h1.1 k2, ai_sum_ok k3, h1.2, r1]
            dsimp only [Bool.and_self, cond]
            rw [r2, Nat.ble_eq_true_of_le (Nat.le_refl n), r3]
            rfl
          · refine ai_rvs_app ?_ k3
            cases e1 : o.1 with
            | none =>
              rw [e1] at r6
              cases e2 : r.1 with
              | none => exact trivial
              | some v => rw [e2] at r6; exact absurd r6 (by simp [ai_ro])
            | some a =>
              rw [e1] at r6
              cases e2 : r.1 with
              | none => rw [e2] at r6; exact absurd r6 (by simp [ai_ro])
              | some v => rw [e2] at r6; exact ⟨r6, trivial⟩
          · intro p hp
            rcases List.mem_append.mp hp with hp | hp
            · obtain ⟨p1, p2⟩ := ai_still_mem hp
              obtain ⟨v, v1, v2⟩ := hH.2.1 p p1
              exact ⟨v, by rw [r5 _ _ p2]; exact v1, v2⟩
            · exact r7 p hp
    · cases h
  · cases h
theorem ai_recv_ok {rc : Nat} {as : List ai_v} {cas : List en_V} (h : ai_recv G rc as = true) (hs : ai_rvs ρ as cas) (hG : ai_HG G t) : en_recv t rc cas = true := by
  unfold ai_recv at h
  split at h
  · rename_i c r
    rw [Bool.and_eq_true] at h
    obtain ⟨v, ws, rfl, g1, hs1⟩ := ai_rvs_cons hs
    have e := ai_rc_cell g1 (Nat.le_of_ble_eq_true h.1)
    subst e
    have h := h.2
    split at h
    · rename_i g hg
      rw [Bool.and_eq_true] at h
      obtain ⟨vs, k1, -, -⟩ := hG _ _ hg
      show (match en_get t (c - 100) with | some (.inr q) => Nat.beq q.1 rc | _ => false) = true
      rw [k1, ai_mk_o h.1]
      exact h.2
    · cases h
  · cases h
theorem ai_ret_good {d b : Nat} (h : ai_ret d b st O = some N) (hs : ai_rvs ρ st cst) (hH : ai_Hp G wr t0 O t) : ai_good G wr ρ t0 (fun _ => en_ret1 d b cst t n sl) t n sl N := by
  unfold ai_ret at h
  split at h
  · rename_i a
    obtain ⟨h1, h⟩ := en_bif h
    cases h
    obtain ⟨v, ws, rfl, g1, hs1⟩ := ai_rvs_cons hs
    have e := ai_rvs_nil hs1
    subst e
    refine ⟨some v, fun _ => ?_, g1, hH⟩
    show en_ret1 d b [v] t n sl = _
    unfold en_ret1
    dsimp only
    rw [Bool.and_eq_true] at h1
    rw [ai_rv_kd g1, h1.1]
    have h2 := h1.2
    cases c1 : Nat.beq b 1 with
    | false => rfl
    | true =>
      rw [c1] at h2
      have h2 : ai_fitk 3 a = true := h2
      rw [ai_fitk_ok h2 g1]
      rfl
  · cases h
theorem ai_ldiv_some (x y : Nat) (h : ¬ lN y = 0) : ∃ z, en_ldiv x y = some z := ⟨_, by unfold en_ldiv; rw [if_neg h]⟩
theorem ai_lrem_some (x y : Nat) (h : ¬ lN y = 0) : ∃ z, en_lrem x y = some z := ⟨_, by unfold en_lrem; rw [if_neg h]⟩
set_option maxHeartbeats 4000000 in
/-- THE ABSTRACT STEP IS SOUND -/
theorem ai_step_ok (hcs : ∀ mi c, c ∈ cs mi → ai_cok G f mi c) {pc x1 x2 : Nat} {ins : Instr} (h : ai_step G cs wr pc (ins, nx, x1, x2) ls st O = some N) (hl : ai_lr ρ ls cl) (hs : ai_rvs ρ st cst) (hH : ai_Hp G wr t0 O t) : ai_good G wr ρ t0 (fun k => en_step en_df none f pc (ins, nx, x1, x2) cl cst t n sl k) t n sl N := by
  unfold ai_step ai_disp at h
  cases ins <;> dsimp only at h
  case iconst i => exact ai_ci_good h (fun k => rfl) hl hs hH
  case bipush i => exact ai_ci_good h (fun k => rfl) hl hs hH
  case sipush i => exact ai_ci_good h (fun k => rfl) hl hs hH
  case ldc i => exact ai_ci_good h (fun k => rfl) hl hs hH
  case ldc_w i => exact ai_ci_good h (fun k => rfl) hl hs hH
  case lconst i => exact ai_nx_good h (cl' := cl) (cst' := .inr (.inl x1) :: cst) (t' := t) (fun k => rfl) hl ⟨rfl, hs⟩ hH
  case ldc2_w i => exact ai_nx_good h (cl' := cl) (cst' := .inr (.inl x1) :: cst) (t' := t) (fun k => rfl) hl ⟨rfl, hs⟩ hH
  case aconst_null => exact ai_nx_good h (cl' := cl) (cst' := .inr (.inr (.inl none)) :: cst) (t' := t) (fun k => rfl) hl ⟨Or.inl ⟨rfl, rfl⟩, hs⟩ hH
  case iload i => exact ai_load_good h hl hs hH
  case iload_n i => exact ai_load_good h hl hs hH
  case lload i => exact ai_load_good h hl hs hH
  case lload_n i => exact ai_load_good h hl hs hH
  case aload i => exact ai_load_good h hl hs hH
  case aload_n i => exact ai_load_good h hl hs hH
  case istore i => exact ai_store_good h hl hs hH
  case istore_n i => exact ai_store_good h hl hs hH
  case lstore i => exact ai_store_good h hl hs hH
  case lstore_n i => exact ai_store_good h hl hs hH
  case astore i => exact ai_store_good h hl hs hH
  case astore_n i => exact ai_store_good h hl hs hH
  case iinc i j => exact ai_iinc_good h hl hs hH
  case iadd => exact ai_bin_good ai_iadd_ok h hl hs hH
  case isub => exact ai_bin_good ai_isub_ok h hl hs hH
  case imul => exact ai_bin_good ai_imul_ok h hl hs hH
  case iand => exact ai_bin_good (ai_exo_ok ai_iand_ok) h hl hs hH
  case ior => exact ai_bin_good ai_ior_ok h hl hs hH
  case ixor => exact ai_bin_good ai_ixor_ok h hl hs hH
  case ishl => exact ai_bin_good ai_ishl_ok h hl hs hH
  case ishr => exact ai_bin_good (ai_exo_ok ai_ishr_ok) h hl hs hH
  case idiv => exact ai_bin_good ai_idiv_ok h hl hs hH
  case irem => exact ai_bin_good ai_irem_ok h hl hs hH
  case ladd => exact ai_ll_good h hl hs hH
  case lsub => exact ai_ll_good h hl hs hH
  case land => exact ai_ll_good h hl hs hH
  case lor => exact ai_ll_good h hl hs hH
  case lxor => exact ai_ll_good h hl hs hH
  case lmul => exact ai_lmul_good h hl hs hH
  case ldiv => exact ai_ldv_good ai_ldiv_some h hl hs hH
  case lrem => exact ai_ldv_good ai_lrem_some h hl hs hH
  case lshl => exact ai_li_good h hl hs hH
  case lshr => exact ai_li_good h hl hs hH
  case lushr => exact ai_li_good h hl hs hH
  case lcmp => exact ai_lcmp_good h hl hs hH
  case i2l => exact ai_i2l_good h hl hs hH
  case l2i => exact ai_l2i_good h hl hs hH
  case i2b => exact ai_i2b_good h hl hs hH
  case dup => exact ai_dup_good h hl hs hH
  case dup2 => exact ai_dup2_good h hl hs hH
  case pop => exact ai_pop_good h hl hs hH
  case pop2 => exact ai_pop2_good h hl hs hH
  case ifCond c j => exact ai_cmp1_good h hl hs hH
  case if_icmp c j => exact ai_cmp2_good h hl hs hH
  case if_acmp c j =>
    cases c with
    | eq => exact ai_acmp_good (neg := false) h hl hs hH
    | ne => exact ai_acmp_good (neg := true) h hl hs hH
  case ifnull j => exact ai_ifnull_good h hl hs hH
  case goto j => exact ai_nx_good h (cl' := cl) (cst' := cst) (t' := t) (fun k => rfl) hl hs hH
  case tableswitch d lo hi os => exact ai_switch_good h hl hs hH
  case getfield i => exact ai_getf_good h hl hs hH
  case putfield i => exact ai_putf_good h hl hs hH
  case getstatic i =>
    obtain ⟨h1, h⟩ := en_bif h
    exact ai_nx_good h (cl' := cl) (cst' := .inr (.inr (.inr (.inl (x1 + 1)))) :: cst) (t' := t) (fun k => rfl) hl ⟨Or.inr (Or.inr (Or.inl ⟨x1, rfl, Nat.le_of_ble_eq_true h1, rfl⟩)), hs⟩ hH
  case arraylength => exact ai_alen_good h hl hs hH
  case iaload => exact ai_aget_good h hl hs hH
  case laload => exact ai_aget_good h hl hs hH
  case baload => exact ai_aget_good h hl hs hH
  case aaload => exact ai_aget_good h hl hs hH
  case iastore => exact ai_aput_good h hl hs hH
  case lastore => exact ai_aput_good h hl hs hH
  case bastore => exact ai_aput_good h hl hs hH
  case aastore => exact ai_aput_good h hl hs hH
  case invokestatic i =>
    show ai_good G wr ρ t0 (fun k => bif Nat.beq x1 9991 then en_mm (en_ii en_imax) nx cl cst t n sl k else bif Nat.beq x1 9992 then en_mm (en_ii en_imin) nx cl cst t n sl k else en_inv (fun _ => true) f x1 x2 nx cl cst t n sl k) t n sl N
    cases c1 : Nat.beq x1 9991 with
    | true =>
      rw [c1] at h
      exact ai_mm_good ai_imax_ok h hl hs hH
    | false =>
      rw [c1] at h
      dsimp only [cond] at h ⊢
      cases c2 : Nat.beq x1 9992 with
      | true =>
        rw [c2] at h
        exact ai_mm_good ai_imin_ok h hl hs hH
      | false =>
        rw [c2] at h
        exact ai_call_good (okc := fun _ => true) (fun _ _ _ _ => rfl) hcs h hl hs hH
  case invokevirtual i => exact ai_call_good (okc := en_recv t (x2 / 16)) (fun as cas h1 h2 => ai_recv_ok h1 h2 hH.1) hcs h hl hs hH
  case return_ =>
    cases st with
    | nil =>
      cases h
      have e := ai_rvs_nil hs
      subst e
      exact ⟨none, fun k => rfl, trivial, hH⟩
    | cons a r => cases h
  case ireturn => exact ai_ret_good h hs hH
  case lreturn => exact ai_ret_good h hs hH
  case areturn => exact ai_ret_good h hs hH
  all_goals cases h
end AI7
