section SSX
/-- the told world, with what is never told twice and lies in the grid -/
noncomputable def SPXk (q : Nat) (t : en_H) : Prop := ai_hv t 0 10 = some (gx_r q) ∧ ∃ w L, RW t w L ∧ CW t q w L ∧ CX t q w ∧ (∀ i j, i < w 0 4 → j < w 0 4 → w 3 i = w 3 j → i = j) ∧ ∀ i, i < w 0 2 → inG (w 0 0) (w 0 1) (w 6 i) = true
noncomputable def SPX (t : en_H) : Prop := SPXk 191 t ∨ SPXk 257 t
theorem SPX_SP {q : Nat} {t : en_H} (h : SPXk q t) : SPk q t := by
  obtain ⟨h1, w, L, h2, h3, h4, -⟩ := h
  exact ⟨h1, w, L, h2, h3, h4⟩
/-- the crew of a thing: the last of the first k whose ship it is -/
noncomputable def cra (w : Nat → Nat → Nat) (x : Nat) : Nat → Nat
  | 0 => 4294967295
  | k + 1 => if w 3 k = x then k else cra w x k
theorem cra_y {w : Nat → Nat → Nat} {x k : Nat} (h : w 3 k = x) : cra w x (k + 1) = k := if_pos h
theorem cra_n {w : Nat → Nat → Nat} {x k : Nat} (h : ¬ w 3 k = x) : cra w x (k + 1) = cra w x k := if_neg h
theorem cra_no {w : Nat → Nat → Nat} {x : Nat} : ∀ K, (∀ i, i < K → ¬ w 3 i = x) → cra w x K = 4294967295
  | 0, _ => rfl
  | K + 1, h => by
    rw [cra_n (h K (Nat.lt_succ_self K))]
    exact cra_no K (fun i hi => h i (Nat.lt_succ_of_lt hi))
theorem cra_at {w : Nat → Nat → Nat} {x k : Nat} (h : w 3 k = x) : ∀ K, k < K → (∀ i j, i < K → j < K → w 3 i = w 3 j → i = j) → cra w x K = k
  | 0, hk, _ => absurd hk (Nat.not_lt_zero k)
  | K + 1, hk, hi => by
    by_cases c : k = K
    · rw [← c]; exact cra_y h
    · rw [cra_n (fun z => c (hi k K hk (Nat.lt_succ_self K) (h.trans z.symm)))]
      exact cra_at h K (by first | decide | omega) (fun i j a b => hi i j (Nat.lt_succ_of_lt a) (Nat.lt_succ_of_lt b))
theorem cra_lt {w : Nat → Nat → Nat} {x : Nat} : ∀ {K}, K ≤ 2 → cra w x K < 4294967296
  | 0, _ => by show 4294967295 < _; decide
  | K + 1, h => by
    by_cases c : w 3 K = x
    · rw [cra_y c]; omega
    · rw [cra_n c]; exact cra_lt (by first | decide | omega)
noncomputable def tha (w : Nat → Nat → Nat) (σ : Nat → Nat) (x y : Nat) : Nat := if y = 0 then w 5 x else if y = 1 then σ (1 + x) % 8 else if y = 2 then σ (1 + x) / 8 else cra w x (w 0 4)
noncomputable def cwa (w : Nat → Nat → Nat) (σ : Nat → Nat) (x y : Nat) : Nat := if y = 0 then w 3 x else if y = 1 then w 2 x else if y = 2 then σ (7 + x) else if y = 3 then σ (9 + x) else if y = 4 then σ (11 + x) else if y = 5 then slp w σ x % 8 else if y = 6 then slp w σ x / 8 else σ (15 + x)
theorem co_l191 (d n : Nat) {t0 : en_H} {w : Nat → Nat → Nat} {L : List Nat} {x : Nat} {Q : en_O → Prop} (g0 : ai_HG ah_G t0) (hC : CW t0 191 w L) (hw : WS w) (hi : ∀ i j, i < w 0 4 → j < w 0 4 → w 3 i = w 3 j → i = j) (hx : x ≤ 6) (hQ : Q (.inl (some (.inl (cra w x (w 0 4))), t0, n, 0))) : ∀ j k cl, k + j = w 0 4 → (∀ i, i < k → ¬ w 3 i = x) → en_ld cl 0 = some (gx_r 191) → en_ld cl 1 = some (.inl x) → en_ld cl 2 = some (.inl k) → en_ex none (en_u d) (en_code 171) (fun _ => false) (2, cl, [], t0, n, 0) Q := by
  have hK := hw.1.2.2.2.2.1
  have hT := hw.1.2.2.1
  have kK := hC.1.2.2.2.2.2
  intro j
  induction j with
  | zero =>
    intro k cl hk hn l0 l1 l2
    have hk : k = w 0 4 := by omega
    rw [hk] at hn
    rw [cra_no _ hn] at hQ
    refine gx_ld (i := 2) (d := 0) (v := .inl k) rfl (fun _ => rfl) l2 rfl rfl ?_
    refine gx_ld (i := 0) (d := 2) (v := gx_r 191) rfl (fun _ => rfl) l0 rfl rfl ?_
    refine gxo_ref (a := 191) (c := 206) rfl g0 rfl rfl rfl rfl rfl ?_
    refine gxo_get (a := 206) rfl g0 rfl rfl kK rfl ?_
    refine gx_2t (c := .ge) rfl (by first | decide | omega) (by first | decide | omega) (show w 0 4 ≤ k from by omega) rfl ?_
    refine ex_go (S := (35, cl, [.inl 4294967295], t0, n, 0)) rfl (fun _ => rfl) rfl ?_
    refine ex_ret (r := (some (.inl 4294967295), t0, n, 0)) rfl (fun _ => rfl) ?_
    exact hQ
  | succ j ih =>
    intro k cl hk hn l0 l1 l2
    have kp := (hC.2.2.1 k (by first | decide | omega)).1
    have hsh := (hw.2.1 k (by first | decide | omega)).1
    refine gx_ld (i := 2) (d := 0) (v := .inl k) rfl (fun _ => rfl) l2 rfl rfl ?_
    refine gx_ld (i := 0) (d := 2) (v := gx_r 191) rfl (fun _ => rfl) l0 rfl rfl ?_
    refine gxo_ref (a := 191) (c := 206) rfl g0 rfl rfl rfl rfl rfl ?_
    refine gxo_get (a := 206) rfl g0 rfl rfl kK rfl ?_
    refine gx_2f (c := .ge) rfl (by first | decide | omega) (by first | decide | omega) (show ¬ (w 0 4 ≤ k) from by omega) rfl ?_
    refine gx_ld (i := 0) (d := 2) (v := gx_r 191) rfl (fun _ => rfl) l0 rfl rfl ?_
    refine gxo_ref (a := 191) (c := 206) rfl g0 rfl rfl rfl rfl rfl ?_
    refine gxo_ref (a := 206) (c := 208) rfl g0 rfl rfl rfl rfl rfl ?_
    refine gx_ld (i := 2) (d := 0) (v := .inl k) rfl (fun _ => rfl) l2 rfl rfl ?_
    refine gx_ag (v := .inl (w 3 k)) (cb := fun c => Nat.beq c 0) rfl (fun _ => rfl) g0 rfl rfl kp (by first | decide | omega) rfl ?_
    refine gx_ld (i := 1) (d := 0) (v := .inl x) rfl (fun _ => rfl) l1 rfl rfl ?_
    by_cases hc21 : w 3 k ≠ x
    · refine gx_2t (c := .ne) rfl (by first | decide | omega) (by first | decide | omega) hc21 rfl ?_
      refine gx_incS (i := 2) (a := k) (x := 1) rfl (fun _ => rfl) l2 (by first | decide | omega) rfl (fun l22 hl22 ml22 => ?_)
      have l22_0 : en_ld l22 0 = some (gx_r 191) := ml22 0 _ l0 rfl
      have l22_1 : en_ld l22 1 = some (.inl x) := ml22 1 _ l1 rfl
      refine ex_go (S := (2, l22, [], t0, n, 0)) rfl (fun _ => rfl) rfl ?_
      exact ih (k + 1) _ (by first | decide | omega) (fun i hi9 => by
        by_cases e9 : i = k
        · rw [e9]; omega
        · exact hn i (by first | decide | omega)) l22_0 l22_1 hl22
    · refine gx_2f (c := .ne) rfl (by first | decide | omega) (by first | decide | omega) hc21 rfl ?_
      refine gx_ld (i := 2) (d := 0) (v := .inl k) rfl (fun _ => rfl) l2 rfl rfl ?_
      refine ex_ret (r := (some (.inl k), t0, n, 0)) rfl (fun _ => rfl) ?_
      rw [cra_at (k := k) (by first | decide | omega) (w 0 4) (by first | decide | omega) hi] at hQ
      exact hQ
theorem sc_crewOf191 (d n : Nat) {t0 : en_H} {w : Nat → Nat → Nat} {L : List Nat} {x : Nat} (g0 : ai_HG ah_G t0) (hC : CW t0 191 w L) (hw : WS w) (hi : ∀ i j, i < w 0 4 → j < w 0 4 → w 3 i = w 3 j → i = j) (hx : x ≤ 6) : ∃ r, en_u (d + 1) 171 [gx_r 191, .inl x] t0 n = some r ∧ r = (some (.inl (cra w x (w 0 4))), t0, n, 0) := by
  refine en_u_ex rfl ?_
  show en_ex _ _ _ _ (0, [(0, gx_r 191), (1, .inl x)], [], t0, n, 0) _
  refine ex_go (S := (1, [(0, gx_r 191), (1, .inl x)], [.inl 0], t0, n, 0)) rfl (fun _ => rfl) rfl ?_
  refine ex_go (S := (2, [(2, .inl 0), (0, gx_r 191), (1, .inl x)], [], t0, n, 0)) rfl (fun _ => rfl) rfl ?_
  exact co_l191 d n g0 hC hw hi hx ⟨_, rfl, rfl⟩ (w 0 4) 0 _ (by first | decide | omega) (fun i h => absurd h (Nat.not_lt_zero i)) rfl rfl rfl
theorem co_l257 (d n : Nat) {t0 : en_H} {w : Nat → Nat → Nat} {L : List Nat} {x : Nat} {Q : en_O → Prop} (g0 : ai_HG ah_G t0) (hC : CW t0 257 w L) (hw : WS w) (hi : ∀ i j, i < w 0 4 → j < w 0 4 → w 3 i = w 3 j → i = j) (hx : x ≤ 6) (hQ : Q (.inl (some (.inl (cra w x (w 0 4))), t0, n, 0))) : ∀ j k cl, k + j = w 0 4 → (∀ i, i < k → ¬ w 3 i = x) → en_ld cl 0 = some (gx_r 257) → en_ld cl 1 = some (.inl x) → en_ld cl 2 = some (.inl k) → en_ex none (en_u d) (en_code 171) (fun _ => false) (2, cl, [], t0, n, 0) Q := by
  have hK := hw.1.2.2.2.2.1
  have hT := hw.1.2.2.1
  have kK := hC.1.2.2.2.2.2
  intro j
  induction j with
  | zero =>
    intro k cl hk hn l0 l1 l2
    have hk : k = w 0 4 := by omega
    rw [hk] at hn
    rw [cra_no _ hn] at hQ
    refine gx_ld (i := 2) (d := 0) (v := .inl k) rfl (fun _ => rfl) l2 rfl rfl ?_
    refine gx_ld (i := 0) (d := 2) (v := gx_r 257) rfl (fun _ => rfl) l0 rfl rfl ?_
    refine gxo_ref (a := 257) (c := 272) rfl g0 rfl rfl rfl rfl rfl ?_
    refine gxo_get (a := 272) rfl g0 rfl rfl kK rfl ?_
    refine gx_2t (c := .ge) rfl (by first | decide | omega) (by first | decide | omega) (show w 0 4 ≤ k from by omega) rfl ?_
    refine ex_go (S := (35, cl, [.inl 4294967295], t0, n, 0)) rfl (fun _ => rfl) rfl ?_
    refine ex_ret (r := (some (.inl 4294967295), t0, n, 0)) rfl (fun _ => rfl) ?_
    exact hQ
  | succ j ih =>
    intro k cl hk hn l0 l1 l2
    have kp := (hC.2.2.1 k (by first | decide | omega)).1
    have hsh := (hw.2.1 k (by first | decide | omega)).1
    refine gx_ld (i := 2) (d := 0) (v := .inl k) rfl (fun _ => rfl) l2 rfl rfl ?_
    refine gx_ld (i := 0) (d := 2) (v := gx_r 257) rfl (fun _ => rfl) l0 rfl rfl ?_
    refine gxo_ref (a := 257) (c := 272) rfl g0 rfl rfl rfl rfl rfl ?_
    refine gxo_get (a := 272) rfl g0 rfl rfl kK rfl ?_
    refine gx_2f (c := .ge) rfl (by first | decide | omega) (by first | decide | omega) (show ¬ (w 0 4 ≤ k) from by omega) rfl ?_
    refine gx_ld (i := 0) (d := 2) (v := gx_r 257) rfl (fun _ => rfl) l0 rfl rfl ?_
    refine gxo_ref (a := 257) (c := 272) rfl g0 rfl rfl rfl rfl rfl ?_
    refine gxo_ref (a := 272) (c := 274) rfl g0 rfl rfl rfl rfl rfl ?_
    refine gx_ld (i := 2) (d := 0) (v := .inl k) rfl (fun _ => rfl) l2 rfl rfl ?_
    refine gx_ag (v := .inl (w 3 k)) (cb := fun c => Nat.beq c 0) rfl (fun _ => rfl) g0 rfl rfl kp (by first | decide | omega) rfl ?_
    refine gx_ld (i := 1) (d := 0) (v := .inl x) rfl (fun _ => rfl) l1 rfl rfl ?_
    by_cases hc21 : w 3 k ≠ x
    · refine gx_2t (c := .ne) rfl (by first | decide | omega) (by first | decide | omega) hc21 rfl ?_
      refine gx_incS (i := 2) (a := k) (x := 1) rfl (fun _ => rfl) l2 (by first | decide | omega) rfl (fun l22 hl22 ml22 => ?_)
      have l22_0 : en_ld l22 0 = some (gx_r 257) := ml22 0 _ l0 rfl
      have l22_1 : en_ld l22 1 = some (.inl x) := ml22 1 _ l1 rfl
      refine ex_go (S := (2, l22, [], t0, n, 0)) rfl (fun _ => rfl) rfl ?_
      exact ih (k + 1) _ (by first | decide | omega) (fun i hi9 => by
        by_cases e9 : i = k
        · rw [e9]; omega
        · exact hn i (by first | decide | omega)) l22_0 l22_1 hl22
    · refine gx_2f (c := .ne) rfl (by first | decide | omega) (by first | decide | omega) hc21 rfl ?_
      refine gx_ld (i := 2) (d := 0) (v := .inl k) rfl (fun _ => rfl) l2 rfl rfl ?_
      refine ex_ret (r := (some (.inl k), t0, n, 0)) rfl (fun _ => rfl) ?_
      rw [cra_at (k := k) (by first | decide | omega) (w 0 4) (by first | decide | omega) hi] at hQ
      exact hQ
theorem sc_crewOf257 (d n : Nat) {t0 : en_H} {w : Nat → Nat → Nat} {L : List Nat} {x : Nat} (g0 : ai_HG ah_G t0) (hC : CW t0 257 w L) (hw : WS w) (hi : ∀ i j, i < w 0 4 → j < w 0 4 → w 3 i = w 3 j → i = j) (hx : x ≤ 6) : ∃ r, en_u (d + 1) 171 [gx_r 257, .inl x] t0 n = some r ∧ r = (some (.inl (cra w x (w 0 4))), t0, n, 0) := by
  refine en_u_ex rfl ?_
  show en_ex _ _ _ _ (0, [(0, gx_r 257), (1, .inl x)], [], t0, n, 0) _
  refine ex_go (S := (1, [(0, gx_r 257), (1, .inl x)], [.inl 0], t0, n, 0)) rfl (fun _ => rfl) rfl ?_
  refine ex_go (S := (2, [(2, .inl 0), (0, gx_r 257), (1, .inl x)], [], t0, n, 0)) rfl (fun _ => rfl) rfl ?_
  exact co_l257 d n g0 hC hw hi hx ⟨_, rfl, rfl⟩ (w 0 4) 0 _ (by first | decide | omega) (fun i h => absurd h (Nat.not_lt_zero i)) rfl rfl rfl
theorem ca_l (d n : Nat) {t0 : en_H} {w : Nat → Nat → Nat} {L : List Nat} {x : Nat} {Q : en_O → Prop} (g0 : ai_HG ah_G t0) (hR : RW t0 w L) (hx : x ≤ 6) (hQ : Q (.inl (some (.inl (cra w x (w 0 4))), t0, n, 0))) : ∀ j k cl, k + j = w 0 4 → en_ld cl 0 = some (gx_r 383) → en_ld cl 1 = some (.inl x) → en_ld cl 2 = some (.inl (cra w x k)) → en_ld cl 3 = some (.inl k) → en_ex none (en_u (d + 1)) (en_code 111) (fun _ => false) (4, cl, [], t0, n, 0) Q := by
  have hK := hR.2.1.2.2.2.2.1
  have hT := hR.2.1.2.2.1
  intro j
  induction j with
  | zero =>
    intro k cl hk l0 l1 l2 l3
    have hk : k = w 0 4 := by omega
    rw [hk] at l2
    refine gx_ld (i := 3) (d := 0) (v := .inl k) rfl (fun _ => rfl) l3 rfl rfl ?_
    refine gx_ld (i := 0) (d := 2) (v := gx_r 383) rfl (fun _ => rfl) l0 rfl rfl ?_
    obtain ⟨_, r21, rfl⟩ := sr_crews d n g0 (hR.1 4 (by decide))
    refine gx_call1 rfl rfl g0 rfl rfl r21 rfl ?_
    show en_ex _ _ _ _ (9, cl, [.inl (w 0 4), .inl k], t0, n, 0) _
    refine gx_2t (c := .ge) rfl (by first | decide | omega) (by first | decide | omega) (show w 0 4 ≤ k from by omega) rfl ?_
    refine gx_ld (i := 2) (d := 0) (v := .inl (cra w x (w 0 4))) rfl (fun _ => rfl) l2 rfl rfl ?_
    refine ex_ret (r := (some (.inl (cra w x (w 0 4))), t0, n, 0)) rfl (fun _ => rfl) ?_
    exact hQ
  | succ j ih =>
    intro k cl hk l0 l1 l2 l3
    have kp := (hR.2.2.2.1 k (by first | decide | omega)).1
    have hsh := (hR.2.2.2.1 k (by first | decide | omega)).2.1
    refine gx_ld (i := 3) (d := 0) (v := .inl k) rfl (fun _ => rfl) l3 rfl rfl ?_
    refine gx_ld (i := 0) (d := 2) (v := gx_r 383) rfl (fun _ => rfl) l0 rfl rfl ?_
    obtain ⟨_, r21, rfl⟩ := sr_crews d n g0 (hR.1 4 (by decide))
    refine gx_call1 rfl rfl g0 rfl rfl r21 rfl ?_
    show en_ex _ _ _ _ (9, cl, [.inl (w 0 4), .inl k], t0, n, 0) _
    refine gx_2f (c := .ge) rfl (by first | decide | omega) (by first | decide | omega) (show ¬ (w 0 4 ≤ k) from by omega) rfl ?_
    refine gx_ld (i := 0) (d := 2) (v := gx_r 383) rfl (fun _ => rfl) l0 rfl rfl ?_
    refine gx_ld (i := 3) (d := 0) (v := .inl k) rfl (fun _ => rfl) l3 rfl rfl ?_
    refine ex_go (S := (15, cl, [.inl 0, .inl k, gx_r 383], t0, n, 0)) rfl (fun _ => rfl) rfl ?_
    obtain ⟨_, r22, rfl⟩ := pe_crewOf d n (c := k) (w := 0) g0 (by first | decide | omega) (by first | decide | omega) kp
    refine gx_call1 rfl rfl g0 rfl rfl r22 rfl ?_
    show en_ex _ _ _ _ (18, cl, [.inl (w 3 k)], t0, n, 0) _
    refine gx_ld (i := 1) (d := 0) (v := .inl x) rfl (fun _ => rfl) l1 rfl rfl ?_
    by_cases hc23 : w 3 k ≠ x
    · refine gx_2t (c := .ne) rfl (by first | decide | omega) (by first | decide | omega) hc23 rfl ?_
      refine gx_ld (i := 2) (d := 0) (v := .inl (cra w x k)) rfl (fun _ => rfl) l2 rfl rfl ?_
      refine gx_sto (i := 2) (d := 0) rfl (fun _ => rfl) rfl rfl (fun l24 hl24 ml24 => ?_)
      have l24_0 : en_ld l24 0 = some (gx_r 383) := ml24 0 _ l0 rfl
      have l24_1 : en_ld l24 1 = some (.inl x) := ml24 1 _ l1 rfl
      have l24_3 : en_ld l24 3 = some (.inl k) := ml24 3 _ l3 rfl
      refine gx_incS (i := 3) (a := k) (x := 1) rfl (fun _ => rfl) l24_3 (by first | decide | omega) rfl (fun l25 hl25 ml25 => ?_)
      have l25_0 : en_ld l25 0 = some (gx_r 383) := ml25 0 _ l24_0 rfl
      have l25_1 : en_ld l25 1 = some (.inl x) := ml25 1 _ l24_1 rfl
      have l25_2 : en_ld l25 2 = some (.inl (cra w x k)) := ml25 2 _ hl24 rfl
      refine ex_go (S := (4, l25, [], t0, n, 0)) rfl (fun _ => rfl) rfl ?_
      exact ih (k + 1) _ (by first | decide | omega) l25_0 l25_1 (by rw [cra_n (by first | decide | omega)]; exact l25_2) hl25
    · refine gx_2f (c := .ne) rfl (by first | decide | omega) (by first | decide | omega) hc23 rfl ?_
      refine gx_ld (i := 3) (d := 0) (v := .inl k) rfl (fun _ => rfl) l3 rfl rfl ?_
      refine ex_go (S := (27, cl, [.inl k], t0, n, 0)) rfl (fun _ => rfl) rfl ?_
      refine gx_sto (i := 2) (d := 0) rfl (fun _ => rfl) rfl rfl (fun l26 hl26 ml26 => ?_)
      have l26_0 : en_ld l26 0 = some (gx_r 383) := ml26 0 _ l0 rfl
      have l26_1 : en_ld l26 1 = some (.inl x) := ml26 1 _ l1 rfl
      have l26_3 : en_ld l26 3 = some (.inl k) := ml26 3 _ l3 rfl
      refine gx_incS (i := 3) (a := k) (x := 1) rfl (fun _ => rfl) l26_3 (by first | decide | omega) rfl (fun l27 hl27 ml27 => ?_)
      have l27_0 : en_ld l27 0 = some (gx_r 383) := ml27 0 _ l26_0 rfl
      have l27_1 : en_ld l27 1 = some (.inl x) := ml27 1 _ l26_1 rfl
      have l27_2 : en_ld l27 2 = some (.inl k) := ml27 2 _ hl26 rfl
      refine ex_go (S := (4, l27, [], t0, n, 0)) rfl (fun _ => rfl) rfl ?_
      exact ih (k + 1) _ (by first | decide | omega) l27_0 l27_1 (by rw [cra_y (by first | decide | omega)]; exact l27_2) hl27
theorem sr_crewAt (d n : Nat) {t0 : en_H} {w : Nat → Nat → Nat} {L : List Nat} {x : Nat} (g0 : ai_HG ah_G t0) (hR : RW t0 w L) (hx : x ≤ 6) : ∃ r, en_u (d + 2) 111 [gx_r 383, .inl x] t0 n = some r ∧ r = (some (.inl (cra w x (w 0 4))), t0, n, 0) := by
  refine en_u_ex (d := d + 1) rfl ?_
  show en_ex _ _ _ _ (0, [(0, gx_r 383), (1, .inl x)], [], t0, n, 0) _
  refine ex_go (S := (1, [(0, gx_r 383), (1, .inl x)], [.inl 4294967295], t0, n, 0)) rfl (fun _ => rfl) rfl ?_
  refine ex_go (S := (2, [(2, .inl 4294967295), (0, gx_r 383), (1, .inl x)], [], t0, n, 0)) rfl (fun _ => rfl) rfl ?_
  refine ex_go (S := (3, [(2, .inl 4294967295), (0, gx_r 383), (1, .inl x)], [.inl 0], t0, n, 0)) rfl (fun _ => rfl) rfl ?_
  refine ex_go (S := (4, [(3, .inl 0), (2, .inl 4294967295), (0, gx_r 383), (1, .inl x)], [], t0, n, 0)) rfl (fun _ => rfl) rfl ?_
  exact ca_l d n g0 hR hx ⟨_, rfl, rfl⟩ (w 0 4) 0 _ (by first | decide | omega) rfl rfl rfl rfl
theorem sc_sled8_191 (d n : Nat) {t0 : en_H} {w : Nat → Nat → Nat} {L : List Nat} {σ : Nat → Nat} {c : Nat} (g0 : ai_HG ah_G t0) (hC : CW t0 191 w L) (hw : WS w) (hb : sbd σ) (hS : SC t0 8 (w 0 2) (w 0 4) σ) (hc : c < w 0 4) : ∃ r, en_u (d + 1) 172 [gx_r 8, gx_r 191, .inl c] t0 n = some r ∧ r = (some (.inl (slp w σ c)), t0, n, 0) := by
  have hK := hw.1.2.2.2.2.1
  rcases (show c = 0 ∨ c = 1 by omega) with rfl | rfl
  · exact sc_sled8_191_0 d n g0 hC hw hb hS hc
  · exact sc_sled8_191_1 d n g0 hC hw hb hS hc
theorem sc_sled8_257 (d n : Nat) {t0 : en_H} {w : Nat → Nat → Nat} {L : List Nat} {σ : Nat → Nat} {c : Nat} (g0 : ai_HG ah_G t0) (hC : CW t0 257 w L) (hw : WS w) (hb : sbd σ) (hS : SC t0 8 (w 0 2) (w 0 4) σ) (hc : c < w 0 4) : ∃ r, en_u (d + 1) 172 [gx_r 8, gx_r 257, .inl c] t0 n = some r ∧ r = (some (.inl (slp w σ c)), t0, n, 0) := by
  have hK := hw.1.2.2.2.2.1
  rcases (show c = 0 ∨ c = 1 by omega) with rfl | rfl
  · exact sc_sled8_257_0 d n g0 hC hw hb hS hc
  · exact sc_sled8_257_1 d n g0 hC hw hb hS hc
theorem sr_sled0 (d n : Nat) {t0 : en_H} {w : Nat → Nat → Nat} {L : List Nat} {σ : Nat → Nat} {c : Nat} (g0 : ai_HG ah_G t0) (hR : RW t0 w L) (hb : sbd σ) (hσ : blk t0 0 σ) (hc : c < w 0 4) : ∃ r, en_u (d + 2) 113 [gx_r 383, .inl 0, .inl c] t0 n = some r ∧ r = (some (.inl (slp w σ c)), t0, n, 0) := by
  have hK := hR.2.1.2.2.2.2.1
  rcases (show c = 0 ∨ c = 1 by omega) with rfl | rfl
  · exact sr_sled0_0 d n g0 hR hb hσ hc
  · exact sr_sled0_1 d n g0 hR hb hσ hc
theorem slp_lt9 {w : Nat → Nat → Nat} {σ : Nat → Nat} {c : Nat} (hw : WS w) (hb : sbd σ) (hc : c < w 0 4) : slp w σ c < 64 := by
  have hK := hw.1.2.2.2.2.1
  have hT := hw.1.2.2.1
  have hs := (hw.2.1 c hc).1
  have h1 := hb.1 (w 3 c) (by first | decide | omega)
  have h2 : σ (13 + c) ≤ 63 := by
    rcases (show c = 0 ∨ c = 1 by omega) with rfl | rfl
    · exact hb.2.2.2.1.1
    · exact hb.2.2.2.1.2
  unfold slp
  split <;> omega
theorem sc_thing191 (d n : Nat) {t0 : en_H} {w : Nat → Nat → Nat} {L : List Nat} {σ : Nat → Nat} {x y : Nat} (g0 : ai_HG ah_G t0) (hC : CW t0 191 w L) (hw : WS w) (k10 : ai_hv t0 0 10 = some (gx_r 191)) (hS : SC t0 8 (w 0 2) (w 0 4) σ) (hb : sbd σ) (hi : ∀ i j, i < w 0 4 → j < w 0 4 → w 3 i = w 3 j → i = j) (hx : x < w 0 2) (hy : y ≤ 3) : ∃ r, en_u (d + 3) 87 [gx_r 0, .inl x, .inl y] t0 n = some r ∧ r = (some (.inl (tha w σ x y)), t0, n, 0) := by
  have hT := hw.1.2.2.1
  have hK := hw.1.2.2.2.2.1
  refine en_u_ex (d := d + 2) rfl ?_
  show en_ex _ _ _ _ (0, [(0, gx_r 0), (1, .inl x), (2, .inl y)], [], t0, n, 0) _
  refine ex_go (S := (1, [(0, gx_r 0), (1, .inl x), (2, .inl y)], [gx_r 0], t0, n, 0)) rfl (fun _ => rfl) rfl ?_
  refine gxo_get (a := 0) rfl g0 rfl rfl k10 rfl ?_
  refine gxo_ref (a := 191) (c := 194) rfl g0 rfl rfl rfl rfl rfl ?_
  refine ex_go (S := (8, [(0, gx_r 0), (1, .inl x), (2, .inl y)], [.inl x, gx_r 194], t0, n, 0)) rfl (fun _ => rfl) rfl ?_
  obtain ⟨_, r121, b121, rfl, hb121, hi121⟩ := pz_holds194 (d + 1) n (x := x) (K := w 0 2) g0 (by first | decide | omega) hC.1.2.2.2.1 (by first | decide | omega)
  refine gx_callo (a := 194) rfl rfl g0 rfl rfl rfl r121 rfl ?_
  show en_ex _ _ _ _ (11, [(0, gx_r 0), (1, .inl x), (2, .inl y)], [.inl b121], t0, n, 0) _
  refine gx_1f (c := .eq) rfl (by first | decide | omega) (show ¬ (b121 = 0) from by omega) rfl ?_
  refine ex_go (S := (15, [(0, gx_r 0), (1, .inl x), (2, .inl y)], [.inl y], t0, n, 0)) rfl (fun _ => rfl) rfl ?_
  refine ex_go (S := (16, [(0, gx_r 0), (1, .inl x), (2, .inl y)], [.inl 0, .inl y], t0, n, 0)) rfl (fun _ => rfl) rfl ?_
  refine ex_go (S := (17, [(0, gx_r 0), (1, .inl x), (2, .inl y)], [.inl 3, .inl 0, .inl y], t0, n, 0)) rfl (fun _ => rfl) rfl ?_
  obtain ⟨_, r22, b23, rfl, b23b, q24⟩ := pz_isWithin (d + 1) n (t0 := t0) (x := y) (lo := 0) (hi := 3) (by first | decide | omega) (by first | decide | omega) (by first | decide | omega)
  refine ex_stat rfl rfl rfl rfl rfl r22 (Nat.le_refl _) rfl ?_
  show en_ex _ _ _ _ (20, [(0, gx_r 0), (1, .inl x), (2, .inl y)], [.inl b23], t0, n, 0) _
  refine gx_1t (c := .ne) rfl (by first | decide | omega) (show b23 ≠ 0 from by omega) rfl ?_
  rcases (show y = 0 ∨ y = 1 ∨ y = 2 ∨ y = 3 by omega) with rfl | rfl | rfl | rfl
  · show en_ex _ _ _ _ (33, [(0, gx_r 0), (1, .inl x), (2, .inl 0)], [], t0, n, 0) _
    refine ex_go (S := (34, [(0, gx_r 0), (1, .inl x), (2, .inl 0)], [.inl 0], t0, n, 0)) rfl (fun _ => rfl) rfl ?_
    refine ex_go (S := (37, [(0, gx_r 0), (1, .inl x), (2, .inl 0)], [], t0, n, 0)) rfl (fun _ => rfl) rfl ?_
    refine ex_go (S := (38, [(0, gx_r 0), (1, .inl x), (2, .inl 0)], [gx_r 0], t0, n, 0)) rfl (fun _ => rfl) rfl ?_
    refine gxo_get (a := 0) rfl g0 rfl rfl k10 rfl ?_
    refine gxo_ref (a := 191) (c := 194) rfl g0 rfl rfl rfl rfl rfl ?_
    refine gxo_ref (a := 194) (c := 196) rfl g0 rfl rfl rfl rfl rfl ?_
    refine ex_go (S := (48, [(0, gx_r 0), (1, .inl x), (2, .inl 0)], [.inl x, gx_r 196], t0, n, 0)) rfl (fun _ => rfl) rfl ?_
    refine gx_ag (v := .inl (w 5 x)) (cb := fun c => Nat.beq c 0) rfl (fun _ => rfl) g0 rfl rfl (hC.2.2.2.1 x (by first | decide | omega)).1 (by first | decide | omega) rfl ?_
    refine ex_ret (r := (some (.inl (w 5 x)), t0, n, 0)) rfl (fun _ => rfl) ?_
    exact ⟨_, rfl, by unfold tha; rw [if_pos rfl]⟩
  · show en_ex _ _ _ _ (33, [(0, gx_r 0), (1, .inl x), (2, .inl 1)], [], t0, n, 0) _
    refine ex_go (S := (34, [(0, gx_r 0), (1, .inl x), (2, .inl 1)], [.inl 1], t0, n, 0)) rfl (fun _ => rfl) rfl ?_
    refine ex_go (S := (50, [(0, gx_r 0), (1, .inl x), (2, .inl 1)], [], t0, n, 0)) rfl (fun _ => rfl) rfl ?_
    refine ex_go (S := (51, [(0, gx_r 0), (1, .inl x), (2, .inl 1)], [.inl 1], t0, n, 0)) rfl (fun _ => rfl) rfl ?_
    refine ex_go (S := (52, [(0, gx_r 0), (1, .inl x), (2, .inl 1)], [.inl 3, .inl 1], t0, n, 0)) rfl (fun _ => rfl) rfl ?_
    refine ex_go (S := (64, [(0, gx_r 0), (1, .inl x), (2, .inl 1)], [], t0, n, 0)) rfl (fun _ => rfl) rfl ?_
    refine ex_go (S := (65, [(0, gx_r 0), (1, .inl x), (2, .inl 1)], [gx_r 0], t0, n, 0)) rfl (fun _ => rfl) rfl ?_
    refine gxo_ref (a := 0) (c := 8) rfl g0 rfl rfl rfl rfl rfl ?_
    refine gxo_ref (a := 8) (c := 9) rfl g0 rfl rfl rfl rfl rfl ?_
    refine ex_go (S := (72, [(0, gx_r 0), (1, .inl x), (2, .inl 1)], [.inl x, gx_r 9], t0, n, 0)) rfl (fun _ => rfl) rfl ?_
    have k25 := hS.2.1 x (by first | decide | omega)
    have hk25 := hb.1 x (by first | decide | omega)
    refine gx_ag (v := .inl (σ (1 + x))) (cb := fun c => Nat.beq c 0) rfl (fun _ => rfl) g0 rfl rfl k25 (by first | decide | omega) rfl ?_
    refine ex_go (S := (74, [(3, .inl (σ (1 + x))), (0, gx_r 0), (1, .inl x), (2, .inl 1)], [], t0, n, 0)) rfl (fun _ => rfl) rfl ?_
    refine ex_go (S := (75, [(3, .inl (σ (1 + x))), (0, gx_r 0), (1, .inl x), (2, .inl 1)], [.inl 1], t0, n, 0)) rfl (fun _ => rfl) rfl ?_
    refine ex_go (S := (76, [(3, .inl (σ (1 + x))), (0, gx_r 0), (1, .inl x), (2, .inl 1)], [.inl 1, .inl 1], t0, n, 0)) rfl (fun _ => rfl) rfl ?_
    refine ex_go (S := (79, [(3, .inl (σ (1 + x))), (0, gx_r 0), (1, .inl x), (2, .inl 1)], [], t0, n, 0)) rfl (fun _ => rfl) rfl ?_
    refine ex_go (S := (80, [(3, .inl (σ (1 + x))), (0, gx_r 0), (1, .inl x), (2, .inl 1)], [.inl (σ (1 + x))], t0, n, 0)) rfl (fun _ => rfl) rfl ?_
    obtain ⟨_, r26, rfl⟩ := pz_over (d + 1) n (t0 := t0) (x := σ (1 + x)) (by first | decide | omega)
    refine ex_stat rfl rfl rfl rfl rfl r26 (Nat.le_refl _) rfl ?_
    show en_ex _ _ _ _ (83, [(3, .inl (σ (1 + x))), (0, gx_r 0), (1, .inl x), (2, .inl 1)], [.inl ((σ (1 + x)) % 8)], t0, n, 0) _
    refine ex_go (S := (90, [(3, .inl (σ (1 + x))), (0, gx_r 0), (1, .inl x), (2, .inl 1)], [.inl ((σ (1 + x)) % 8)], t0, n, 0)) rfl (fun _ => rfl) rfl ?_
    refine ex_ret (r := (some (.inl ((σ (1 + x)) % 8)), t0, n, 0)) rfl (fun _ => rfl) ?_
    exact ⟨_, rfl, by unfold tha; rw [if_neg (by decide), if_pos rfl]⟩
  · show en_ex _ _ _ _ (33, [(0, gx_r 0), (1, .inl x), (2, .inl 2)], [], t0, n, 0) _
    refine ex_go (S := (34, [(0, gx_r 0), (1, .inl x), (2, .inl 2)], [.inl 2], t0, n, 0)) rfl (fun _ => rfl) rfl ?_
    refine ex_go (S := (50, [(0, gx_r 0), (1, .inl x), (2, .inl 2)], [], t0, n, 0)) rfl (fun _ => rfl) rfl ?_
    refine ex_go (S := (51, [(0, gx_r 0), (1, .inl x), (2, .inl 2)], [.inl 2], t0, n, 0)) rfl (fun _ => rfl) rfl ?_
    refine ex_go (S := (52, [(0, gx_r 0), (1, .inl x), (2, .inl 2)], [.inl 3, .inl 2], t0, n, 0)) rfl (fun _ => rfl) rfl ?_
    refine ex_go (S := (64, [(0, gx_r 0), (1, .inl x), (2, .inl 2)], [], t0, n, 0)) rfl (fun _ => rfl) rfl ?_
    refine ex_go (S := (65, [(0, gx_r 0), (1, .inl x), (2, .inl 2)], [gx_r 0], t0, n, 0)) rfl (fun _ => rfl) rfl ?_
    refine gxo_ref (a := 0) (c := 8) rfl g0 rfl rfl rfl rfl rfl ?_
    refine gxo_ref (a := 8) (c := 9) rfl g0 rfl rfl rfl rfl rfl ?_
    refine ex_go (S := (72, [(0, gx_r 0), (1, .inl x), (2, .inl 2)], [.inl x, gx_r 9], t0, n, 0)) rfl (fun _ => rfl) rfl ?_
    have k27 := hS.2.1 x (by first | decide | omega)
    have hk27 := hb.1 x (by first | decide | omega)
    refine gx_ag (v := .inl (σ (1 + x))) (cb := fun c => Nat.beq c 0) rfl (fun _ => rfl) g0 rfl rfl k27 (by first | decide | omega) rfl ?_
    refine ex_go (S := (74, [(3, .inl (σ (1 + x))), (0, gx_r 0), (1, .inl x), (2, .inl 2)], [], t0, n, 0)) rfl (fun _ => rfl) rfl ?_
    refine ex_go (S := (75, [(3, .inl (σ (1 + x))), (0, gx_r 0), (1, .inl x), (2, .inl 2)], [.inl 2], t0, n, 0)) rfl (fun _ => rfl) rfl ?_
    refine ex_go (S := (76, [(3, .inl (σ (1 + x))), (0, gx_r 0), (1, .inl x), (2, .inl 2)], [.inl 1, .inl 2], t0, n, 0)) rfl (fun _ => rfl) rfl ?_
    refine ex_go (S := (86, [(3, .inl (σ (1 + x))), (0, gx_r 0), (1, .inl x), (2, .inl 2)], [], t0, n, 0)) rfl (fun _ => rfl) rfl ?_
    refine ex_go (S := (87, [(3, .inl (σ (1 + x))), (0, gx_r 0), (1, .inl x), (2, .inl 2)], [.inl (σ (1 + x))], t0, n, 0)) rfl (fun _ => rfl) rfl ?_
    obtain ⟨_, r28, rfl⟩ := pz_down (d + 1) n (t0 := t0) (x := σ (1 + x)) (by first | decide | omega)
    refine ex_stat rfl rfl rfl rfl rfl r28 (Nat.le_refl _) rfl ?_
    show en_ex _ _ _ _ (90, [(3, .inl (σ (1 + x))), (0, gx_r 0), (1, .inl x), (2, .inl 2)], [.inl ((σ (1 + x)) / 8)], t0, n, 0) _
    refine ex_ret (r := (some (.inl ((σ (1 + x)) / 8)), t0, n, 0)) rfl (fun _ => rfl) ?_
    exact ⟨_, rfl, by unfold tha; rw [if_neg (by decide), if_neg (by decide), if_pos rfl]⟩
  · show en_ex _ _ _ _ (33, [(0, gx_r 0), (1, .inl x), (2, .inl 3)], [], t0, n, 0) _
    refine ex_go (S := (34, [(0, gx_r 0), (1, .inl x), (2, .inl 3)], [.inl 3], t0, n, 0)) rfl (fun _ => rfl) rfl ?_
    refine ex_go (S := (50, [(0, gx_r 0), (1, .inl x), (2, .inl 3)], [], t0, n, 0)) rfl (fun _ => rfl) rfl ?_
    refine ex_go (S := (51, [(0, gx_r 0), (1, .inl x), (2, .inl 3)], [.inl 3], t0, n, 0)) rfl (fun _ => rfl) rfl ?_
    refine ex_go (S := (52, [(0, gx_r 0), (1, .inl x), (2, .inl 3)], [.inl 3, .inl 3], t0, n, 0)) rfl (fun _ => rfl) rfl ?_
    refine ex_go (S := (55, [(0, gx_r 0), (1, .inl x), (2, .inl 3)], [], t0, n, 0)) rfl (fun _ => rfl) rfl ?_
    refine ex_go (S := (56, [(0, gx_r 0), (1, .inl x), (2, .inl 3)], [gx_r 0], t0, n, 0)) rfl (fun _ => rfl) rfl ?_
    refine gxo_get (a := 0) rfl g0 rfl rfl k10 rfl ?_
    refine ex_go (S := (60, [(0, gx_r 0), (1, .inl x), (2, .inl 3)], [.inl x, gx_r 191], t0, n, 0)) rfl (fun _ => rfl) rfl ?_
    obtain ⟨_, r29, rfl⟩ := sc_crewOf191 (d + 1) n (x := x) g0 hC hw hi (by first | decide | omega)
    refine gx_callo (a := 191) rfl rfl g0 rfl rfl rfl r29 rfl ?_
    show en_ex _ _ _ _ (63, [(0, gx_r 0), (1, .inl x), (2, .inl 3)], [.inl (cra w x (w 0 4))], t0, n, 0) _
    refine ex_ret (r := (some (.inl (cra w x (w 0 4))), t0, n, 0)) rfl (fun _ => rfl) ?_
    exact ⟨_, rfl, by unfold tha; rw [if_neg (by decide), if_neg (by decide), if_neg (by decide)]⟩
theorem sc_thingx191 (n : Nat) {t0 : en_H} {w : Nat → Nat → Nat} {L : List Nat} {σ : Nat → Nat} {x y : Nat} (g0 : ai_HG ah_G t0) (hC : CW t0 191 w L) (hw : WS w) (k10 : ai_hv t0 0 10 = some (gx_r 191)) (hS : SC t0 8 (w 0 2) (w 0 4) σ) (hb : sbd σ) (hi : ∀ i j, i < w 0 4 → j < w 0 4 → w 3 i = w 3 j → i = j) (hx : x < 4294967296) (hy : y < 4294967296) (hn : ¬ (x < w 0 2 ∧ y ≤ 3)) : ∃ fuel ls, en_run en_df none (en_u 60) (en_code 87) (fun pc => Nat.beq pc 23) fuel 0 [(0, gx_r 0), (1, .inl x), (2, .inl y)] [] t0 n 0 = some (.inr (23, ls, [], t0, n, 0)) := by
  have hT := hw.1.2.2.1
  have hK := hw.1.2.2.2.2.1
  have h : en_ex none (en_u 60) (en_code 87) (fun pc => Nat.beq pc 23) (0, [(0, gx_r 0), (1, .inl x), (2, .inl y)], [], t0, n, 0) (fun o => ∃ ls, o = .inr (23, ls, [], t0, n, 0)) := by
    refine ex_go (S := (1, [(0, gx_r 0), (1, .inl x), (2, .inl y)], [gx_r 0], t0, n, 0)) rfl (fun _ => rfl) rfl ?_
    refine gxo_get (a := 0) rfl g0 rfl rfl k10 rfl ?_
    refine gxo_ref (a := 191) (c := 194) rfl g0 rfl rfl rfl rfl rfl ?_
    refine ex_go (S := (8, [(0, gx_r 0), (1, .inl x), (2, .inl y)], [.inl x, gx_r 194], t0, n, 0)) rfl (fun _ => rfl) rfl ?_
    obtain ⟨_, r121, b121, rfl, hb121, hi121⟩ := pz_holds194 (59) n (x := x) (K := w 0 2) g0 (by first | decide | omega) hC.1.2.2.2.1 (by first | decide | omega)
    refine gx_callo (a := 194) rfl rfl g0 rfl rfl rfl r121 rfl ?_
    show en_ex _ _ _ _ (11, [(0, gx_r 0), (1, .inl x), (2, .inl y)], [.inl b121], t0, n, 0) _
    rcases (show b121 = 0 ∨ b121 = 1 by omega) with h9 | h9
    · rw [h9]
      exact ex_stop (S := (23, [(0, gx_r 0), (1, .inl x), (2, .inl y)], [], t0, n, 0)) rfl (fun _ => rfl) rfl ⟨_, rfl⟩
    · rw [h9]
      refine ex_go (S := (14, [(0, gx_r 0), (1, .inl x), (2, .inl y)], [], t0, n, 0)) rfl (fun _ => rfl) rfl ?_
      refine ex_go (S := (15, [(0, gx_r 0), (1, .inl x), (2, .inl y)], [.inl y], t0, n, 0)) rfl (fun _ => rfl) rfl ?_
      refine ex_go (S := (16, [(0, gx_r 0), (1, .inl x), (2, .inl y)], [.inl 0, .inl y], t0, n, 0)) rfl (fun _ => rfl) rfl ?_
      refine ex_go (S := (17, [(0, gx_r 0), (1, .inl x), (2, .inl y)], [.inl 3, .inl 0, .inl y], t0, n, 0)) rfl (fun _ => rfl) rfl ?_
      obtain ⟨_, r22, b23, rfl, b23b, q24⟩ := pz_isWithin (59) n (t0 := t0) (x := y) (lo := 0) (hi := 3) (by first | decide | omega) (by first | decide | omega) (by first | decide | omega)
      refine ex_stat rfl rfl rfl rfl rfl r22 (Nat.le_refl _) rfl ?_
      show en_ex _ _ _ _ (20, [(0, gx_r 0), (1, .inl x), (2, .inl y)], [.inl b23], t0, n, 0) _
      rcases (show b23 = 0 ∨ b23 = 1 by omega) with h9 | h9
      · rw [h9]
        exact ex_stop (S := (23, [(0, gx_r 0), (1, .inl x), (2, .inl y)], [], t0, n, 0)) rfl (fun _ => rfl) rfl ⟨_, rfl⟩
      · rw [h9]
        exact absurd ⟨by omega, by omega⟩ hn
  obtain ⟨fuel, o, h1, ls, rfl⟩ := h
  exact ⟨fuel, ls, h1⟩
theorem sc_thing257 (d n : Nat) {t0 : en_H} {w : Nat → Nat → Nat} {L : List Nat} {σ : Nat → Nat} {x y : Nat} (g0 : ai_HG ah_G t0) (hC : CW t0 257 w L) (hw : WS w) (k10 : ai_hv t0 0 10 = some (gx_r 257)) (hS : SC t0 8 (w 0 2) (w 0 4) σ) (hb : sbd σ) (hi : ∀ i j, i < w 0 4 → j < w 0 4 → w 3 i = w 3 j → i = j) (hx : x < w 0 2) (hy : y ≤ 3) : ∃ r, en_u (d + 3) 87 [gx_r 0, .inl x, .inl y] t0 n = some r ∧ r = (some (.inl (tha w σ x y)), t0, n, 0) := by
  have hT := hw.1.2.2.1
  have hK := hw.1.2.2.2.2.1
  refine en_u_ex (d := d + 2) rfl ?_
  show en_ex _ _ _ _ (0, [(0, gx_r 0), (1, .inl x), (2, .inl y)], [], t0, n, 0) _
  refine ex_go (S := (1, [(0, gx_r 0), (1, .inl x), (2, .inl y)], [gx_r 0], t0, n, 0)) rfl (fun _ => rfl) rfl ?_
  refine gxo_get (a := 0) rfl g0 rfl rfl k10 rfl ?_
  refine gxo_ref (a := 257) (c := 260) rfl g0 rfl rfl rfl rfl rfl ?_
  refine ex_go (S := (8, [(0, gx_r 0), (1, .inl x), (2, .inl y)], [.inl x, gx_r 260], t0, n, 0)) rfl (fun _ => rfl) rfl ?_
  obtain ⟨_, r121, b121, rfl, hb121, hi121⟩ := pz_holds260 (d + 1) n (x := x) (K := w 0 2) g0 (by first | decide | omega) hC.1.2.2.2.1 (by first | decide | omega)
  refine gx_callo (a := 260) rfl rfl g0 rfl rfl rfl r121 rfl ?_
  show en_ex _ _ _ _ (11, [(0, gx_r 0), (1, .inl x), (2, .inl y)], [.inl b121], t0, n, 0) _
  refine gx_1f (c := .eq) rfl (by first | decide | omega) (show ¬ (b121 = 0) from by omega) rfl ?_
  refine ex_go (S := (15, [(0, gx_r 0), (1, .inl x), (2, .inl y)], [.inl y], t0, n, 0)) rfl (fun _ => rfl) rfl ?_
  refine ex_go (S := (16, [(0, gx_r 0), (1, .inl x), (2, .inl y)], [.inl 0, .inl y], t0, n, 0)) rfl (fun _ => rfl) rfl ?_
  refine ex_go (S := (17, [(0, gx_r 0), (1, .inl x), (2, .inl y)], [.inl 3, .inl 0, .inl y], t0, n, 0)) rfl (fun _ => rfl) rfl ?_
  obtain ⟨_, r22, b23, rfl, b23b, q24⟩ := pz_isWithin (d + 1) n (t0 := t0) (x := y) (lo := 0) (hi := 3) (by first | decide | omega) (by first | decide | omega) (by first | decide | omega)
  refine ex_stat rfl rfl rfl rfl rfl r22 (Nat.le_refl _) rfl ?_
  show en_ex _ _ _ _ (20, [(0, gx_r 0), (1, .inl x), (2, .inl y)], [.inl b23], t0, n, 0) _
  refine gx_1t (c := .ne) rfl (by first | decide | omega) (show b23 ≠ 0 from by omega) rfl ?_
  rcases (show y = 0 ∨ y = 1 ∨ y = 2 ∨ y = 3 by omega) with rfl | rfl | rfl | rfl
  · show en_ex _ _ _ _ (33, [(0, gx_r 0), (1, .inl x), (2, .inl 0)], [], t0, n, 0) _
    refine ex_go (S := (34, [(0, gx_r 0), (1, .inl x), (2, .inl 0)], [.inl 0], t0, n, 0)) rfl (fun _ => rfl) rfl ?_
    refine ex_go (S := (37, [(0, gx_r 0), (1, .inl x), (2, .inl 0)], [], t0, n, 0)) rfl (fun _ => rfl) rfl ?_
    refine ex_go (S := (38, [(0, gx_r 0), (1, .inl x), (2, .inl 0)], [gx_r 0], t0, n, 0)) rfl (fun _ => rfl) rfl ?_
    refine gxo_get (a := 0) rfl g0 rfl rfl k10 rfl ?_
    refine gxo_ref (a := 257) (c := 260) rfl g0 rfl rfl rfl rfl rfl ?_
    refine gxo_ref (a := 260) (c := 262) rfl g0 rfl rfl rfl rfl rfl ?_
    refine ex_go (S := (48, [(0, gx_r 0), (1, .inl x), (2, .inl 0)], [.inl x, gx_r 262], t0, n, 0)) rfl (fun _ => rfl) rfl ?_
    refine gx_ag (v := .inl (w 5 x)) (cb := fun c => Nat.beq c 0) rfl (fun _ => rfl) g0 rfl rfl (hC.2.2.2.1 x (by first | decide | omega)).1 (by first | decide | omega) rfl ?_
    refine ex_ret (r := (some (.inl (w 5 x)), t0, n, 0)) rfl (fun _ => rfl) ?_
    exact ⟨_, rfl, by unfold tha; rw [if_pos rfl]⟩
  · show en_ex _ _ _ _ (33, [(0, gx_r 0), (1, .inl x), (2, .inl 1)], [], t0, n, 0) _
    refine ex_go (S := (34, [(0, gx_r 0), (1, .inl x), (2, .inl 1)], [.inl 1], t0, n, 0)) rfl (fun _ => rfl) rfl ?_
    refine ex_go (S := (50, [(0, gx_r 0), (1, .inl x), (2, .inl 1)], [], t0, n, 0)) rfl (fun _ => rfl) rfl ?_
    refine ex_go (S := (51, [(0, gx_r 0), (1, .inl x), (2, .inl 1)], [.inl 1], t0, n, 0)) rfl (fun _ => rfl) rfl ?_
    refine ex_go (S := (52, [(0, gx_r 0), (1, .inl x), (2, .inl 1)], [.inl 3, .inl 1], t0, n, 0)) rfl (fun _ => rfl) rfl ?_
    refine ex_go (S := (64, [(0, gx_r 0), (1, .inl x), (2, .inl 1)], [], t0, n, 0)) rfl (fun _ => rfl) rfl ?_
    refine ex_go (S := (65, [(0, gx_r 0), (1, .inl x), (2, .inl 1)], [gx_r 0], t0, n, 0)) rfl (fun _ => rfl) rfl ?_
    refine gxo_ref (a := 0) (c := 8) rfl g0 rfl rfl rfl rfl rfl ?_
    refine gxo_ref (a := 8) (c := 9) rfl g0 rfl rfl rfl rfl rfl ?_
    refine ex_go (S := (72, [(0, gx_r 0), (1, .inl x), (2, .inl 1)], [.inl x, gx_r 9], t0, n, 0)) rfl (fun _ => rfl) rfl ?_
    have k25 := hS.2.1 x (by first | decide | omega)
    have hk25 := hb.1 x (by first | decide | omega)
    refine gx_ag (v := .inl (σ (1 + x))) (cb := fun c => Nat.beq c 0) rfl (fun _ => rfl) g0 rfl rfl k25 (by first | decide | omega) rfl ?_
    refine ex_go (S := (74, [(3, .inl (σ (1 + x))), (0, gx_r 0), (1, .inl x), (2, .inl 1)], [], t0, n, 0)) rfl (fun _ => rfl) rfl ?_
    refine ex_go (S := (75, [(3, .inl (σ (1 + x))), (0, gx_r 0), (1, .inl x), (2, .inl 1)], [.inl 1], t0, n, 0)) rfl (fun _ => rfl) rfl ?_
    refine ex_go (S := (76, [(3, .inl (σ (1 + x))), (0, gx_r 0), (1, .inl x), (2, .inl 1)], [.inl 1, .inl 1], t0, n, 0)) rfl (fun _ => rfl) rfl ?_
    refine ex_go (S := (79, [(3, .inl (σ (1 + x))), (0, gx_r 0), (1, .inl x), (2, .inl 1)], [], t0, n, 0)) rfl (fun _ => rfl) rfl ?_
    refine ex_go (S := (80, [(3, .inl (σ (1 + x))), (0, gx_r 0), (1, .inl x), (2, .inl 1)], [.inl (σ (1 + x))], t0, n, 0)) rfl (fun _ => rfl) rfl ?_
    obtain ⟨_, r26, rfl⟩ := pz_over (d + 1) n (t0 := t0) (x := σ (1 + x)) (by first | decide | omega)
    refine ex_stat rfl rfl rfl rfl rfl r26 (Nat.le_refl _) rfl ?_
    show en_ex _ _ _ _ (83, [(3, .inl (σ (1 + x))), (0, gx_r 0), (1, .inl x), (2, .inl 1)], [.inl ((σ (1 + x)) % 8)], t0, n, 0) _
    refine ex_go (S := (90, [(3, .inl (σ (1 + x))), (0, gx_r 0), (1, .inl x), (2, .inl 1)], [.inl ((σ (1 + x)) % 8)], t0, n, 0)) rfl (fun _ => rfl) rfl ?_
    refine ex_ret (r := (some (.inl ((σ (1 + x)) % 8)), t0, n, 0)) rfl (fun _ => rfl) ?_
    exact ⟨_, rfl, by unfold tha; rw [if_neg (by decide), if_pos rfl]⟩
  · show en_ex _ _ _ _ (33, [(0, gx_r 0), (1, .inl x), (2, .inl 2)], [], t0, n, 0) _
    refine ex_go (S := (34, [(0, gx_r 0), (1, .inl x), (2, .inl 2)], [.inl 2], t0, n, 0)) rfl (fun _ => rfl) rfl ?_
    refine ex_go (S := (50, [(0, gx_r 0), (1, .inl x), (2, .inl 2)], [], t0, n, 0)) rfl (fun _ => rfl) rfl ?_
    refine ex_go (S := (51, [(0, gx_r 0), (1, .inl x), (2, .inl 2)], [.inl 2], t0, n, 0)) rfl (fun _ => rfl) rfl ?_
    refine ex_go (S := (52, [(0, gx_r 0), (1, .inl x), (2, .inl 2)], [.inl 3, .inl 2], t0, n, 0)) rfl (fun _ => rfl) rfl ?_
    refine ex_go (S := (64, [(0, gx_r 0), (1, .inl x), (2, .inl 2)], [], t0, n, 0)) rfl (fun _ => rfl) rfl ?_
    refine ex_go (S := (65, [(0, gx_r 0), (1, .inl x), (2, .inl 2)], [gx_r 0], t0, n, 0)) rfl (fun _ => rfl) rfl ?_
    refine gxo_ref (a := 0) (c := 8) rfl g0 rfl rfl rfl rfl rfl ?_
    refine gxo_ref (a := 8) (c := 9) rfl g0 rfl rfl rfl rfl rfl ?_
    refine ex_go (S := (72, [(0, gx_r 0), (1, .inl x), (2, .inl 2)], [.inl x, gx_r 9], t0, n, 0)) rfl (fun _ => rfl) rfl ?_
    have k27 := hS.2.1 x (by first | decide | omega)
    have hk27 := hb.1 x (by first | decide | omega)
    refine gx_ag (v := .inl (σ (1 + x))) (cb := fun c => Nat.beq c 0) rfl (fun _ => rfl) g0 rfl rfl k27 (by first | decide | omega) rfl ?_
    refine ex_go (S := (74, [(3, .inl (σ (1 + x))), (0, gx_r 0), (1, .inl x), (2, .inl 2)], [], t0, n, 0)) rfl (fun _ => rfl) rfl ?_
    refine ex_go (S := (75, [(3, .inl (σ (1 + x))), (0, gx_r 0), (1, .inl x), (2, .inl 2)], [.inl 2], t0, n, 0)) rfl (fun _ => rfl) rfl ?_
    refine ex_go (S := (76, [(3, .inl (σ (1 + x))), (0, gx_r 0), (1, .inl x), (2, .inl 2)], [.inl 1, .inl 2], t0, n, 0)) rfl (fun _ => rfl) rfl ?_
    refine ex_go (S := (86, [(3, .inl (σ (1 + x))), (0, gx_r 0), (1, .inl x), (2, .inl 2)], [], t0, n, 0)) rfl (fun _ => rfl) rfl ?_
    refine ex_go (S := (87, [(3, .inl (σ (1 + x))), (0, gx_r 0), (1, .inl x), (2, .inl 2)], [.inl (σ (1 + x))], t0, n, 0)) rfl (fun _ => rfl) rfl ?_
    obtain ⟨_, r28, rfl⟩ := pz_down (d + 1) n (t0 := t0) (x := σ (1 + x)) (by first | decide | omega)
    refine ex_stat rfl rfl rfl rfl rfl r28 (Nat.le_refl _) rfl ?_
    show en_ex _ _ _ _ (90, [(3, .inl (σ (1 + x))), (0, gx_r 0), (1, .inl x), (2, .inl 2)], [.inl ((σ (1 + x)) / 8)], t0, n, 0) _
    refine ex_ret (r := (some (.inl ((σ (1 + x)) / 8)), t0, n, 0)) rfl (fun _ => rfl) ?_
    exact ⟨_, rfl, by unfold tha; rw [if_neg (by decide), if_neg (by decide), if_pos rfl]⟩
  · show en_ex _ _ _ _ (33, [(0, gx_r 0), (1, .inl x), (2, .inl 3)], [], t0, n, 0) _
    refine ex_go (S := (34, [(0, gx_r 0), (1, .inl x), (2, .inl 3)], [.inl 3], t0, n, 0)) rfl (fun _ => rfl) rfl ?_
    refine ex_go (S := (50, [(0, gx_r 0), (1, .inl x), (2, .inl 3)], [], t0, n, 0)) rfl (fun _ => rfl) rfl ?_
    refine ex_go (S := (51, [(0, gx_r 0), (1, .inl x), (2, .inl 3)], [.inl 3], t0, n, 0)) rfl (fun _ => rfl) rfl ?_
    refine ex_go (S := (52, [(0, gx_r 0), (1, .inl x), (2, .inl 3)], [.inl 3, .inl 3], t0, n, 0)) rfl (fun _ => rfl) rfl ?_
    refine ex_go (S := (55, [(0, gx_r 0), (1, .inl x), (2, .inl 3)], [], t0, n, 0)) rfl (fun _ => rfl) rfl ?_
    refine ex_go (S := (56, [(0, gx_r 0), (1, .inl x), (2, .inl 3)], [gx_r 0], t0, n, 0)) rfl (fun _ => rfl) rfl ?_
    refine gxo_get (a := 0) rfl g0 rfl rfl k10 rfl ?_
    refine ex_go (S := (60, [(0, gx_r 0), (1, .inl x), (2, .inl 3)], [.inl x, gx_r 257], t0, n, 0)) rfl (fun _ => rfl) rfl ?_
    obtain ⟨_, r29, rfl⟩ := sc_crewOf257 (d + 1) n (x := x) g0 hC hw hi (by first | decide | omega)
    refine gx_callo (a := 257) rfl rfl g0 rfl rfl rfl r29 rfl ?_
    show en_ex _ _ _ _ (63, [(0, gx_r 0), (1, .inl x), (2, .inl 3)], [.inl (cra w x (w 0 4))], t0, n, 0) _
    refine ex_ret (r := (some (.inl (cra w x (w 0 4))), t0, n, 0)) rfl (fun _ => rfl) ?_
    exact ⟨_, rfl, by unfold tha; rw [if_neg (by decide), if_neg (by decide), if_neg (by decide)]⟩
theorem sc_thingx257 (n : Nat) {t0 : en_H} {w : Nat → Nat → Nat} {L : List Nat} {σ : Nat → Nat} {x y : Nat} (g0 : ai_HG ah_G t0) (hC : CW t0 257 w L) (hw : WS w) (k10 : ai_hv t0 0 10 = some (gx_r 257)) (hS : SC t0 8 (w 0 2) (w 0 4) σ) (hb : sbd σ) (hi : ∀ i j, i < w 0 4 → j < w 0 4 → w 3 i = w 3 j → i = j) (hx : x < 4294967296) (hy : y < 4294967296) (hn : ¬ (x < w 0 2 ∧ y ≤ 3)) : ∃ fuel ls, en_run en_df none (en_u 60) (en_code 87) (fun pc => Nat.beq pc 23) fuel 0 [(0, gx_r 0), (1, .inl x), (2, .inl y)] [] t0 n 0 = some (.inr (23, ls, [], t0, n, 0)) := by
  have hT := hw.1.2.2.1
  have hK := hw.1.2.2.2.2.1
  have h : en_ex none (en_u 60) (en_code 87) (fun pc => Nat.beq pc 23) (0, [(0, gx_r 0), (1, .inl x), (2, .inl y)], [], t0, n, 0) (fun o => ∃ ls, o = .inr (23, ls, [], t0, n, 0)) := by
    refine ex_go (S := (1, [(0, gx_r 0), (1, .inl x), (2, .inl y)], [gx_r 0], t0, n, 0)) rfl (fun _ => rfl) rfl ?_
    refine gxo_get (a := 0) rfl g0 rfl rfl k10 rfl ?_
    refine gxo_ref (a := 257) (c := 260) rfl g0 rfl rfl rfl rfl rfl ?_
    refine ex_go (S := (8, [(0, gx_r 0), (1, .inl x), (2, .inl y)], [.inl x, gx_r 260], t0, n, 0)) rfl (fun _ => rfl) rfl ?_
    obtain ⟨_, r121, b121, rfl, hb121, hi121⟩ := pz_holds260 (59) n (x := x) (K := w 0 2) g0 (by first | decide | omega) hC.1.2.2.2.1 (by first | decide | omega)
    refine gx_callo (a := 260) rfl rfl g0 rfl rfl rfl r121 rfl ?_
    show en_ex _ _ _ _ (11, [(0, gx_r 0), (1, .inl x), (2, .inl y)], [.inl b121], t0, n, 0) _
    rcases (show b121 = 0 ∨ b121 = 1 by omega) with h9 | h9
    · rw [h9]
      exact ex_stop (S := (23, [(0, gx_r 0), (1, .inl x), (2, .inl y)], [], t0, n, 0)) rfl (fun _ => rfl) rfl ⟨_, rfl⟩
    · rw [h9]
      refine ex_go (S := (14, [(0, gx_r 0), (1, .inl x), (2, .inl y)], [], t0, n, 0)) rfl (fun _ => rfl) rfl ?_
      refine ex_go (S := (15, [(0, gx_r 0), (1, .inl x), (2, .inl y)], [.inl y], t0, n, 0)) rfl (fun _ => rfl) rfl ?_
      refine ex_go (S := (16, [(0, gx_r 0), (1, .inl x), (2, .inl y)], [.inl 0, .inl y], t0, n, 0)) rfl (fun _ => rfl) rfl ?_
      refine ex_go (S := (17, [(0, gx_r 0), (1, .inl x), (2, .inl y)], [.inl 3, .inl 0, .inl y], t0, n, 0)) rfl (fun _ => rfl) rfl ?_
      obtain ⟨_, r22, b23, rfl, b23b, q24⟩ := pz_isWithin (59) n (t0 := t0) (x := y) (lo := 0) (hi := 3) (by first | decide | omega) (by first | decide | omega) (by first | decide | omega)
      refine ex_stat rfl rfl rfl rfl rfl r22 (Nat.le_refl _) rfl ?_
      show en_ex _ _ _ _ (20, [(0, gx_r 0), (1, .inl x), (2, .inl y)], [.inl b23], t0, n, 0) _
      rcases (show b23 = 0 ∨ b23 = 1 by omega) with h9 | h9
      · rw [h9]
        exact ex_stop (S := (23, [(0, gx_r 0), (1, .inl x), (2, .inl y)], [], t0, n, 0)) rfl (fun _ => rfl) rfl ⟨_, rfl⟩
      · rw [h9]
        exact absurd ⟨by omega, by omega⟩ hn
  obtain ⟨fuel, o, h1, ls, rfl⟩ := h
  exact ⟨fuel, ls, h1⟩
theorem sc_crew191 (d n : Nat) {t0 : en_H} {w : Nat → Nat → Nat} {L : List Nat} {σ : Nat → Nat} {x y : Nat} (g0 : ai_HG ah_G t0) (hC : CW t0 191 w L) (hw : WS w) (k10 : ai_hv t0 0 10 = some (gx_r 191)) (hS : SC t0 8 (w 0 2) (w 0 4) σ) (hb : sbd σ) (hi : ∀ i j, i < w 0 4 → j < w 0 4 → w 3 i = w 3 j → i = j) (hx : x < w 0 4) (hy : y ≤ 7) : ∃ r, en_u (d + 3) 88 [gx_r 0, .inl x, .inl y] t0 n = some r ∧ r = (some (.inl (cwa w σ x y)), t0, n, 0) := by
  have hT := hw.1.2.2.1
  have hK := hw.1.2.2.2.2.1
  refine en_u_ex (d := d + 2) rfl ?_
  show en_ex _ _ _ _ (0, [(0, gx_r 0), (1, .inl x), (2, .inl y)], [], t0, n, 0) _
  have ho9 : σ (11 + x) ≤ 1 ∧ σ (15 + x) ≤ 1 := by
    rcases (show x = 0 ∨ x = 1 by omega) with rfl | rfl
    · exact ⟨hb.2.2.1.1, hb.2.2.2.2.1.1⟩
    · exact ⟨hb.2.2.1.2, hb.2.2.2.2.1.2⟩
  refine ex_go (S := (1, [(0, gx_r 0), (1, .inl x), (2, .inl y)], [gx_r 0], t0, n, 0)) rfl (fun _ => rfl) rfl ?_
  refine gxo_get (a := 0) rfl g0 rfl rfl k10 rfl ?_
  refine gxo_ref (a := 191) (c := 206) rfl g0 rfl rfl rfl rfl rfl ?_
  refine ex_go (S := (8, [(0, gx_r 0), (1, .inl x), (2, .inl y)], [.inl x, gx_r 206], t0, n, 0)) rfl (fun _ => rfl) rfl ?_
  obtain ⟨_, r121, b121, rfl, hb121, hi121⟩ := pz_holds206 (d + 1) n (x := x) (K := w 0 4) g0 (by first | decide | omega) hC.1.2.2.2.2.2 (by first | decide | omega)
  refine gx_callo (a := 206) rfl rfl g0 rfl rfl rfl r121 rfl ?_
  show en_ex _ _ _ _ (11, [(0, gx_r 0), (1, .inl x), (2, .inl y)], [.inl b121], t0, n, 0) _
  refine gx_1f (c := .eq) rfl (by first | decide | omega) (show ¬ (b121 = 0) from by omega) rfl ?_
  refine ex_go (S := (15, [(0, gx_r 0), (1, .inl x), (2, .inl y)], [.inl y], t0, n, 0)) rfl (fun _ => rfl) rfl ?_
  refine ex_go (S := (16, [(0, gx_r 0), (1, .inl x), (2, .inl y)], [.inl 0, .inl y], t0, n, 0)) rfl (fun _ => rfl) rfl ?_
  refine ex_go (S := (18, [(0, gx_r 0), (1, .inl x), (2, .inl y)], [.inl 7, .inl 0, .inl y], t0, n, 0)) rfl (fun _ => rfl) rfl ?_
  obtain ⟨_, r22, b23, rfl, b23b, q24⟩ := pz_isWithin (d + 1) n (t0 := t0) (x := y) (lo := 0) (hi := 7) (by first | decide | omega) (by first | decide | omega) (by first | decide | omega)
  refine ex_stat rfl rfl rfl rfl rfl r22 (Nat.le_refl _) rfl ?_
  show en_ex _ _ _ _ (21, [(0, gx_r 0), (1, .inl x), (2, .inl y)], [.inl b23], t0, n, 0) _
  refine gx_1t (c := .ne) rfl (by first | decide | omega) (show b23 ≠ 0 from by omega) rfl ?_
  rcases (show y = 0 ∨ y = 1 ∨ y = 2 ∨ y = 3 ∨ y = 4 ∨ y = 5 ∨ y = 6 ∨ y = 7 by omega) with rfl | rfl | rfl | rfl | rfl | rfl | rfl | rfl
  · show en_ex _ _ _ _ (34, [(0, gx_r 0), (1, .inl x), (2, .inl 0)], [], t0, n, 0) _
    refine ex_go (S := (35, [(0, gx_r 0), (1, .inl x), (2, .inl 0)], [.inl 0], t0, n, 0)) rfl (fun _ => rfl) rfl ?_
    refine ex_go (S := (76, [(0, gx_r 0), (1, .inl x), (2, .inl 0)], [], t0, n, 0)) rfl (fun _ => rfl) rfl ?_
    refine ex_go (S := (77, [(0, gx_r 0), (1, .inl x), (2, .inl 0)], [gx_r 0], t0, n, 0)) rfl (fun _ => rfl) rfl ?_
    refine gxo_get (a := 0) rfl g0 rfl rfl k10 rfl ?_
    refine gxo_ref (a := 191) (c := 206) rfl g0 rfl rfl rfl rfl rfl ?_
    refine gxo_ref (a := 206) (c := 208) rfl g0 rfl rfl rfl rfl rfl ?_
    refine ex_go (S := (87, [(0, gx_r 0), (1, .inl x), (2, .inl 0)], [.inl x, gx_r 208], t0, n, 0)) rfl (fun _ => rfl) rfl ?_
    refine gx_ag (v := .inl (w 3 x)) (cb := fun c => Nat.beq c 0) rfl (fun _ => rfl) g0 rfl rfl (hC.2.2.1 x (by first | decide | omega)).1 (by first | decide | omega) rfl ?_
    refine ex_ret (r := (some (.inl (w 3 x)), t0, n, 0)) rfl (fun _ => rfl) ?_
    exact ⟨_, rfl, by unfold cwa; rw [if_pos rfl]⟩
  · show en_ex _ _ _ _ (34, [(0, gx_r 0), (1, .inl x), (2, .inl 1)], [], t0, n, 0) _
    refine ex_go (S := (35, [(0, gx_r 0), (1, .inl x), (2, .inl 1)], [.inl 1], t0, n, 0)) rfl (fun _ => rfl) rfl ?_
    refine ex_go (S := (89, [(0, gx_r 0), (1, .inl x), (2, .inl 1)], [], t0, n, 0)) rfl (fun _ => rfl) rfl ?_
    refine ex_go (S := (90, [(0, gx_r 0), (1, .inl x), (2, .inl 1)], [gx_r 0], t0, n, 0)) rfl (fun _ => rfl) rfl ?_
    refine gxo_get (a := 0) rfl g0 rfl rfl k10 rfl ?_
    refine gxo_ref (a := 191) (c := 206) rfl g0 rfl rfl rfl rfl rfl ?_
    refine gxo_ref (a := 206) (c := 209) rfl g0 rfl rfl rfl rfl rfl ?_
    refine ex_go (S := (100, [(0, gx_r 0), (1, .inl x), (2, .inl 1)], [.inl x, gx_r 209], t0, n, 0)) rfl (fun _ => rfl) rfl ?_
    refine gx_ag (v := .inl (w 2 x)) (cb := fun c => Nat.beq c 0) rfl (fun _ => rfl) g0 rfl rfl (hC.2.2.1 x (by first | decide | omega)).2.1 (by first | decide | omega) rfl ?_
    refine ex_ret (r := (some (.inl (w 2 x)), t0, n, 0)) rfl (fun _ => rfl) ?_
    exact ⟨_, rfl, by unfold cwa; rw [if_neg (by decide), if_pos rfl]⟩
  · show en_ex _ _ _ _ (34, [(0, gx_r 0), (1, .inl x), (2, .inl 2)], [], t0, n, 0) _
    refine ex_go (S := (35, [(0, gx_r 0), (1, .inl x), (2, .inl 2)], [.inl 2], t0, n, 0)) rfl (fun _ => rfl) rfl ?_
    refine ex_go (S := (102, [(0, gx_r 0), (1, .inl x), (2, .inl 2)], [], t0, n, 0)) rfl (fun _ => rfl) rfl ?_
    refine ex_go (S := (103, [(0, gx_r 0), (1, .inl x), (2, .inl 2)], [gx_r 0], t0, n, 0)) rfl (fun _ => rfl) rfl ?_
    refine gxo_ref (a := 0) (c := 8) rfl g0 rfl rfl rfl rfl rfl ?_
    refine gxo_ref (a := 8) (c := 10) rfl g0 rfl rfl rfl rfl rfl ?_
    refine ex_go (S := (110, [(0, gx_r 0), (1, .inl x), (2, .inl 2)], [.inl x, gx_r 10], t0, n, 0)) rfl (fun _ => rfl) rfl ?_
    refine gx_ag (v := .inl (σ (7 + x))) (cb := fun c => Nat.beq c 0) rfl (fun _ => rfl) g0 rfl rfl (hS.2.2 x (by first | decide | omega)).1 (by first | decide | omega) rfl ?_
    refine ex_ret (r := (some (.inl (σ (7 + x))), t0, n, 0)) rfl (fun _ => rfl) ?_
    exact ⟨_, rfl, by unfold cwa; rw [if_neg (by decide), if_neg (by decide), if_pos rfl]⟩
  · show en_ex _ _ _ _ (34, [(0, gx_r 0), (1, .inl x), (2, .inl 3)], [], t0, n, 0) _
    refine ex_go (S := (35, [(0, gx_r 0), (1, .inl x), (2, .inl 3)], [.inl 3], t0, n, 0)) rfl (fun _ => rfl) rfl ?_
    refine ex_go (S := (112, [(0, gx_r 0), (1, .inl x), (2, .inl 3)], [], t0, n, 0)) rfl (fun _ => rfl) rfl ?_
    refine ex_go (S := (113, [(0, gx_r 0), (1, .inl x), (2, .inl 3)], [gx_r 0], t0, n, 0)) rfl (fun _ => rfl) rfl ?_
    refine gxo_ref (a := 0) (c := 8) rfl g0 rfl rfl rfl rfl rfl ?_
    refine gxo_ref (a := 8) (c := 11) rfl g0 rfl rfl rfl rfl rfl ?_
    refine ex_go (S := (120, [(0, gx_r 0), (1, .inl x), (2, .inl 3)], [.inl x, gx_r 11], t0, n, 0)) rfl (fun _ => rfl) rfl ?_
    refine gx_ag (v := .inl (σ (9 + x))) (cb := fun c => Nat.beq c 0) rfl (fun _ => rfl) g0 rfl rfl (hS.2.2 x (by first | decide | omega)).2.1 (by first | decide | omega) rfl ?_
    refine ex_ret (r := (some (.inl (σ (9 + x))), t0, n, 0)) rfl (fun _ => rfl) ?_
    exact ⟨_, rfl, by unfold cwa; rw [if_neg (by decide), if_neg (by decide), if_neg (by decide), if_pos rfl]⟩
  · show en_ex _ _ _ _ (34, [(0, gx_r 0), (1, .inl x), (2, .inl 4)], [], t0, n, 0) _
    refine ex_go (S := (35, [(0, gx_r 0), (1, .inl x), (2, .inl 4)], [.inl 4], t0, n, 0)) rfl (fun _ => rfl) rfl ?_
    refine ex_go (S := (122, [(0, gx_r 0), (1, .inl x), (2, .inl 4)], [], t0, n, 0)) rfl (fun _ => rfl) rfl ?_
    refine ex_go (S := (123, [(0, gx_r 0), (1, .inl x), (2, .inl 4)], [gx_r 0], t0, n, 0)) rfl (fun _ => rfl) rfl ?_
    refine gxo_ref (a := 0) (c := 8) rfl g0 rfl rfl rfl rfl rfl ?_
    refine gxo_ref (a := 8) (c := 12) rfl g0 rfl rfl rfl rfl rfl ?_
    refine ex_go (S := (130, [(0, gx_r 0), (1, .inl x), (2, .inl 4)], [.inl x, gx_r 12], t0, n, 0)) rfl (fun _ => rfl) rfl ?_
    refine gx_ag (v := .inl (σ (11 + x))) (cb := fun c => Nat.beq c 2 || Nat.beq c 1) rfl (fun _ => rfl) g0 rfl rfl (hS.2.2 x (by first | decide | omega)).2.2.1 (by first | decide | omega) rfl ?_
    by_cases hc25 : σ (11 + x) = 0
    · refine gx_1t (c := .eq) rfl (by first | decide | omega) hc25 rfl ?_
      refine ex_go (S := (139, [(0, gx_r 0), (1, .inl x), (2, .inl 4)], [.inl 0], t0, n, 0)) rfl (fun _ => rfl) rfl ?_
      refine ex_ret (r := (some (.inl 0), t0, n, 0)) rfl (fun _ => rfl) ?_
      exact ⟨_, rfl, by unfold cwa; rw [if_neg (by decide), if_neg (by decide), if_neg (by decide), if_neg (by decide), if_pos rfl, show σ (11 + x) = 0 by omega]⟩
    · refine gx_1f (c := .eq) rfl (by first | decide | omega) hc25 rfl ?_
      refine ex_go (S := (135, [(0, gx_r 0), (1, .inl x), (2, .inl 4)], [.inl 1], t0, n, 0)) rfl (fun _ => rfl) rfl ?_
      refine ex_go (S := (139, [(0, gx_r 0), (1, .inl x), (2, .inl 4)], [.inl 1], t0, n, 0)) rfl (fun _ => rfl) rfl ?_
      refine ex_ret (r := (some (.inl 1), t0, n, 0)) rfl (fun _ => rfl) ?_
      exact ⟨_, rfl, by unfold cwa; rw [if_neg (by decide), if_neg (by decide), if_neg (by decide), if_neg (by decide), if_pos rfl, show σ (11 + x) = 1 by omega]⟩
  · show en_ex _ _ _ _ (34, [(0, gx_r 0), (1, .inl x), (2, .inl 5)], [], t0, n, 0) _
    refine ex_go (S := (35, [(0, gx_r 0), (1, .inl x), (2, .inl 5)], [.inl 5], t0, n, 0)) rfl (fun _ => rfl) rfl ?_
    refine ex_go (S := (140, [(0, gx_r 0), (1, .inl x), (2, .inl 5)], [], t0, n, 0)) rfl (fun _ => rfl) rfl ?_
    refine ex_go (S := (141, [(0, gx_r 0), (1, .inl x), (2, .inl 5)], [gx_r 0], t0, n, 0)) rfl (fun _ => rfl) rfl ?_
    refine gxo_ref (a := 0) (c := 8) rfl g0 rfl rfl rfl rfl rfl ?_
    refine ex_go (S := (145, [(0, gx_r 0), (1, .inl x), (2, .inl 5)], [gx_r 0, gx_r 8], t0, n, 0)) rfl (fun _ => rfl) rfl ?_
    refine gxo_get (a := 0) rfl g0 rfl rfl k10 rfl ?_
    refine ex_go (S := (149, [(0, gx_r 0), (1, .inl x), (2, .inl 5)], [.inl x, gx_r 191, gx_r 8], t0, n, 0)) rfl (fun _ => rfl) rfl ?_
    obtain ⟨_, r26, rfl⟩ := sc_sled8_191 (d + 1) n (c := x) g0 hC hw hb hS (by first | decide | omega)
    have hsl := slp_lt9 hw hb (c := x) (by first | decide | omega)
    refine gx_callo (a := 8) rfl rfl g0 rfl rfl rfl r26 rfl ?_
    show en_ex _ _ _ _ (152, [(0, gx_r 0), (1, .inl x), (2, .inl 5)], [.inl (slp w σ x)], t0, n, 0) _
    obtain ⟨_, r27, rfl⟩ := pz_over (d + 1) n (t0 := t0) (x := slp w σ x) (by first | decide | omega)
    refine ex_stat rfl rfl rfl rfl rfl r27 (Nat.le_refl _) rfl ?_
    show en_ex _ _ _ _ (155, [(0, gx_r 0), (1, .inl x), (2, .inl 5)], [.inl ((slp w σ x) % 8)], t0, n, 0) _
    refine ex_ret (r := (some (.inl ((slp w σ x) % 8)), t0, n, 0)) rfl (fun _ => rfl) ?_
    exact ⟨_, rfl, by unfold cwa; rw [if_neg (by decide), if_neg (by decide), if_neg (by decide), if_neg (by decide), if_neg (by decide), if_pos rfl]⟩
  · show en_ex _ _ _ _ (34, [(0, gx_r 0), (1, .inl x), (2, .inl 6)], [], t0, n, 0) _
    refine ex_go (S := (35, [(0, gx_r 0), (1, .inl x), (2, .inl 6)], [.inl 6], t0, n, 0)) rfl (fun _ => rfl) rfl ?_
    refine ex_go (S := (156, [(0, gx_r 0), (1, .inl x), (2, .inl 6)], [], t0, n, 0)) rfl (fun _ => rfl) rfl ?_
    refine ex_go (S := (157, [(0, gx_r 0), (1, .inl x), (2, .inl 6)], [gx_r 0], t0, n, 0)) rfl (fun _ => rfl) rfl ?_
    refine gxo_ref (a := 0) (c := 8) rfl g0 rfl rfl rfl rfl rfl ?_
    refine ex_go (S := (161, [(0, gx_r 0), (1, .inl x), (2, .inl 6)], [gx_r 0, gx_r 8], t0, n, 0)) rfl (fun _ => rfl) rfl ?_
    refine gxo_get (a := 0) rfl g0 rfl rfl k10 rfl ?_
    refine ex_go (S := (165, [(0, gx_r 0), (1, .inl x), (2, .inl 6)], [.inl x, gx_r 191, gx_r 8], t0, n, 0)) rfl (fun _ => rfl) rfl ?_
    obtain ⟨_, r28, rfl⟩ := sc_sled8_191 (d + 1) n (c := x) g0 hC hw hb hS (by first | decide | omega)
    have hsl := slp_lt9 hw hb (c := x) (by first | decide | omega)
    refine gx_callo (a := 8) rfl rfl g0 rfl rfl rfl r28 rfl ?_
    show en_ex _ _ _ _ (168, [(0, gx_r 0), (1, .inl x), (2, .inl 6)], [.inl (slp w σ x)], t0, n, 0) _
    obtain ⟨_, r29, rfl⟩ := pz_down (d + 1) n (t0 := t0) (x := slp w σ x) (by first | decide | omega)
    refine ex_stat rfl rfl rfl rfl rfl r29 (Nat.le_refl _) rfl ?_
    show en_ex _ _ _ _ (171, [(0, gx_r 0), (1, .inl x), (2, .inl 6)], [.inl ((slp w σ x) / 8)], t0, n, 0) _
    refine ex_ret (r := (some (.inl ((slp w σ x) / 8)), t0, n, 0)) rfl (fun _ => rfl) ?_
    exact ⟨_, rfl, by unfold cwa; rw [if_neg (by decide), if_neg (by decide), if_neg (by decide), if_neg (by decide), if_neg (by decide), if_neg (by decide), if_pos rfl]⟩
  · show en_ex _ _ _ _ (34, [(0, gx_r 0), (1, .inl x), (2, .inl 7)], [], t0, n, 0) _
    refine ex_go (S := (35, [(0, gx_r 0), (1, .inl x), (2, .inl 7)], [.inl 7], t0, n, 0)) rfl (fun _ => rfl) rfl ?_
    refine ex_go (S := (172, [(0, gx_r 0), (1, .inl x), (2, .inl 7)], [], t0, n, 0)) rfl (fun _ => rfl) rfl ?_
    refine ex_go (S := (173, [(0, gx_r 0), (1, .inl x), (2, .inl 7)], [gx_r 0], t0, n, 0)) rfl (fun _ => rfl) rfl ?_
    refine gxo_ref (a := 0) (c := 8) rfl g0 rfl rfl rfl rfl rfl ?_
    refine gxo_ref (a := 8) (c := 13) rfl g0 rfl rfl rfl rfl rfl ?_
    refine ex_go (S := (180, [(0, gx_r 0), (1, .inl x), (2, .inl 7)], [.inl x, gx_r 13], t0, n, 0)) rfl (fun _ => rfl) rfl ?_
    refine gx_ag (v := .inl (σ (15 + x))) (cb := fun c => Nat.beq c 2 || Nat.beq c 1) rfl (fun _ => rfl) g0 rfl rfl (hS.2.2 x (by first | decide | omega)).2.2.2.1 (by first | decide | omega) rfl ?_
    by_cases hc30 : σ (15 + x) = 0
    · refine gx_1t (c := .eq) rfl (by first | decide | omega) hc30 rfl ?_
      refine ex_go (S := (189, [(0, gx_r 0), (1, .inl x), (2, .inl 7)], [.inl 0], t0, n, 0)) rfl (fun _ => rfl) rfl ?_
      refine ex_ret (r := (some (.inl 0), t0, n, 0)) rfl (fun _ => rfl) ?_
      exact ⟨_, rfl, by unfold cwa; rw [if_neg (by decide), if_neg (by decide), if_neg (by decide), if_neg (by decide), if_neg (by decide), if_neg (by decide), if_neg (by decide), show σ (15 + x) = 0 by omega]⟩
    · refine gx_1f (c := .eq) rfl (by first | decide | omega) hc30 rfl ?_
      refine ex_go (S := (185, [(0, gx_r 0), (1, .inl x), (2, .inl 7)], [.inl 1], t0, n, 0)) rfl (fun _ => rfl) rfl ?_
      refine ex_go (S := (189, [(0, gx_r 0), (1, .inl x), (2, .inl 7)], [.inl 1], t0, n, 0)) rfl (fun _ => rfl) rfl ?_
      refine ex_ret (r := (some (.inl 1), t0, n, 0)) rfl (fun _ => rfl) ?_
      exact ⟨_, rfl, by unfold cwa; rw [if_neg (by decide), if_neg (by decide), if_neg (by decide), if_neg (by decide), if_neg (by decide), if_neg (by decide), if_neg (by decide), show σ (15 + x) = 1 by omega]⟩
theorem sc_crewx191 (n : Nat) {t0 : en_H} {w : Nat → Nat → Nat} {L : List Nat} {σ : Nat → Nat} {x y : Nat} (g0 : ai_HG ah_G t0) (hC : CW t0 191 w L) (hw : WS w) (k10 : ai_hv t0 0 10 = some (gx_r 191)) (hS : SC t0 8 (w 0 2) (w 0 4) σ) (hb : sbd σ) (hi : ∀ i j, i < w 0 4 → j < w 0 4 → w 3 i = w 3 j → i = j) (hx : x < 4294967296) (hy : y < 4294967296) (hn : ¬ (x < w 0 4 ∧ y ≤ 7)) : ∃ fuel ls, en_run en_df none (en_u 60) (en_code 88) (fun pc => Nat.beq pc 24) fuel 0 [(0, gx_r 0), (1, .inl x), (2, .inl y)] [] t0 n 0 = some (.inr (24, ls, [], t0, n, 0)) := by
  have hT := hw.1.2.2.1
  have hK := hw.1.2.2.2.2.1
  have h : en_ex none (en_u 60) (en_code 88) (fun pc => Nat.beq pc 24) (0, [(0, gx_r 0), (1, .inl x), (2, .inl y)], [], t0, n, 0) (fun o => ∃ ls, o = .inr (24, ls, [], t0, n, 0)) := by
    refine ex_go (S := (1, [(0, gx_r 0), (1, .inl x), (2, .inl y)], [gx_r 0], t0, n, 0)) rfl (fun _ => rfl) rfl ?_
    refine gxo_get (a := 0) rfl g0 rfl rfl k10 rfl ?_
    refine gxo_ref (a := 191) (c := 206) rfl g0 rfl rfl rfl rfl rfl ?_
    refine ex_go (S := (8, [(0, gx_r 0), (1, .inl x), (2, .inl y)], [.inl x, gx_r 206], t0, n, 0)) rfl (fun _ => rfl) rfl ?_
    obtain ⟨_, r121, b121, rfl, hb121, hi121⟩ := pz_holds206 (59) n (x := x) (K := w 0 4) g0 (by first | decide | omega) hC.1.2.2.2.2.2 (by first | decide | omega)
    refine gx_callo (a := 206) rfl rfl g0 rfl rfl rfl r121 rfl ?_
    show en_ex _ _ _ _ (11, [(0, gx_r 0), (1, .inl x), (2, .inl y)], [.inl b121], t0, n, 0) _
    rcases (show b121 = 0 ∨ b121 = 1 by omega) with h9 | h9
    · rw [h9]
      exact ex_stop (S := (24, [(0, gx_r 0), (1, .inl x), (2, .inl y)], [], t0, n, 0)) rfl (fun _ => rfl) rfl ⟨_, rfl⟩
    · rw [h9]
      refine ex_go (S := (14, [(0, gx_r 0), (1, .inl x), (2, .inl y)], [], t0, n, 0)) rfl (fun _ => rfl) rfl ?_
      refine ex_go (S := (15, [(0, gx_r 0), (1, .inl x), (2, .inl y)], [.inl y], t0, n, 0)) rfl (fun _ => rfl) rfl ?_
      refine ex_go (S := (16, [(0, gx_r 0), (1, .inl x), (2, .inl y)], [.inl 0, .inl y], t0, n, 0)) rfl (fun _ => rfl) rfl ?_
      refine ex_go (S := (18, [(0, gx_r 0), (1, .inl x), (2, .inl y)], [.inl 7, .inl 0, .inl y], t0, n, 0)) rfl (fun _ => rfl) rfl ?_
      obtain ⟨_, r22, b23, rfl, b23b, q24⟩ := pz_isWithin (59) n (t0 := t0) (x := y) (lo := 0) (hi := 7) (by first | decide | omega) (by first | decide | omega) (by first | decide | omega)
      refine ex_stat rfl rfl rfl rfl rfl r22 (Nat.le_refl _) rfl ?_
      show en_ex _ _ _ _ (21, [(0, gx_r 0), (1, .inl x), (2, .inl y)], [.inl b23], t0, n, 0) _
      rcases (show b23 = 0 ∨ b23 = 1 by omega) with h9 | h9
      · rw [h9]
        exact ex_stop (S := (24, [(0, gx_r 0), (1, .inl x), (2, .inl y)], [], t0, n, 0)) rfl (fun _ => rfl) rfl ⟨_, rfl⟩
      · rw [h9]
        exact absurd ⟨by omega, by omega⟩ hn
  obtain ⟨fuel, o, h1, ls, rfl⟩ := h
  exact ⟨fuel, ls, h1⟩
theorem sc_crew257 (d n : Nat) {t0 : en_H} {w : Nat → Nat → Nat} {L : List Nat} {σ : Nat → Nat} {x y : Nat} (g0 : ai_HG ah_G t0) (hC : CW t0 257 w L) (hw : WS w) (k10 : ai_hv t0 0 10 = some (gx_r 257)) (hS : SC t0 8 (w 0 2) (w 0 4) σ) (hb : sbd σ) (hi : ∀ i j, i < w 0 4 → j < w 0 4 → w 3 i = w 3 j → i = j) (hx : x < w 0 4) (hy : y ≤ 7) : ∃ r, en_u (d + 3) 88 [gx_r 0, .inl x, .inl y] t0 n = some r ∧ r = (some (.inl (cwa w σ x y)), t0, n, 0) := by
  have hT := hw.1.2.2.1
  have hK := hw.1.2.2.2.2.1
  refine en_u_ex (d := d + 2) rfl ?_
  show en_ex _ _ _ _ (0, [(0, gx_r 0), (1, .inl x), (2, .inl y)], [], t0, n, 0) _
  have ho9 : σ (11 + x) ≤ 1 ∧ σ (15 + x) ≤ 1 := by
    rcases (show x = 0 ∨ x = 1 by omega) with rfl | rfl
    · exact ⟨hb.2.2.1.1, hb.2.2.2.2.1.1⟩
    · exact ⟨hb.2.2.1.2, hb.2.2.2.2.1.2⟩
  refine ex_go (S := (1, [(0, gx_r 0), (1, .inl x), (2, .inl y)], [gx_r 0], t0, n, 0)) rfl (fun _ => rfl) rfl ?_
  refine gxo_get (a := 0) rfl g0 rfl rfl k10 rfl ?_
  refine gxo_ref (a := 257) (c := 272) rfl g0 rfl rfl rfl rfl rfl ?_
  refine ex_go (S := (8, [(0, gx_r 0), (1, .inl x), (2, .inl y)], [.inl x, gx_r 272], t0, n, 0)) rfl (fun _ => rfl) rfl ?_
  obtain ⟨_, r121, b121, rfl, hb121, hi121⟩ := pz_holds272 (d + 1) n (x := x) (K := w 0 4) g0 (by first | decide | omega) hC.1.2.2.2.2.2 (by first | decide | omega)
  refine gx_callo (a := 272) rfl rfl g0 rfl rfl rfl r121 rfl ?_
  show en_ex _ _ _ _ (11, [(0, gx_r 0), (1, .inl x), (2, .inl y)], [.inl b121], t0, n, 0) _
  refine gx_1f (c := .eq) rfl (by first | decide | omega) (show ¬ (b121 = 0) from by omega) rfl ?_
  refine ex_go (S := (15, [(0, gx_r 0), (1, .inl x), (2, .inl y)], [.inl y], t0, n, 0)) rfl (fun _ => rfl) rfl ?_
  refine ex_go (S := (16, [(0, gx_r 0), (1, .inl x), (2, .inl y)], [.inl 0, .inl y], t0, n, 0)) rfl (fun _ => rfl) rfl ?_
  refine ex_go (S := (18, [(0, gx_r 0), (1, .inl x), (2, .inl y)], [.inl 7, .inl 0, .inl y], t0, n, 0)) rfl (fun _ => rfl) rfl ?_
  obtain ⟨_, r22, b23, rfl, b23b, q24⟩ := pz_isWithin (d + 1) n (t0 := t0) (x := y) (lo := 0) (hi := 7) (by first | decide | omega) (by first | decide | omega) (by first | decide | omega)
  refine ex_stat rfl rfl rfl rfl rfl r22 (Nat.le_refl _) rfl ?_
  show en_ex _ _ _ _ (21, [(0, gx_r 0), (1, .inl x), (2, .inl y)], [.inl b23], t0, n, 0) _
  refine gx_1t (c := .ne) rfl (by first | decide | omega) (show b23 ≠ 0 from by omega) rfl ?_
  rcases (show y = 0 ∨ y = 1 ∨ y = 2 ∨ y = 3 ∨ y = 4 ∨ y = 5 ∨ y = 6 ∨ y = 7 by omega) with rfl | rfl | rfl | rfl | rfl | rfl | rfl | rfl
  · show en_ex _ _ _ _ (34, [(0, gx_r 0), (1, .inl x), (2, .inl 0)], [], t0, n, 0) _
    refine ex_go (S := (35, [(0, gx_r 0), (1, .inl x), (2, .inl 0)], [.inl 0], t0, n, 0)) rfl (fun _ => rfl) rfl ?_
    refine ex_go (S := (76, [(0, gx_r 0), (1, .inl x), (2, .inl 0)], [], t0, n, 0)) rfl (fun _ => rfl) rfl ?_
    refine ex_go (S := (77, [(0, gx_r 0), (1, .inl x), (2, .inl 0)], [gx_r 0], t0, n, 0)) rfl (fun _ => rfl) rfl ?_
    refine gxo_get (a := 0) rfl g0 rfl rfl k10 rfl ?_
    refine gxo_ref (a := 257) (c := 272) rfl g0 rfl rfl rfl rfl rfl ?_
    refine gxo_ref (a := 272) (c := 274) rfl g0 rfl rfl rfl rfl rfl ?_
    refine ex_go (S := (87, [(0, gx_r 0), (1, .inl x), (2, .inl 0)], [.inl x, gx_r 274], t0, n, 0)) rfl (fun _ => rfl) rfl ?_
    refine gx_ag (v := .inl (w 3 x)) (cb := fun c => Nat.beq c 0) rfl (fun _ => rfl) g0 rfl rfl (hC.2.2.1 x (by first | decide | omega)).1 (by first | decide | omega) rfl ?_
    refine ex_ret (r := (some (.inl (w 3 x)), t0, n, 0)) rfl (fun _ => rfl) ?_
    exact ⟨_, rfl, by unfold cwa; rw [if_pos rfl]⟩
  · show en_ex _ _ _ _ (34, [(0, gx_r 0), (1, .inl x), (2, .inl 1)], [], t0, n, 0) _
    refine ex_go (S := (35, [(0, gx_r 0), (1, .inl x), (2, .inl 1)], [.inl 1], t0, n, 0)) rfl (fun _ => rfl) rfl ?_
    refine ex_go (S := (89, [(0, gx_r 0), (1, .inl x), (2, .inl 1)], [], t0, n, 0)) rfl (fun _ => rfl) rfl ?_
    refine ex_go (S := (90, [(0, gx_r 0), (1, .inl x), (2, .inl 1)], [gx_r 0], t0, n, 0)) rfl (fun _ => rfl) rfl ?_
    refine gxo_get (a := 0) rfl g0 rfl rfl k10 rfl ?_
    refine gxo_ref (a := 257) (c := 272) rfl g0 rfl rfl rfl rfl rfl ?_
    refine gxo_ref (a := 272) (c := 275) rfl g0 rfl rfl rfl rfl rfl ?_
    refine ex_go (S := (100, [(0, gx_r 0), (1, .inl x), (2, .inl 1)], [.inl x, gx_r 275], t0, n, 0)) rfl (fun _ => rfl) rfl ?_
    refine gx_ag (v := .inl (w 2 x)) (cb := fun c => Nat.beq c 0) rfl (fun _ => rfl) g0 rfl rfl (hC.2.2.1 x (by first | decide | omega)).2.1 (by first | decide | omega) rfl ?_
    refine ex_ret (r := (some (.inl (w 2 x)), t0, n, 0)) rfl (fun _ => rfl) ?_
    exact ⟨_, rfl, by unfold cwa; rw [if_neg (by decide), if_pos rfl]⟩
  · show en_ex _ _ _ _ (34, [(0, gx_r 0), (1, .inl x), (2, .inl 2)], [], t0, n, 0) _
    refine ex_go (S := (35, [(0, gx_r 0), (1, .inl x), (2, .inl 2)], [.inl 2], t0, n, 0)) rfl (fun _ => rfl) rfl ?_
    refine ex_go (S := (102, [(0, gx_r 0), (1, .inl x), (2, .inl 2)], [], t0, n, 0)) rfl (fun _ => rfl) rfl ?_
    refine ex_go (S := (103, [(0, gx_r 0), (1, .inl x), (2, .inl 2)], [gx_r 0], t0, n, 0)) rfl (fun _ => rfl) rfl ?_
    refine gxo_ref (a := 0) (c := 8) rfl g0 rfl rfl rfl rfl rfl ?_
    refine gxo_ref (a := 8) (c := 10) rfl g0 rfl rfl rfl rfl rfl ?_
    refine ex_go (S := (110, [(0, gx_r 0), (1, .inl x), (2, .inl 2)], [.inl x, gx_r 10], t0, n, 0)) rfl (fun _ => rfl) rfl ?_
    refine gx_ag (v := .inl (σ (7 + x))) (cb := fun c => Nat.beq c 0) rfl (fun _ => rfl) g0 rfl rfl (hS.2.2 x (by first | decide | omega)).1 (by first | decide | omega) rfl ?_
    refine ex_ret (r := (some (.inl (σ (7 + x))), t0, n, 0)) rfl (fun _ => rfl) ?_
    exact ⟨_, rfl, by unfold cwa; rw [if_neg (by decide), if_neg (by decide), if_pos rfl]⟩
  · show en_ex _ _ _ _ (34, [(0, gx_r 0), (1, .inl x), (2, .inl 3)], [], t0, n, 0) _
    refine ex_go (S := (35, [(0, gx_r 0), (1, .inl x), (2, .inl 3)], [.inl 3], t0, n, 0)) rfl (fun _ => rfl) rfl ?_
    refine ex_go (S := (112, [(0, gx_r 0), (1, .inl x), (2, .inl 3)], [], t0, n, 0)) rfl (fun _ => rfl) rfl ?_
    refine ex_go (S := (113, [(0, gx_r 0), (1, .inl x), (2, .inl 3)], [gx_r 0], t0, n, 0)) rfl (fun _ => rfl) rfl ?_
    refine gxo_ref (a := 0) (c := 8) rfl g0 rfl rfl rfl rfl rfl ?_
    refine gxo_ref (a := 8) (c := 11) rfl g0 rfl rfl rfl rfl rfl ?_
    refine ex_go (S := (120, [(0, gx_r 0), (1, .inl x), (2, .inl 3)], [.inl x, gx_r 11], t0, n, 0)) rfl (fun _ => rfl) rfl ?_
    refine gx_ag (v := .inl (σ (9 + x))) (cb := fun c => Nat.beq c 0) rfl (fun _ => rfl) g0 rfl rfl (hS.2.2 x (by first | decide | omega)).2.1 (by first | decide | omega) rfl ?_
    refine ex_ret (r := (some (.inl (σ (9 + x))), t0, n, 0)) rfl (fun _ => rfl) ?_
    exact ⟨_, rfl, by unfold cwa; rw [if_neg (by decide), if_neg (by decide), if_neg (by decide), if_pos rfl]⟩
  · show en_ex _ _ _ _ (34, [(0, gx_r 0), (1, .inl x), (2, .inl 4)], [], t0, n, 0) _
    refine ex_go (S := (35, [(0, gx_r 0), (1, .inl x), (2, .inl 4)], [.inl 4], t0, n, 0)) rfl (fun _ => rfl) rfl ?_
    refine ex_go (S := (122, [(0, gx_r 0), (1, .inl x), (2, .inl 4)], [], t0, n, 0)) rfl (fun _ => rfl) rfl ?_
    refine ex_go (S := (123, [(0, gx_r 0), (1, .inl x), (2, .inl 4)], [gx_r 0], t0, n, 0)) rfl (fun _ => rfl) rfl ?_
    refine gxo_ref (a := 0) (c := 8) rfl g0 rfl rfl rfl rfl rfl ?_
    refine gxo_ref (a := 8) (c := 12) rfl g0 rfl rfl rfl rfl rfl ?_
    refine ex_go (S := (130, [(0, gx_r 0), (1, .inl x), (2, .inl 4)], [.inl x, gx_r 12], t0, n, 0)) rfl (fun _ => rfl) rfl ?_
    refine gx_ag (v := .inl (σ (11 + x))) (cb := fun c => Nat.beq c 2 || Nat.beq c 1) rfl (fun _ => rfl) g0 rfl rfl (hS.2.2 x (by first | decide | omega)).2.2.1 (by first | decide | omega) rfl ?_
    by_cases hc25 : σ (11 + x) = 0
    · refine gx_1t (c := .eq) rfl (by first | decide | omega) hc25 rfl ?_
      refine ex_go (S := (139, [(0, gx_r 0), (1, .inl x), (2, .inl 4)], [.inl 0], t0, n, 0)) rfl (fun _ => rfl) rfl ?_
      refine ex_ret (r := (some (.inl 0), t0, n, 0)) rfl (fun _ => rfl) ?_
      exact ⟨_, rfl, by unfold cwa; rw [if_neg (by decide), if_neg (by decide), if_neg (by decide), if_neg (by decide), if_pos rfl, show σ (11 + x) = 0 by omega]⟩
    · refine gx_1f (c := .eq) rfl (by first | decide | omega) hc25 rfl ?_
      refine ex_go (S := (135, [(0, gx_r 0), (1, .inl x), (2, .inl 4)], [.inl 1], t0, n, 0)) rfl (fun _ => rfl) rfl ?_
      refine ex_go (S := (139, [(0, gx_r 0), (1, .inl x), (2, .inl 4)], [.inl 1], t0, n, 0)) rfl (fun _ => rfl) rfl ?_
      refine ex_ret (r := (some (.inl 1), t0, n, 0)) rfl (fun _ => rfl) ?_
      exact ⟨_, rfl, by unfold cwa; rw [if_neg (by decide), if_neg (by decide), if_neg (by decide), if_neg (by decide), if_pos rfl, show σ (11 + x) = 1 by omega]⟩
  · show en_ex _ _ _ _ (34, [(0, gx_r 0), (1, .inl x), (2, .inl 5)], [], t0, n, 0) _
    refine ex_go (S := (35, [(0, gx_r 0), (1, .inl x), (2, .inl 5)], [.inl 5], t0, n, 0)) rfl (fun _ => rfl) rfl ?_
    refine ex_go (S := (140, [(0, gx_r 0), (1, .inl x), (2, .inl 5)], [], t0, n, 0)) rfl (fun _ => rfl) rfl ?_
    refine ex_go (S := (141, [(0, gx_r 0), (1, .inl x), (2, .inl 5)], [gx_r 0], t0, n, 0)) rfl (fun _ => rfl) rfl ?_
    refine gxo_ref (a := 0) (c := 8) rfl g0 rfl rfl rfl rfl rfl ?_
    refine ex_go (S := (145, [(0, gx_r 0), (1, .inl x), (2, .inl 5)], [gx_r 0, gx_r 8], t0, n, 0)) rfl (fun _ => rfl) rfl ?_
    refine gxo_get (a := 0) rfl g0 rfl rfl k10 rfl ?_
    refine ex_go (S := (149, [(0, gx_r 0), (1, .inl x), (2, .inl 5)], [.inl x, gx_r 257, gx_r 8], t0, n, 0)) rfl (fun _ => rfl) rfl ?_
    obtain ⟨_, r26, rfl⟩ := sc_sled8_257 (d + 1) n (c := x) g0 hC hw hb hS (by first | decide | omega)
    have hsl := slp_lt9 hw hb (c := x) (by first | decide | omega)
    refine gx_callo (a := 8) rfl rfl g0 rfl rfl rfl r26 rfl ?_
    show en_ex _ _ _ _ (152, [(0, gx_r 0), (1, .inl x), (2, .inl 5)], [.inl (slp w σ x)], t0, n, 0) _
    obtain ⟨_, r27, rfl⟩ := pz_over (d + 1) n (t0 := t0) (x := slp w σ x) (by first | decide | omega)
    refine ex_stat rfl rfl rfl rfl rfl r27 (Nat.le_refl _) rfl ?_
    show en_ex _ _ _ _ (155, [(0, gx_r 0), (1, .inl x), (2, .inl 5)], [.inl ((slp w σ x) % 8)], t0, n, 0) _
    refine ex_ret (r := (some (.inl ((slp w σ x) % 8)), t0, n, 0)) rfl (fun _ => rfl) ?_
    exact ⟨_, rfl, by unfold cwa; rw [if_neg (by decide), if_neg (by decide), if_neg (by decide), if_neg (by decide), if_neg (by decide), if_pos rfl]⟩
  · show en_ex _ _ _ _ (34, [(0, gx_r 0), (1, .inl x), (2, .inl 6)], [], t0, n, 0) _
    refine ex_go (S := (35, [(0, gx_r 0), (1, .inl x), (2, .inl 6)], [.inl 6], t0, n, 0)) rfl (fun _ => rfl) rfl ?_
    refine ex_go (S := (156, [(0, gx_r 0), (1, .inl x), (2, .inl 6)], [], t0, n, 0)) rfl (fun _ => rfl) rfl ?_
    refine ex_go (S := (157, [(0, gx_r 0), (1, .inl x), (2, .inl 6)], [gx_r 0], t0, n, 0)) rfl (fun _ => rfl) rfl ?_
    refine gxo_ref (a := 0) (c := 8) rfl g0 rfl rfl rfl rfl rfl ?_
    refine ex_go (S := (161, [(0, gx_r 0), (1, .inl x), (2, .inl 6)], [gx_r 0, gx_r 8], t0, n, 0)) rfl (fun _ => rfl) rfl ?_
    refine gxo_get (a := 0) rfl g0 rfl rfl k10 rfl ?_
    refine ex_go (S := (165, [(0, gx_r 0), (1, .inl x), (2, .inl 6)], [.inl x, gx_r 257, gx_r 8], t0, n, 0)) rfl (fun _ => rfl) rfl ?_
    obtain ⟨_, r28, rfl⟩ := sc_sled8_257 (d + 1) n (c := x) g0 hC hw hb hS (by first | decide | omega)
    have hsl := slp_lt9 hw hb (c := x) (by first | decide | omega)
    refine gx_callo (a := 8) rfl rfl g0 rfl rfl rfl r28 rfl ?_
    show en_ex _ _ _ _ (168, [(0, gx_r 0), (1, .inl x), (2, .inl 6)], [.inl (slp w σ x)], t0, n, 0) _
    obtain ⟨_, r29, rfl⟩ := pz_down (d + 1) n (t0 := t0) (x := slp w σ x) (by first | decide | omega)
    refine ex_stat rfl rfl rfl rfl rfl r29 (Nat.le_refl _) rfl ?_
    show en_ex _ _ _ _ (171, [(0, gx_r 0), (1, .inl x), (2, .inl 6)], [.inl ((slp w σ x) / 8)], t0, n, 0) _
    refine ex_ret (r := (some (.inl ((slp w σ x) / 8)), t0, n, 0)) rfl (fun _ => rfl) ?_
    exact ⟨_, rfl, by unfold cwa; rw [if_neg (by decide), if_neg (by decide), if_neg (by decide), if_neg (by decide), if_neg (by decide), if_neg (by decide), if_pos rfl]⟩
  · show en_ex _ _ _ _ (34, [(0, gx_r 0), (1, .inl x), (2, .inl 7)], [], t0, n, 0) _
    refine ex_go (S := (35, [(0, gx_r 0), (1, .inl x), (2, .inl 7)], [.inl 7], t0, n, 0)) rfl (fun _ => rfl) rfl ?_
    refine ex_go (S := (172, [(0, gx_r 0), (1, .inl x), (2, .inl 7)], [], t0, n, 0)) rfl (fun _ => rfl) rfl ?_
    refine ex_go (S := (173, [(0, gx_r 0), (1, .inl x), (2, .inl 7)], [gx_r 0], t0, n, 0)) rfl (fun _ => rfl) rfl ?_
    refine gxo_ref (a := 0) (c := 8) rfl g0 rfl rfl rfl rfl rfl ?_
    refine gxo_ref (a := 8) (c := 13) rfl g0 rfl rfl rfl rfl rfl ?_
    refine ex_go (S := (180, [(0, gx_r 0), (1, .inl x), (2, .inl 7)], [.inl x, gx_r 13], t0, n, 0)) rfl (fun _ => rfl) rfl ?_
    refine gx_ag (v := .inl (σ (15 + x))) (cb := fun c => Nat.beq c 2 || Nat.beq c 1) rfl (fun _ => rfl) g0 rfl rfl (hS.2.2 x (by first | decide | omega)).2.2.2.1 (by first | decide | omega) rfl ?_
    by_cases hc30 : σ (15 + x) = 0
    · refine gx_1t (c := .eq) rfl (by first | decide | omega) hc30 rfl ?_
      refine ex_go (S := (189, [(0, gx_r 0), (1, .inl x), (2, .inl 7)], [.inl 0], t0, n, 0)) rfl (fun _ => rfl) rfl ?_
      refine ex_ret (r := (some (.inl 0), t0, n, 0)) rfl (fun _ => rfl) ?_
      exact ⟨_, rfl, by unfold cwa; rw [if_neg (by decide), if_neg (by decide), if_neg (by decide), if_neg (by decide), if_neg (by decide), if_neg (by decide), if_neg (by decide), show σ (15 + x) = 0 by omega]⟩
    · refine gx_1f (c := .eq) rfl (by first | decide | omega) hc30 rfl ?_
      refine ex_go (S := (185, [(0, gx_r 0), (1, .inl x), (2, .inl 7)], [.inl 1], t0, n, 0)) rfl (fun _ => rfl) rfl ?_
      refine ex_go (S := (189, [(0, gx_r 0), (1, .inl x), (2, .inl 7)], [.inl 1], t0, n, 0)) rfl (fun _ => rfl) rfl ?_
      refine ex_ret (r := (some (.inl 1), t0, n, 0)) rfl (fun _ => rfl) ?_
      exact ⟨_, rfl, by unfold cwa; rw [if_neg (by decide), if_neg (by decide), if_neg (by decide), if_neg (by decide), if_neg (by decide), if_neg (by decide), if_neg (by decide), show σ (15 + x) = 1 by omega]⟩
theorem sc_crewx257 (n : Nat) {t0 : en_H} {w : Nat → Nat → Nat} {L : List Nat} {σ : Nat → Nat} {x y : Nat} (g0 : ai_HG ah_G t0) (hC : CW t0 257 w L) (hw : WS w) (k10 : ai_hv t0 0 10 = some (gx_r 257)) (hS : SC t0 8 (w 0 2) (w 0 4) σ) (hb : sbd σ) (hi : ∀ i j, i < w 0 4 → j < w 0 4 → w 3 i = w 3 j → i = j) (hx : x < 4294967296) (hy : y < 4294967296) (hn : ¬ (x < w 0 4 ∧ y ≤ 7)) : ∃ fuel ls, en_run en_df none (en_u 60) (en_code 88) (fun pc => Nat.beq pc 24) fuel 0 [(0, gx_r 0), (1, .inl x), (2, .inl y)] [] t0 n 0 = some (.inr (24, ls, [], t0, n, 0)) := by
  have hT := hw.1.2.2.1
  have hK := hw.1.2.2.2.2.1
  have h : en_ex none (en_u 60) (en_code 88) (fun pc => Nat.beq pc 24) (0, [(0, gx_r 0), (1, .inl x), (2, .inl y)], [], t0, n, 0) (fun o => ∃ ls, o = .inr (24, ls, [], t0, n, 0)) := by
    refine ex_go (S := (1, [(0, gx_r 0), (1, .inl x), (2, .inl y)], [gx_r 0], t0, n, 0)) rfl (fun _ => rfl) rfl ?_
    refine gxo_get (a := 0) rfl g0 rfl rfl k10 rfl ?_
    refine gxo_ref (a := 257) (c := 272) rfl g0 rfl rfl rfl rfl rfl ?_
    refine ex_go (S := (8, [(0, gx_r 0), (1, .inl x), (2, .inl y)], [.inl x, gx_r 272], t0, n, 0)) rfl (fun _ => rfl) rfl ?_
    obtain ⟨_, r121, b121, rfl, hb121, hi121⟩ := pz_holds272 (59) n (x := x) (K := w 0 4) g0 (by first | decide | omega) hC.1.2.2.2.2.2 (by first | decide | omega)
    refine gx_callo (a := 272) rfl rfl g0 rfl rfl rfl r121 rfl ?_
    show en_ex _ _ _ _ (11, [(0, gx_r 0), (1, .inl x), (2, .inl y)], [.inl b121], t0, n, 0) _
    rcases (show b121 = 0 ∨ b121 = 1 by omega) with h9 | h9
    · rw [h9]
      exact ex_stop (S := (24, [(0, gx_r 0), (1, .inl x), (2, .inl y)], [], t0, n, 0)) rfl (fun _ => rfl) rfl ⟨_, rfl⟩
    · rw [h9]
      refine ex_go (S := (14, [(0, gx_r 0), (1, .inl x), (2, .inl y)], [], t0, n, 0)) rfl (fun _ => rfl) rfl ?_
      refine ex_go (S := (15, [(0, gx_r 0), (1, .inl x), (2, .inl y)], [.inl y], t0, n, 0)) rfl (fun _ => rfl) rfl ?_
      refine ex_go (S := (16, [(0, gx_r 0), (1, .inl x), (2, .inl y)], [.inl 0, .inl y], t0, n, 0)) rfl (fun _ => rfl) rfl ?_
      refine ex_go (S := (18, [(0, gx_r 0), (1, .inl x), (2, .inl y)], [.inl 7, .inl 0, .inl y], t0, n, 0)) rfl (fun _ => rfl) rfl ?_
      obtain ⟨_, r22, b23, rfl, b23b, q24⟩ := pz_isWithin (59) n (t0 := t0) (x := y) (lo := 0) (hi := 7) (by first | decide | omega) (by first | decide | omega) (by first | decide | omega)
      refine ex_stat rfl rfl rfl rfl rfl r22 (Nat.le_refl _) rfl ?_
      show en_ex _ _ _ _ (21, [(0, gx_r 0), (1, .inl x), (2, .inl y)], [.inl b23], t0, n, 0) _
      rcases (show b23 = 0 ∨ b23 = 1 by omega) with h9 | h9
      · rw [h9]
        exact ex_stop (S := (24, [(0, gx_r 0), (1, .inl x), (2, .inl y)], [], t0, n, 0)) rfl (fun _ => rfl) rfl ⟨_, rfl⟩
      · rw [h9]
        exact absurd ⟨by omega, by omega⟩ hn
  obtain ⟨fuel, o, h1, ls, rfl⟩ := h
  exact ⟨fuel, ls, h1⟩
theorem sr_thing (d n : Nat) {t0 : en_H} {w : Nat → Nat → Nat} {L : List Nat} {σ : Nat → Nat} {x y : Nat} (g0 : ai_HG ah_G t0) (hR : RW t0 w L) (hS : blk t0 0 σ) (hb : sbd σ) (hx : x < 4294967296) (hy : y < 4294967296) : ∃ r, en_u (d + 3) 40 [gx_r 383, .inl x, .inl y] t0 n = some r ∧ ∃ v t', r = (some (.inl v), t', n, 0) ∧ ((x < w 0 2 ∧ y ≤ 3) → v = tha w σ x y ∧ ai_hv t' 383 0 = some (.inl 0)) ∧ (¬ (x < w 0 2 ∧ y ≤ 3) → ai_hv t' 383 0 = some (.inl 1)) ∧ ai_hv t' 412 0 = ai_hv t0 412 0 := by
  have hT := hR.2.1.2.2.1
  have hK := hR.2.1.2.2.2.2.1
  refine en_u_ex (d := d + 2) rfl ?_
  show en_ex _ _ _ _ (0, [(0, gx_r 383), (1, .inl x), (2, .inl y)], [], t0, n, 0) _
  refine ex_go (S := (1, [(0, gx_r 383), (1, .inl x), (2, .inl y)], [gx_r 383], t0, n, 0)) rfl (fun _ => rfl) rfl ?_
  refine ex_go (S := (2, [(0, gx_r 383), (1, .inl x), (2, .inl y)], [gx_r 383, gx_r 383], t0, n, 0)) rfl (fun _ => rfl) rfl ?_
  refine ex_go (S := (3, [(0, gx_r 383), (1, .inl x), (2, .inl y)], [.inl x, gx_r 383, gx_r 383], t0, n, 0)) rfl (fun _ => rfl) rfl ?_
  obtain ⟨_, r121, b121, rfl, hb121, hi121⟩ := sr_isThing d n (c := x) (K := w 0 2) g0 (by first | decide | omega) ((hR.1 2 (by first | decide | omega))) (by first | decide | omega)
  refine gx_call1 rfl rfl g0 rfl rfl r121 rfl ?_
  show en_ex _ _ _ _ (6, [(0, gx_r 383), (1, .inl x), (2, .inl y)], [.inl b121, gx_r 383], t0, n, 0) _
  by_cases hc22 : b121 = 0
  · refine gx_1t (c := .eq) rfl (by first | decide | omega) hc22 rfl ?_
    refine ex_go (S := (23, [(0, gx_r 383), (1, .inl x), (2, .inl y)], [.inl 1, gx_r 383], t0, n, 0)) rfl (fun _ => rfl) rfl ?_
    refine gx_put rfl g0 rfl rfl (ai_in_h (by first | decide | omega) (by first | decide | omega) (by first | decide | omega)) rfl (fun t123 g123 k123 e123 => ?_)
    refine ex_go (S := (27, [(0, gx_r 383), (1, .inl x), (2, .inl y)], [gx_r 383], t123, n, 0)) rfl (fun _ => rfl) rfl ?_
    refine gx_get rfl g123 rfl k123 rfl ?_
    refine ex_go (S := (33, [(0, gx_r 383), (1, .inl x), (2, .inl y)], [], t123, n, 0)) rfl (fun _ => rfl) rfl ?_
    refine ex_go (S := (34, [(0, gx_r 383), (1, .inl x), (2, .inl y)], [.inl 0], t123, n, 0)) rfl (fun _ => rfl) rfl ?_
    refine ex_ret (r := (some (.inl 0), t123, n, 0)) rfl (fun _ => rfl) ?_
    exact ⟨_, rfl, _, _, rfl, (fun c9 => by omega), (fun _ => k123), e123 412 0 (by first | decide | omega)⟩
  · refine gx_1f (c := .eq) rfl (by first | decide | omega) hc22 rfl ?_
    refine ex_go (S := (10, [(0, gx_r 383), (1, .inl x), (2, .inl y)], [.inl y, gx_r 383], t0, n, 0)) rfl (fun _ => rfl) rfl ?_
    refine ex_go (S := (11, [(0, gx_r 383), (1, .inl x), (2, .inl y)], [.inl 0, .inl y, gx_r 383], t0, n, 0)) rfl (fun _ => rfl) rfl ?_
    refine ex_go (S := (12, [(0, gx_r 383), (1, .inl x), (2, .inl y)], [.inl 3, .inl 0, .inl y, gx_r 383], t0, n, 0)) rfl (fun _ => rfl) rfl ?_
    obtain ⟨_, r24, b25, rfl, b25b, q26⟩ := pz_within (d + 1) n (t0 := t0) (x := y) (lo := 0) (hi := 3) (by first | decide | omega) (by first | decide | omega) (by first | decide | omega)
    refine ex_stat rfl rfl rfl rfl rfl r24 (Nat.le_refl _) rfl ?_
    show en_ex _ _ _ _ (15, [(0, gx_r 383), (1, .inl x), (2, .inl y)], [.inl b25, gx_r 383], t0, n, 0) _
    by_cases hc27 : b25 = 0
    · refine gx_1t (c := .eq) rfl (by first | decide | omega) hc27 rfl ?_
      refine ex_go (S := (23, [(0, gx_r 383), (1, .inl x), (2, .inl y)], [.inl 1, gx_r 383], t0, n, 0)) rfl (fun _ => rfl) rfl ?_
      refine gx_put rfl g0 rfl rfl (ai_in_h (by first | decide | omega) (by first | decide | omega) (by first | decide | omega)) rfl (fun t128 g128 k128 e128 => ?_)
      refine ex_go (S := (27, [(0, gx_r 383), (1, .inl x), (2, .inl y)], [gx_r 383], t128, n, 0)) rfl (fun _ => rfl) rfl ?_
      refine gx_get rfl g128 rfl k128 rfl ?_
      refine ex_go (S := (33, [(0, gx_r 383), (1, .inl x), (2, .inl y)], [], t128, n, 0)) rfl (fun _ => rfl) rfl ?_
      refine ex_go (S := (34, [(0, gx_r 383), (1, .inl x), (2, .inl y)], [.inl 0], t128, n, 0)) rfl (fun _ => rfl) rfl ?_
      refine ex_ret (r := (some (.inl 0), t128, n, 0)) rfl (fun _ => rfl) ?_
      exact ⟨_, rfl, _, _, rfl, (fun c9 => by omega), (fun _ => k128), e128 412 0 (by first | decide | omega)⟩
    · refine gx_1f (c := .eq) rfl (by first | decide | omega) hc27 rfl ?_
      refine ex_go (S := (19, [(0, gx_r 383), (1, .inl x), (2, .inl y)], [.inl 0, gx_r 383], t0, n, 0)) rfl (fun _ => rfl) rfl ?_
      refine ex_go (S := (23, [(0, gx_r 383), (1, .inl x), (2, .inl y)], [.inl 0, gx_r 383], t0, n, 0)) rfl (fun _ => rfl) rfl ?_
      refine gx_put rfl g0 rfl rfl (ai_in_h (by first | decide | omega) (by first | decide | omega) (by first | decide | omega)) rfl (fun t129 g129 k129 e129 => ?_)
      refine ex_go (S := (27, [(0, gx_r 383), (1, .inl x), (2, .inl y)], [gx_r 383], t129, n, 0)) rfl (fun _ => rfl) rfl ?_
      refine gx_get rfl g129 rfl k129 rfl ?_
      refine ex_go (S := (35, [(0, gx_r 383), (1, .inl x), (2, .inl y)], [], t129, n, 0)) rfl (fun _ => rfl) rfl ?_
      rcases (show y = 0 ∨ y = 1 ∨ y = 2 ∨ y = 3 by omega) with rfl | rfl | rfl | rfl
      · show en_ex _ _ _ _ (35, [(0, gx_r 383), (1, .inl x), (2, .inl 0)], [], t129, n, 0) _
        refine ex_go (S := (36, [(0, gx_r 383), (1, .inl x), (2, .inl 0)], [.inl 0], t129, n, 0)) rfl (fun _ => rfl) rfl ?_
        refine ex_go (S := (39, [(0, gx_r 383), (1, .inl x), (2, .inl 0)], [], t129, n, 0)) rfl (fun _ => rfl) rfl ?_
        refine ex_go (S := (40, [(0, gx_r 383), (1, .inl x), (2, .inl 0)], [gx_r 383], t129, n, 0)) rfl (fun _ => rfl) rfl ?_
        refine ex_go (S := (41, [(0, gx_r 383), (1, .inl x), (2, .inl 0)], [.inl x, gx_r 383], t129, n, 0)) rfl (fun _ => rfl) rfl ?_
        obtain ⟨_, r30, rfl⟩ := sr_kindOf (i := x) (d + 1) n g129 (RW_keep hR (fun i hi => e129 389 i (by first | decide | omega)) (fun c i hc _ => e129 c i (by first | decide | omega))) (by first | decide | omega)
        refine gx_call1 rfl rfl g129 rfl rfl r30 rfl ?_
        show en_ex _ _ _ _ (44, [(0, gx_r 383), (1, .inl x), (2, .inl 0)], [.inl (w 5 x)], t129, n, 0) _
        refine ex_go (S := (90, [(0, gx_r 383), (1, .inl x), (2, .inl 0)], [.inl (w 5 x)], t129, n, 0)) rfl (fun _ => rfl) rfl ?_
        refine ex_ret (r := (some (.inl (w 5 x)), t129, n, 0)) rfl (fun _ => rfl) ?_
        exact ⟨_, rfl, _, _, rfl, (fun _ => ⟨by unfold tha; rw [if_pos rfl], k129⟩), (fun c9 => absurd ⟨by omega, by omega⟩ c9), e129 412 0 (by first | decide | omega)⟩
      · show en_ex _ _ _ _ (35, [(0, gx_r 383), (1, .inl x), (2, .inl 1)], [], t129, n, 0) _
        refine ex_go (S := (36, [(0, gx_r 383), (1, .inl x), (2, .inl 1)], [.inl 1], t129, n, 0)) rfl (fun _ => rfl) rfl ?_
        refine ex_go (S := (47, [(0, gx_r 383), (1, .inl x), (2, .inl 1)], [], t129, n, 0)) rfl (fun _ => rfl) rfl ?_
        refine ex_go (S := (48, [(0, gx_r 383), (1, .inl x), (2, .inl 1)], [.inl 1], t129, n, 0)) rfl (fun _ => rfl) rfl ?_
        refine ex_go (S := (49, [(0, gx_r 383), (1, .inl x), (2, .inl 1)], [.inl 1, .inl 1], t129, n, 0)) rfl (fun _ => rfl) rfl ?_
        refine ex_go (S := (52, [(0, gx_r 383), (1, .inl x), (2, .inl 1)], [], t129, n, 0)) rfl (fun _ => rfl) rfl ?_
        refine ex_go (S := (53, [(0, gx_r 383), (1, .inl x), (2, .inl 1)], [gx_r 383], t129, n, 0)) rfl (fun _ => rfl) rfl ?_
        refine gx_ref (c := 399) rfl g129 rfl rfl rfl rfl ?_
        refine ex_go (S := (57, [(0, gx_r 383), (1, .inl x), (2, .inl 1)], [.inl 1, gx_r 399], t129, n, 0)) rfl (fun _ => rfl) rfl ?_
        refine ex_go (S := (58, [(0, gx_r 383), (1, .inl x), (2, .inl 1)], [.inl x, .inl 1, gx_r 399], t129, n, 0)) rfl (fun _ => rfl) rfl ?_
        refine ex_iadd rfl (by first | decide | omega) rfl ?_
        have k31 : ai_hv t129 399 (1 + x) = some (.inl (σ (1 + x))) := by
          have h9 := hS (1 + x) (by first | decide | omega)
          rw [Nat.zero_add] at h9
          exact (e129 399 (1 + x) (by first | decide | omega)).trans (h9)
        have hk31 := hb.1 x (by first | decide | omega)
        refine gx_ag (v := .inl (σ (1 + x))) (cb := fun c => Nat.beq c 0) rfl (fun _ => rfl) g129 rfl rfl k31 (by first | decide | omega) rfl ?_
        refine ex_go (S := (62, [(0, gx_r 383), (1, .inl x), (2, .inl 1)], [.inl 8, .inl (σ (1 + x))], t129, n, 0)) rfl (fun _ => rfl) rfl ?_
        refine gx_iremn rfl (by first | decide | omega) (by first | decide | omega) (by first | decide | omega) rfl ?_
        refine ex_go (S := (90, [(0, gx_r 383), (1, .inl x), (2, .inl 1)], [.inl ((σ (1 + x)) % 8)], t129, n, 0)) rfl (fun _ => rfl) rfl ?_
        refine ex_ret (r := (some (.inl ((σ (1 + x)) % 8)), t129, n, 0)) rfl (fun _ => rfl) ?_
        exact ⟨_, rfl, _, _, rfl, (fun _ => ⟨by unfold tha; rw [if_neg (by decide), if_pos rfl], k129⟩), (fun c9 => absurd ⟨by omega, by omega⟩ c9), e129 412 0 (by first | decide | omega)⟩
      · show en_ex _ _ _ _ (35, [(0, gx_r 383), (1, .inl x), (2, .inl 2)], [], t129, n, 0) _
        refine ex_go (S := (36, [(0, gx_r 383), (1, .inl x), (2, .inl 2)], [.inl 2], t129, n, 0)) rfl (fun _ => rfl) rfl ?_
        refine ex_go (S := (47, [(0, gx_r 383), (1, .inl x), (2, .inl 2)], [], t129, n, 0)) rfl (fun _ => rfl) rfl ?_
        refine ex_go (S := (48, [(0, gx_r 383), (1, .inl x), (2, .inl 2)], [.inl 2], t129, n, 0)) rfl (fun _ => rfl) rfl ?_
        refine ex_go (S := (49, [(0, gx_r 383), (1, .inl x), (2, .inl 2)], [.inl 1, .inl 2], t129, n, 0)) rfl (fun _ => rfl) rfl ?_
        refine ex_go (S := (66, [(0, gx_r 383), (1, .inl x), (2, .inl 2)], [], t129, n, 0)) rfl (fun _ => rfl) rfl ?_
        refine ex_go (S := (67, [(0, gx_r 383), (1, .inl x), (2, .inl 2)], [.inl 2], t129, n, 0)) rfl (fun _ => rfl) rfl ?_
        refine ex_go (S := (68, [(0, gx_r 383), (1, .inl x), (2, .inl 2)], [.inl 2, .inl 2], t129, n, 0)) rfl (fun _ => rfl) rfl ?_
        refine ex_go (S := (71, [(0, gx_r 383), (1, .inl x), (2, .inl 2)], [], t129, n, 0)) rfl (fun _ => rfl) rfl ?_
        refine ex_go (S := (72, [(0, gx_r 383), (1, .inl x), (2, .inl 2)], [gx_r 383], t129, n, 0)) rfl (fun _ => rfl) rfl ?_
        refine gx_ref (c := 399) rfl g129 rfl rfl rfl rfl ?_
        refine ex_go (S := (76, [(0, gx_r 383), (1, .inl x), (2, .inl 2)], [.inl 1, gx_r 399], t129, n, 0)) rfl (fun _ => rfl) rfl ?_
        refine ex_go (S := (77, [(0, gx_r 383), (1, .inl x), (2, .inl 2)], [.inl x, .inl 1, gx_r 399], t129, n, 0)) rfl (fun _ => rfl) rfl ?_
        refine ex_iadd rfl (by first | decide | omega) rfl ?_
        have k32 : ai_hv t129 399 (1 + x) = some (.inl (σ (1 + x))) := by
          have h9 := hS (1 + x) (by first | decide | omega)
          rw [Nat.zero_add] at h9
          exact (e129 399 (1 + x) (by first | decide | omega)).trans (h9)
        have hk32 := hb.1 x (by first | decide | omega)
        refine gx_ag (v := .inl (σ (1 + x))) (cb := fun c => Nat.beq c 0) rfl (fun _ => rfl) g129 rfl rfl k32 (by first | decide | omega) rfl ?_
        refine ex_go (S := (81, [(0, gx_r 383), (1, .inl x), (2, .inl 2)], [.inl 8, .inl (σ (1 + x))], t129, n, 0)) rfl (fun _ => rfl) rfl ?_
        refine gx_idivn rfl (by first | decide | omega) (by first | decide | omega) (by first | decide | omega) rfl ?_
        refine ex_go (S := (90, [(0, gx_r 383), (1, .inl x), (2, .inl 2)], [.inl ((σ (1 + x)) / 8)], t129, n, 0)) rfl (fun _ => rfl) rfl ?_
        refine ex_ret (r := (some (.inl ((σ (1 + x)) / 8)), t129, n, 0)) rfl (fun _ => rfl) ?_
        exact ⟨_, rfl, _, _, rfl, (fun _ => ⟨by unfold tha; rw [if_neg (by decide), if_neg (by decide), if_pos rfl], k129⟩), (fun c9 => absurd ⟨by omega, by omega⟩ c9), e129 412 0 (by first | decide | omega)⟩
      · show en_ex _ _ _ _ (35, [(0, gx_r 383), (1, .inl x), (2, .inl 3)], [], t129, n, 0) _
        refine ex_go (S := (36, [(0, gx_r 383), (1, .inl x), (2, .inl 3)], [.inl 3], t129, n, 0)) rfl (fun _ => rfl) rfl ?_
        refine ex_go (S := (47, [(0, gx_r 383), (1, .inl x), (2, .inl 3)], [], t129, n, 0)) rfl (fun _ => rfl) rfl ?_
        refine ex_go (S := (48, [(0, gx_r 383), (1, .inl x), (2, .inl 3)], [.inl 3], t129, n, 0)) rfl (fun _ => rfl) rfl ?_
        refine ex_go (S := (49, [(0, gx_r 383), (1, .inl x), (2, .inl 3)], [.inl 1, .inl 3], t129, n, 0)) rfl (fun _ => rfl) rfl ?_
        refine ex_go (S := (66, [(0, gx_r 383), (1, .inl x), (2, .inl 3)], [], t129, n, 0)) rfl (fun _ => rfl) rfl ?_
        refine ex_go (S := (67, [(0, gx_r 383), (1, .inl x), (2, .inl 3)], [.inl 3], t129, n, 0)) rfl (fun _ => rfl) rfl ?_
        refine ex_go (S := (68, [(0, gx_r 383), (1, .inl x), (2, .inl 3)], [.inl 2, .inl 3], t129, n, 0)) rfl (fun _ => rfl) rfl ?_
        refine ex_go (S := (85, [(0, gx_r 383), (1, .inl x), (2, .inl 3)], [], t129, n, 0)) rfl (fun _ => rfl) rfl ?_
        refine ex_go (S := (86, [(0, gx_r 383), (1, .inl x), (2, .inl 3)], [gx_r 383], t129, n, 0)) rfl (fun _ => rfl) rfl ?_
        refine ex_go (S := (87, [(0, gx_r 383), (1, .inl x), (2, .inl 3)], [.inl x, gx_r 383], t129, n, 0)) rfl (fun _ => rfl) rfl ?_
        obtain ⟨_, r33, rfl⟩ := sr_crewAt d n (x := x) g129 (RW_keep hR (fun i hi => e129 389 i (by first | decide | omega)) (fun c i hc _ => e129 c i (by first | decide | omega))) (by first | decide | omega)
        refine gx_call1 rfl rfl g129 rfl rfl r33 rfl ?_
        show en_ex _ _ _ _ (90, [(0, gx_r 383), (1, .inl x), (2, .inl 3)], [.inl (cra w x (w 0 4))], t129, n, 0) _
        refine ex_ret (r := (some (.inl (cra w x (w 0 4))), t129, n, 0)) rfl (fun _ => rfl) ?_
        exact ⟨_, rfl, _, _, rfl, (fun _ => ⟨by unfold tha; rw [if_neg (by decide), if_neg (by decide), if_neg (by decide)], k129⟩), (fun c9 => absurd ⟨by omega, by omega⟩ c9), e129 412 0 (by first | decide | omega)⟩
theorem sr_crew (d n : Nat) {t0 : en_H} {w : Nat → Nat → Nat} {L : List Nat} {σ : Nat → Nat} {x y : Nat} (g0 : ai_HG ah_G t0) (hR : RW t0 w L) (hS : blk t0 0 σ) (hb : sbd σ) (hx : x < 4294967296) (hy : y < 4294967296) : ∃ r, en_u (d + 3) 41 [gx_r 383, .inl x, .inl y] t0 n = some r ∧ ∃ v t', r = (some (.inl v), t', n, 0) ∧ ((x < w 0 4 ∧ y ≤ 7) → v = cwa w σ x y ∧ ai_hv t' 383 0 = some (.inl 0)) ∧ (¬ (x < w 0 4 ∧ y ≤ 7) → ai_hv t' 383 0 = some (.inl 1)) ∧ ai_hv t' 412 0 = ai_hv t0 412 0 := by
  have hT := hR.2.1.2.2.1
  have hK := hR.2.1.2.2.2.2.1
  refine en_u_ex (d := d + 2) rfl ?_
  show en_ex _ _ _ _ (0, [(0, gx_r 383), (1, .inl x), (2, .inl y)], [], t0, n, 0) _
  refine ex_go (S := (1, [(0, gx_r 383), (1, .inl x), (2, .inl y)], [gx_r 383], t0, n, 0)) rfl (fun _ => rfl) rfl ?_
  refine ex_go (S := (2, [(0, gx_r 383), (1, .inl x), (2, .inl y)], [gx_r 383, gx_r 383], t0, n, 0)) rfl (fun _ => rfl) rfl ?_
  refine ex_go (S := (3, [(0, gx_r 383), (1, .inl x), (2, .inl y)], [.inl x, gx_r 383, gx_r 383], t0, n, 0)) rfl (fun _ => rfl) rfl ?_
  obtain ⟨_, r121, b121, rfl, hb121, hi121⟩ := sr_isCrew d n (c := x) (K := w 0 4) g0 (by first | decide | omega) ((hR.1 4 (by first | decide | omega))) (by first | decide | omega)
  refine gx_call1 rfl rfl g0 rfl rfl r121 rfl ?_
  show en_ex _ _ _ _ (6, [(0, gx_r 383), (1, .inl x), (2, .inl y)], [.inl b121, gx_r 383], t0, n, 0) _
  by_cases hc22 : b121 = 0
  · refine gx_1t (c := .eq) rfl (by first | decide | omega) hc22 rfl ?_
    refine ex_go (S := (24, [(0, gx_r 383), (1, .inl x), (2, .inl y)], [.inl 1, gx_r 383], t0, n, 0)) rfl (fun _ => rfl) rfl ?_
    refine gx_put rfl g0 rfl rfl (ai_in_h (by first | decide | omega) (by first | decide | omega) (by first | decide | omega)) rfl (fun t123 g123 k123 e123 => ?_)
    refine ex_go (S := (28, [(0, gx_r 383), (1, .inl x), (2, .inl y)], [gx_r 383], t123, n, 0)) rfl (fun _ => rfl) rfl ?_
    refine gx_get rfl g123 rfl k123 rfl ?_
    refine ex_go (S := (34, [(0, gx_r 383), (1, .inl x), (2, .inl y)], [], t123, n, 0)) rfl (fun _ => rfl) rfl ?_
    refine ex_go (S := (35, [(0, gx_r 383), (1, .inl x), (2, .inl y)], [.inl 0], t123, n, 0)) rfl (fun _ => rfl) rfl ?_
    refine ex_ret (r := (some (.inl 0), t123, n, 0)) rfl (fun _ => rfl) ?_
    exact ⟨_, rfl, _, _, rfl, (fun c9 => by omega), (fun _ => k123), e123 412 0 (by first | decide | omega)⟩
  · refine gx_1f (c := .eq) rfl (by first | decide | omega) hc22 rfl ?_
    refine ex_go (S := (10, [(0, gx_r 383), (1, .inl x), (2, .inl y)], [.inl y, gx_r 383], t0, n, 0)) rfl (fun _ => rfl) rfl ?_
    refine ex_go (S := (11, [(0, gx_r 383), (1, .inl x), (2, .inl y)], [.inl 0, .inl y, gx_r 383], t0, n, 0)) rfl (fun _ => rfl) rfl ?_
    refine ex_go (S := (13, [(0, gx_r 383), (1, .inl x), (2, .inl y)], [.inl 7, .inl 0, .inl y, gx_r 383], t0, n, 0)) rfl (fun _ => rfl) rfl ?_
    obtain ⟨_, r24, b25, rfl, b25b, q26⟩ := pz_within (d + 1) n (t0 := t0) (x := y) (lo := 0) (hi := 7) (by first | decide | omega) (by first | decide | omega) (by first | decide | omega)
    refine ex_stat rfl rfl rfl rfl rfl r24 (Nat.le_refl _) rfl ?_
    show en_ex _ _ _ _ (16, [(0, gx_r 383), (1, .inl x), (2, .inl y)], [.inl b25, gx_r 383], t0, n, 0) _
    by_cases hc27 : b25 = 0
    · refine gx_1t (c := .eq) rfl (by first | decide | omega) hc27 rfl ?_
      refine ex_go (S := (24, [(0, gx_r 383), (1, .inl x), (2, .inl y)], [.inl 1, gx_r 383], t0, n, 0)) rfl (fun _ => rfl) rfl ?_
      refine gx_put rfl g0 rfl rfl (ai_in_h (by first | decide | omega) (by first | decide | omega) (by first | decide | omega)) rfl (fun t128 g128 k128 e128 => ?_)
      refine ex_go (S := (28, [(0, gx_r 383), (1, .inl x), (2, .inl y)], [gx_r 383], t128, n, 0)) rfl (fun _ => rfl) rfl ?_
      refine gx_get rfl g128 rfl k128 rfl ?_
      refine ex_go (S := (34, [(0, gx_r 383), (1, .inl x), (2, .inl y)], [], t128, n, 0)) rfl (fun _ => rfl) rfl ?_
      refine ex_go (S := (35, [(0, gx_r 383), (1, .inl x), (2, .inl y)], [.inl 0], t128, n, 0)) rfl (fun _ => rfl) rfl ?_
      refine ex_ret (r := (some (.inl 0), t128, n, 0)) rfl (fun _ => rfl) ?_
      exact ⟨_, rfl, _, _, rfl, (fun c9 => by omega), (fun _ => k128), e128 412 0 (by first | decide | omega)⟩
    · refine gx_1f (c := .eq) rfl (by first | decide | omega) hc27 rfl ?_
      refine ex_go (S := (20, [(0, gx_r 383), (1, .inl x), (2, .inl y)], [.inl 0, gx_r 383], t0, n, 0)) rfl (fun _ => rfl) rfl ?_
      refine ex_go (S := (24, [(0, gx_r 383), (1, .inl x), (2, .inl y)], [.inl 0, gx_r 383], t0, n, 0)) rfl (fun _ => rfl) rfl ?_
      refine gx_put rfl g0 rfl rfl (ai_in_h (by first | decide | omega) (by first | decide | omega) (by first | decide | omega)) rfl (fun t129 g129 k129 e129 => ?_)
      refine ex_go (S := (28, [(0, gx_r 383), (1, .inl x), (2, .inl y)], [gx_r 383], t129, n, 0)) rfl (fun _ => rfl) rfl ?_
      refine gx_get rfl g129 rfl k129 rfl ?_
      refine ex_go (S := (36, [(0, gx_r 383), (1, .inl x), (2, .inl y)], [], t129, n, 0)) rfl (fun _ => rfl) rfl ?_
      rcases (show y = 0 ∨ y = 1 ∨ y = 2 ∨ y = 3 ∨ y = 4 ∨ y = 5 ∨ y = 6 ∨ y = 7 by omega) with rfl | rfl | rfl | rfl | rfl | rfl | rfl | rfl
      · show en_ex _ _ _ _ (36, [(0, gx_r 383), (1, .inl x), (2, .inl 0)], [], t129, n, 0) _
        refine ex_go (S := (37, [(0, gx_r 383), (1, .inl x), (2, .inl 0)], [.inl 0], t129, n, 0)) rfl (fun _ => rfl) rfl ?_
        refine ex_go (S := (80, [(0, gx_r 383), (1, .inl x), (2, .inl 0)], [], t129, n, 0)) rfl (fun _ => rfl) rfl ?_
        refine ex_go (S := (81, [(0, gx_r 383), (1, .inl x), (2, .inl 0)], [gx_r 383], t129, n, 0)) rfl (fun _ => rfl) rfl ?_
        refine ex_go (S := (82, [(0, gx_r 383), (1, .inl x), (2, .inl 0)], [.inl x, gx_r 383], t129, n, 0)) rfl (fun _ => rfl) rfl ?_
        refine ex_go (S := (83, [(0, gx_r 383), (1, .inl x), (2, .inl 0)], [.inl 0, .inl x, gx_r 383], t129, n, 0)) rfl (fun _ => rfl) rfl ?_
        have k31 : ai_hv t0 389 (118 + 3 * x + 0) = some (.inl (w 3 x)) := by
          rw [show 118 + 3 * x + 0 = 118 + 3 * x by omega]
          exact (hR.2.2.2.1 x (by first | decide | omega)).1
        obtain ⟨_, r30, rfl⟩ := pe_crewOf (d + 1) n (c := x) (w := 0) g129 (by first | decide | omega) (by first | decide | omega) ((e129 389 (118 + 3 * x + 0) (by first | decide | omega)).trans (k31))
        refine gx_call1 rfl rfl g129 rfl rfl r30 rfl ?_
        show en_ex _ _ _ _ (86, [(0, gx_r 383), (1, .inl x), (2, .inl 0)], [.inl (w 3 x)], t129, n, 0) _
        refine ex_ret (r := (some (.inl (w 3 x)), t129, n, 0)) rfl (fun _ => rfl) ?_
        exact ⟨_, rfl, _, _, rfl, (fun _ => ⟨by unfold cwa; rw [if_pos rfl], k129⟩), (fun c9 => absurd ⟨by omega, by omega⟩ c9), e129 412 0 (by first | decide | omega)⟩
      · show en_ex _ _ _ _ (36, [(0, gx_r 383), (1, .inl x), (2, .inl 1)], [], t129, n, 0) _
        refine ex_go (S := (37, [(0, gx_r 383), (1, .inl x), (2, .inl 1)], [.inl 1], t129, n, 0)) rfl (fun _ => rfl) rfl ?_
        refine ex_go (S := (80, [(0, gx_r 383), (1, .inl x), (2, .inl 1)], [], t129, n, 0)) rfl (fun _ => rfl) rfl ?_
        refine ex_go (S := (81, [(0, gx_r 383), (1, .inl x), (2, .inl 1)], [gx_r 383], t129, n, 0)) rfl (fun _ => rfl) rfl ?_
        refine ex_go (S := (82, [(0, gx_r 383), (1, .inl x), (2, .inl 1)], [.inl x, gx_r 383], t129, n, 0)) rfl (fun _ => rfl) rfl ?_
        refine ex_go (S := (83, [(0, gx_r 383), (1, .inl x), (2, .inl 1)], [.inl 1, .inl x, gx_r 383], t129, n, 0)) rfl (fun _ => rfl) rfl ?_
        have k33 : ai_hv t0 389 (118 + 3 * x + 1) = some (.inl (w 2 x)) := by
          rw [show 118 + 3 * x + 1 = 119 + 3 * x by omega]
          exact (hR.2.2.2.1 x (by first | decide | omega)).2.2.1
        obtain ⟨_, r32, rfl⟩ := pe_crewOf (d + 1) n (c := x) (w := 1) g129 (by first | decide | omega) (by first | decide | omega) ((e129 389 (118 + 3 * x + 1) (by first | decide | omega)).trans (k33))
        refine gx_call1 rfl rfl g129 rfl rfl r32 rfl ?_
        show en_ex _ _ _ _ (86, [(0, gx_r 383), (1, .inl x), (2, .inl 1)], [.inl (w 2 x)], t129, n, 0) _
        refine ex_ret (r := (some (.inl (w 2 x)), t129, n, 0)) rfl (fun _ => rfl) ?_
        exact ⟨_, rfl, _, _, rfl, (fun _ => ⟨by unfold cwa; rw [if_neg (by decide), if_pos rfl], k129⟩), (fun c9 => absurd ⟨by omega, by omega⟩ c9), e129 412 0 (by first | decide | omega)⟩
      · show en_ex _ _ _ _ (36, [(0, gx_r 383), (1, .inl x), (2, .inl 2)], [], t129, n, 0) _
        refine ex_go (S := (37, [(0, gx_r 383), (1, .inl x), (2, .inl 2)], [.inl 2], t129, n, 0)) rfl (fun _ => rfl) rfl ?_
        refine ex_go (S := (87, [(0, gx_r 383), (1, .inl x), (2, .inl 2)], [], t129, n, 0)) rfl (fun _ => rfl) rfl ?_
        refine ex_go (S := (88, [(0, gx_r 383), (1, .inl x), (2, .inl 2)], [gx_r 383], t129, n, 0)) rfl (fun _ => rfl) rfl ?_
        refine gx_ref (c := 399) rfl g129 rfl rfl rfl rfl ?_
        refine ex_go (S := (93, [(0, gx_r 383), (1, .inl x), (2, .inl 2)], [.inl 7, gx_r 399], t129, n, 0)) rfl (fun _ => rfl) rfl ?_
        refine ex_go (S := (94, [(0, gx_r 383), (1, .inl x), (2, .inl 2)], [.inl x, .inl 7, gx_r 399], t129, n, 0)) rfl (fun _ => rfl) rfl ?_
        refine ex_iadd rfl (by first | decide | omega) rfl ?_
        have k34 : ai_hv t129 399 (7 + x) = some (.inl (σ (7 + x))) := by
          have h9 := hS (7 + x) (by first | decide | omega)
          rw [Nat.zero_add] at h9
          exact (e129 399 (7 + x) (by first | decide | omega)).trans (h9)
        refine gx_ag (v := .inl (σ (7 + x))) (cb := fun c => Nat.beq c 0) rfl (fun _ => rfl) g129 rfl rfl k34 (by first | decide | omega) rfl ?_
        refine ex_ret (r := (some (.inl (σ (7 + x))), t129, n, 0)) rfl (fun _ => rfl) ?_
        exact ⟨_, rfl, _, _, rfl, (fun _ => ⟨by unfold cwa; rw [if_neg (by decide), if_neg (by decide), if_pos rfl], k129⟩), (fun c9 => absurd ⟨by omega, by omega⟩ c9), e129 412 0 (by first | decide | omega)⟩
      · show en_ex _ _ _ _ (36, [(0, gx_r 383), (1, .inl x), (2, .inl 3)], [], t129, n, 0) _
        refine ex_go (S := (37, [(0, gx_r 383), (1, .inl x), (2, .inl 3)], [.inl 3], t129, n, 0)) rfl (fun _ => rfl) rfl ?_
        refine ex_go (S := (97, [(0, gx_r 383), (1, .inl x), (2, .inl 3)], [], t129, n, 0)) rfl (fun _ => rfl) rfl ?_
        refine ex_go (S := (98, [(0, gx_r 383), (1, .inl x), (2, .inl 3)], [gx_r 383], t129, n, 0)) rfl (fun _ => rfl) rfl ?_
        refine gx_ref (c := 399) rfl g129 rfl rfl rfl rfl ?_
        refine ex_go (S := (103, [(0, gx_r 383), (1, .inl x), (2, .inl 3)], [.inl 9, gx_r 399], t129, n, 0)) rfl (fun _ => rfl) rfl ?_
        refine ex_go (S := (104, [(0, gx_r 383), (1, .inl x), (2, .inl 3)], [.inl x, .inl 9, gx_r 399], t129, n, 0)) rfl (fun _ => rfl) rfl ?_
        refine ex_iadd rfl (by first | decide | omega) rfl ?_
        have k35 : ai_hv t129 399 (9 + x) = some (.inl (σ (9 + x))) := by
          have h9 := hS (9 + x) (by first | decide | omega)
          rw [Nat.zero_add] at h9
          exact (e129 399 (9 + x) (by first | decide | omega)).trans (h9)
        refine gx_ag (v := .inl (σ (9 + x))) (cb := fun c => Nat.beq c 0) rfl (fun _ => rfl) g129 rfl rfl k35 (by first | decide | omega) rfl ?_
        refine ex_ret (r := (some (.inl (σ (9 + x))), t129, n, 0)) rfl (fun _ => rfl) ?_
        exact ⟨_, rfl, _, _, rfl, (fun _ => ⟨by unfold cwa; rw [if_neg (by decide), if_neg (by decide), if_neg (by decide), if_pos rfl], k129⟩), (fun c9 => absurd ⟨by omega, by omega⟩ c9), e129 412 0 (by first | decide | omega)⟩
      · show en_ex _ _ _ _ (36, [(0, gx_r 383), (1, .inl x), (2, .inl 4)], [], t129, n, 0) _
        refine ex_go (S := (37, [(0, gx_r 383), (1, .inl x), (2, .inl 4)], [.inl 4], t129, n, 0)) rfl (fun _ => rfl) rfl ?_
        refine ex_go (S := (107, [(0, gx_r 383), (1, .inl x), (2, .inl 4)], [], t129, n, 0)) rfl (fun _ => rfl) rfl ?_
        refine ex_go (S := (108, [(0, gx_r 383), (1, .inl x), (2, .inl 4)], [gx_r 383], t129, n, 0)) rfl (fun _ => rfl) rfl ?_
        refine gx_ref (c := 399) rfl g129 rfl rfl rfl rfl ?_
        refine ex_go (S := (113, [(0, gx_r 383), (1, .inl x), (2, .inl 4)], [.inl 11, gx_r 399], t129, n, 0)) rfl (fun _ => rfl) rfl ?_
        refine ex_go (S := (114, [(0, gx_r 383), (1, .inl x), (2, .inl 4)], [.inl x, .inl 11, gx_r 399], t129, n, 0)) rfl (fun _ => rfl) rfl ?_
        refine ex_iadd rfl (by first | decide | omega) rfl ?_
        have k36 : ai_hv t129 399 (11 + x) = some (.inl (σ (11 + x))) := by
          have h9 := hS (11 + x) (by first | decide | omega)
          rw [Nat.zero_add] at h9
          exact (e129 399 (11 + x) (by first | decide | omega)).trans (h9)
        refine gx_ag (v := .inl (σ (11 + x))) (cb := fun c => Nat.beq c 0) rfl (fun _ => rfl) g129 rfl rfl k36 (by first | decide | omega) rfl ?_
        refine ex_ret (r := (some (.inl (σ (11 + x))), t129, n, 0)) rfl (fun _ => rfl) ?_
        exact ⟨_, rfl, _, _, rfl, (fun _ => ⟨by unfold cwa; rw [if_neg (by decide), if_neg (by decide), if_neg (by decide), if_neg (by decide), if_pos rfl], k129⟩), (fun c9 => absurd ⟨by omega, by omega⟩ c9), e129 412 0 (by first | decide | omega)⟩
      · show en_ex _ _ _ _ (36, [(0, gx_r 383), (1, .inl x), (2, .inl 5)], [], t129, n, 0) _
        refine ex_go (S := (37, [(0, gx_r 383), (1, .inl x), (2, .inl 5)], [.inl 5], t129, n, 0)) rfl (fun _ => rfl) rfl ?_
        refine ex_go (S := (117, [(0, gx_r 383), (1, .inl x), (2, .inl 5)], [], t129, n, 0)) rfl (fun _ => rfl) rfl ?_
        refine ex_go (S := (118, [(0, gx_r 383), (1, .inl x), (2, .inl 5)], [gx_r 383], t129, n, 0)) rfl (fun _ => rfl) rfl ?_
        refine ex_go (S := (119, [(0, gx_r 383), (1, .inl x), (2, .inl 5)], [.inl 0, gx_r 383], t129, n, 0)) rfl (fun _ => rfl) rfl ?_
        refine ex_go (S := (120, [(0, gx_r 383), (1, .inl x), (2, .inl 5)], [.inl x, .inl 0, gx_r 383], t129, n, 0)) rfl (fun _ => rfl) rfl ?_
        obtain ⟨_, r37, rfl⟩ := sr_sled0 d n (c := x) g129 (RW_keep hR (fun i hi => e129 389 i (by first | decide | omega)) (fun c i hc _ => e129 c i (by first | decide | omega))) hb (blk_keep hS (fun j hj => e129 399 _ (by first | decide | omega))) (by first | decide | omega)
        have hsl := slp_lt9 (WS_of hR) hb (c := x) (by first | decide | omega)
        refine gx_call1 rfl rfl g129 rfl rfl r37 rfl ?_
        show en_ex _ _ _ _ (123, [(0, gx_r 383), (1, .inl x), (2, .inl 5)], [.inl (slp w σ x)], t129, n, 0) _
        refine ex_go (S := (125, [(0, gx_r 383), (1, .inl x), (2, .inl 5)], [.inl 8, .inl (slp w σ x)], t129, n, 0)) rfl (fun _ => rfl) rfl ?_
        refine gx_iremn rfl (by first | decide | omega) (by first | decide | omega) (by first | decide | omega) rfl ?_
        refine ex_ret (r := (some (.inl ((slp w σ x) % 8)), t129, n, 0)) rfl (fun _ => rfl) ?_
        exact ⟨_, rfl, _, _, rfl, (fun _ => ⟨by unfold cwa; rw [if_neg (by decide), if_neg (by decide), if_neg (by decide), if_neg (by decide), if_neg (by decide), if_pos rfl], k129⟩), (fun c9 => absurd ⟨by omega, by omega⟩ c9), e129 412 0 (by first | decide | omega)⟩
      · show en_ex _ _ _ _ (36, [(0, gx_r 383), (1, .inl x), (2, .inl 6)], [], t129, n, 0) _
        refine ex_go (S := (37, [(0, gx_r 383), (1, .inl x), (2, .inl 6)], [.inl 6], t129, n, 0)) rfl (fun _ => rfl) rfl ?_
        refine ex_go (S := (127, [(0, gx_r 383), (1, .inl x), (2, .inl 6)], [], t129, n, 0)) rfl (fun _ => rfl) rfl ?_
        refine ex_go (S := (128, [(0, gx_r 383), (1, .inl x), (2, .inl 6)], [gx_r 383], t129, n, 0)) rfl (fun _ => rfl) rfl ?_
        refine ex_go (S := (129, [(0, gx_r 383), (1, .inl x), (2, .inl 6)], [.inl 0, gx_r 383], t129, n, 0)) rfl (fun _ => rfl) rfl ?_
        refine ex_go (S := (130, [(0, gx_r 383), (1, .inl x), (2, .inl 6)], [.inl x, .inl 0, gx_r 383], t129, n, 0)) rfl (fun _ => rfl) rfl ?_
        obtain ⟨_, r38, rfl⟩ := sr_sled0 d n (c := x) g129 (RW_keep hR (fun i hi => e129 389 i (by first | decide | omega)) (fun c i hc _ => e129 c i (by first | decide | omega))) hb (blk_keep hS (fun j hj => e129 399 _ (by first | decide | omega))) (by first | decide | omega)
        have hsl := slp_lt9 (WS_of hR) hb (c := x) (by first | decide | omega)
        refine gx_call1 rfl rfl g129 rfl rfl r38 rfl ?_
        show en_ex _ _ _ _ (133, [(0, gx_r 383), (1, .inl x), (2, .inl 6)], [.inl (slp w σ x)], t129, n, 0) _
        refine ex_go (S := (135, [(0, gx_r 383), (1, .inl x), (2, .inl 6)], [.inl 8, .inl (slp w σ x)], t129, n, 0)) rfl (fun _ => rfl) rfl ?_
        refine gx_idivn rfl (by first | decide | omega) (by first | decide | omega) (by first | decide | omega) rfl ?_
        refine ex_ret (r := (some (.inl ((slp w σ x) / 8)), t129, n, 0)) rfl (fun _ => rfl) ?_
        exact ⟨_, rfl, _, _, rfl, (fun _ => ⟨by unfold cwa; rw [if_neg (by decide), if_neg (by decide), if_neg (by decide), if_neg (by decide), if_neg (by decide), if_neg (by decide), if_pos rfl], k129⟩), (fun c9 => absurd ⟨by omega, by omega⟩ c9), e129 412 0 (by first | decide | omega)⟩
      · show en_ex _ _ _ _ (36, [(0, gx_r 383), (1, .inl x), (2, .inl 7)], [], t129, n, 0) _
        refine ex_go (S := (37, [(0, gx_r 383), (1, .inl x), (2, .inl 7)], [.inl 7], t129, n, 0)) rfl (fun _ => rfl) rfl ?_
        refine ex_go (S := (137, [(0, gx_r 383), (1, .inl x), (2, .inl 7)], [], t129, n, 0)) rfl (fun _ => rfl) rfl ?_
        refine ex_go (S := (138, [(0, gx_r 383), (1, .inl x), (2, .inl 7)], [gx_r 383], t129, n, 0)) rfl (fun _ => rfl) rfl ?_
        refine gx_ref (c := 399) rfl g129 rfl rfl rfl rfl ?_
        refine ex_go (S := (143, [(0, gx_r 383), (1, .inl x), (2, .inl 7)], [.inl 15, gx_r 399], t129, n, 0)) rfl (fun _ => rfl) rfl ?_
        refine ex_go (S := (144, [(0, gx_r 383), (1, .inl x), (2, .inl 7)], [.inl x, .inl 15, gx_r 399], t129, n, 0)) rfl (fun _ => rfl) rfl ?_
        refine ex_iadd rfl (by first | decide | omega) rfl ?_
        have k39 : ai_hv t129 399 (15 + x) = some (.inl (σ (15 + x))) := by
          have h9 := hS (15 + x) (by first | decide | omega)
          rw [Nat.zero_add] at h9
          exact (e129 399 (15 + x) (by first | decide | omega)).trans (h9)
        refine gx_ag (v := .inl (σ (15 + x))) (cb := fun c => Nat.beq c 0) rfl (fun _ => rfl) g129 rfl rfl k39 (by first | decide | omega) rfl ?_
        refine ex_ret (r := (some (.inl (σ (15 + x))), t129, n, 0)) rfl (fun _ => rfl) ?_
        exact ⟨_, rfl, _, _, rfl, (fun _ => ⟨by unfold cwa; rw [if_neg (by decide), if_neg (by decide), if_neg (by decide), if_neg (by decide), if_neg (by decide), if_neg (by decide), if_neg (by decide)], k129⟩), (fun c9 => absurd ⟨by omega, by omega⟩ c9), e129 412 0 (by first | decide | omega)⟩
end SSX
