section PKJ
theorem th_5 {i n x y : Nat} {t : en_H} (hx : x < 4294967296) (hy : y < 4294967296) (hI : pi_I i t) : pi_Th i 87 23 [gx_r 0, .inl x, .inl y] t n := by
  obtain ⟨hG, hE, ⟨s, hS, hs⟩, hl⟩ := hI
  rcases hS with rfl | rfl | rfl | rfl
  · exact pi_th (Or.inl rfl) hs hl (by decide +kernel) (by decide +kernel) (by decide +kernel) (tx_r_thing0 60 (by decide) (fun _ => 0) _ t n ⟨gx_vref 0, pi_iv hx, pi_iv hy, trivial⟩ hG (pi_sub_ok (by decide +kernel) hs) hE)
  · exact pi_th (Or.inr (Or.inl rfl)) hs hl (by decide +kernel) (by decide +kernel) (by decide +kernel) (tx_r_thing0 60 (by decide) (fun _ => 0) _ t n ⟨gx_vref 0, pi_iv hx, pi_iv hy, trivial⟩ hG (pi_sub_ok (by decide +kernel) hs) hE)
  · exact pi_th (Or.inr (Or.inr (Or.inl rfl))) hs hl (by decide +kernel) (by decide +kernel) (by decide +kernel) (tx_r_thing1 60 (by decide) (fun _ => 0) _ t n ⟨gx_vref 0, pi_iv hx, pi_iv hy, trivial⟩ hG (pi_sub_ok (by decide +kernel) hs) hE)
  · exact pi_th (Or.inr (Or.inr (Or.inr rfl))) hs hl (by decide +kernel) (by decide +kernel) (by decide +kernel) (tx_r_thing1 60 (by decide) (fun _ => 0) _ t n ⟨gx_vref 0, pi_iv hx, pi_iv hy, trivial⟩ hG (pi_sub_ok (by decide +kernel) hs) hE)
theorem th_6 {i n x y : Nat} {t : en_H} (hx : x < 4294967296) (hy : y < 4294967296) (hI : pi_I i t) : pi_Th i 88 24 [gx_r 0, .inl x, .inl y] t n := by
  obtain ⟨hG, hE, ⟨s, hS, hs⟩, hl⟩ := hI
  rcases hS with rfl | rfl | rfl | rfl
  · exact pi_th (Or.inl rfl) hs hl (by decide +kernel) (by decide +kernel) (by decide +kernel) (tx_r_crew0 60 (by decide) (fun _ => 0) _ t n ⟨gx_vref 0, pi_iv hx, pi_iv hy, trivial⟩ hG (pi_sub_ok (by decide +kernel) hs) hE)
  · exact pi_th (Or.inr (Or.inl rfl)) hs hl (by decide +kernel) (by decide +kernel) (by decide +kernel) (tx_r_crew0 60 (by decide) (fun _ => 0) _ t n ⟨gx_vref 0, pi_iv hx, pi_iv hy, trivial⟩ hG (pi_sub_ok (by decide +kernel) hs) hE)
  · exact pi_th (Or.inr (Or.inr (Or.inl rfl))) hs hl (by decide +kernel) (by decide +kernel) (by decide +kernel) (tx_r_crew1 60 (by decide) (fun _ => 0) _ t n ⟨gx_vref 0, pi_iv hx, pi_iv hy, trivial⟩ hG (pi_sub_ok (by decide +kernel) hs) hE)
  · exact pi_th (Or.inr (Or.inr (Or.inr rfl))) hs hl (by decide +kernel) (by decide +kernel) (by decide +kernel) (tx_r_crew1 60 (by decide) (fun _ => 0) _ t n ⟨gx_vref 0, pi_iv hx, pi_iv hy, trivial⟩ hG (pi_sub_ok (by decide +kernel) hs) hE)
theorem th_21 {i n : Nat} {t : en_H} (hI : pi_I i t) : pi_Th i 89 14 [gx_r 0] t n := by
  obtain ⟨hG, hE, ⟨s, hS, hs⟩, hl⟩ := hI
  rcases hS with rfl | rfl | rfl | rfl
  · exact pi_th (Or.inl rfl) hs hl (by decide +kernel) (by decide +kernel) (by decide +kernel) (tx_r_share0 60 (by decide) (fun _ => 0) _ t n ⟨gx_vref 0, trivial⟩ hG (pi_sub_ok (by decide +kernel) hs) hE)
  · exact pi_th (Or.inr (Or.inl rfl)) hs hl (by decide +kernel) (by decide +kernel) (by decide +kernel) (tx_r_share0 60 (by decide) (fun _ => 0) _ t n ⟨gx_vref 0, trivial⟩ hG (pi_sub_ok (by decide +kernel) hs) hE)
  · exact pi_th (Or.inr (Or.inr (Or.inl rfl))) hs hl (by decide +kernel) (by decide +kernel) (by decide +kernel) (tx_r_share1 60 (by decide) (fun _ => 0) _ t n ⟨gx_vref 0, trivial⟩ hG (pi_sub_ok (by decide +kernel) hs) hE)
  · exact pi_th (Or.inr (Or.inr (Or.inr rfl))) hs hl (by decide +kernel) (by decide +kernel) (by decide +kernel) (tx_r_share1 60 (by decide) (fun _ => 0) _ t n ⟨gx_vref 0, trivial⟩ hG (pi_sub_ok (by decide +kernel) hs) hE)
section
variable {p : Program} {l : Launch} {e : Env} {s : State} {m : MethodId} {below : List Frame} {meth : Method} {c : Code} {b L : Nat} {xs : Nat → Int32} {ex : Nat → Nat} {cA : Nat → ClassId} {D : va_G}
theorem lt_5 (C0 : en_LC 62 p s m meth c b ex cA D L xs) (hl : l.stackTraces = false) (hX : ∃ sa, tx_K s.heap.size 145 "no such thing, or nothing such of it" sa s) (hL : L ≤ 3584) {i n sl : Nat} {cl : en_L} {t : en_H} (hi : i + 7 ≤ L) (hI : pi_I i t) (hcl : lw_cl cl i)
    (hn : ∀ cl' t' n' sl', pi_I (i + 7) t' → lw_cl cl' (i + 7) → n' ≤ n + 1 → sl' ≤ sl + 6 → en_LT p l e s m below meth c b ex cA D (23, cl', [], t', n', sl')) : en_LT p l e s m below meth c b ex cA D (40, cl, [.inl 5], t, n, sl) := by
  obtain ⟨sa, hX⟩ := hX
  have C6 := lw_at C0 (d' := 60) (by decide)
  have hLv := lw_scr_ok xs hL
  refine lt_go C6 (lw_5a hLv hi hcl) (fun o ho => ?_)
  obtain ⟨x, hx, y, hy, rfl, -, -⟩ := ho
  refine ⟨_, rfl, ?_⟩
  have hg := hI.1 0 ag_0 rfl
  obtain ⟨vs0, hg, -, -⟩ := hg
  rcases th_5 (n := n) hx hy hI with ⟨v, t1, hu, I1⟩ | ⟨fuel, ls, t1, hr, I1⟩
  · obtain ⟨fE, oE, rE, t2, rfl, g2, e2⟩ := lw_5c (n := n) (ls := [(0, gx_r 0), (1, .inl x), (2, .inl y), (3, gx_r 412)]) (v := v) I1.1
    have I2 := pi_412 I1 g2 e2
    refine tx_law (qO := tx_oT) (hh := [(0, 10, 13, 13)]) (m9 := 4) (as := [gx_r 0, .inl x, .inl y, gx_r 412]) (k := 0) (n1 := n) (s1 := 0) (t1 := t2) C0 hX (tx_nmet (mi := 87) (q := tx_qT) (qO := tx_oT) (a := 0) (as := [.inl x, .inl y]) (rest := [.inl 0, gx_r 412]) (pcI := 5) (iI := 7) (fuel := 10) (st := [.inl y, .inl x, gx_r 0, .inl 0, gx_r 412]) (ls := [(0, gx_r 0), (1, .inl x), (2, .inl y), (3, gx_r 412)]) tx_iT rfl (tx_all tx_cT_chk tx_cT_lt) (by decide +kernel) (by decide +kernel) hu (by show 4 ≤ 5; decide) rfl rfl (by decide) hg rfl tx_dTI tx_wiT ⟨fE, rE⟩) (Nat.le_refl _) tx_wcT tx_wlT tx_wtT rfl (by decide +kernel) (by decide) tx_dTL rfl ?_
    exact lt_go C6 (lw_5b (n := n) (sl := sl + 0) hLv hi I2 hcl) (fun o ho => by
      obtain ⟨cl', t', rfl, I3, c3⟩ := ho
      exact ⟨_, rfl, hn cl' t' n (sl + 0) I3 c3 (by first | decide | omega) (by first | decide | omega)⟩)
  · have hM := tx_lmet (l := l) (ba := s.heap.size) (ex := ex) (cA := cA) (D := D) (is := 145) (sa := sa) (tx := "no such thing, or nothing such of it") (mi := 87) (q := tx_qT) (qO := tx_oT) (a := 0) (as := [.inl x, .inl y]) (as0 := [gx_r 0, .inl x, .inl y, gx_r 412]) (rest := [.inl 0, gx_r 412]) (pcI := 5) (pcH := 13) (pcE := 15) (nH := 4) (iI := 7) (cH := 13) (h1 := 0) (h2 := 10) (fuel := 10) (st := [.inl y, .inl x, gx_r 0, .inl 0, gx_r 412]) (ls := [(0, gx_r 0), (1, .inl x), (2, .inl y), (3, gx_r 412)]) (t := t) (t1 := t1) (n := n) tx_iT rfl (tx_all tx_cT_chk tx_cT_lt) (by decide +kernel) (by decide +kernel) tx_wcT tx_wcl (by decide) (by decide)
      (tx_met (mi := 87) (q := tx_qT) (pc0 := 23) (fuel := fuel) (is := 145) hl tx_iT (by decide +kernel) rfl (by show 3 ≤ 4; decide) hr tx_dT0 tx_dT1 tx_dT2 tx_dT3 tx_dT4)
      (by show 4 ≤ 5; decide) rfl rfl (by decide) hg rfl tx_dTI tx_wiT (Or.inl ⟨tx_dTH, rfl⟩) (by decide) (tx_eT _ _ _)
    refine tx_law (qO := tx_oT) (hh := [(0, 10, 13, 13)]) (m9 := 4) (as := [gx_r 0, .inl x, .inl y, gx_r 412]) (k := 1) (n1 := n + 1) (s1 := 6) (t1 := t1) C0 hX (by rw [show n + 1 - n = 1 by omega]; exact hM) (Nat.le_succ _) tx_wcT tx_wlT tx_wtT rfl (by decide +kernel) (by decide) tx_dTL rfl ?_
    exact lt_go C6 (lw_5b (n := n + 1) (sl := sl + 6) hLv hi I1 hcl) (fun o ho => by
      obtain ⟨cl', t', rfl, I3, c3⟩ := ho
      exact ⟨_, rfl, hn cl' t' (n + 1) (sl + 6) I3 c3 (by first | decide | omega) (by first | decide | omega)⟩)
theorem lt_6 (C0 : en_LC 62 p s m meth c b ex cA D L xs) (hl : l.stackTraces = false) (hX : ∃ sa, tx_K s.heap.size 169 "no such crew, or nothing such of it" sa s) (hL : L ≤ 3584) {i n sl : Nat} {cl : en_L} {t : en_H} (hi : i + 7 ≤ L) (hI : pi_I i t) (hcl : lw_cl cl i)
    (hn : ∀ cl' t' n' sl', pi_I (i + 7) t' → lw_cl cl' (i + 7) → n' ≤ n + 1 → sl' ≤ sl + 6 → en_LT p l e s m below meth c b ex cA D (23, cl', [], t', n', sl')) : en_LT p l e s m below meth c b ex cA D (40, cl, [.inl 6], t, n, sl) := by
  obtain ⟨sa, hX⟩ := hX
  have C6 := lw_at C0 (d' := 60) (by decide)
  have hLv := lw_scr_ok xs hL
  refine lt_go C6 (lw_6a hLv hi hcl) (fun o ho => ?_)
  obtain ⟨x, hx, y, hy, rfl, -, -⟩ := ho
  refine ⟨_, rfl, ?_⟩
  have hg := hI.1 0 ag_0 rfl
  obtain ⟨vs0, hg, -, -⟩ := hg
  rcases th_6 (n := n) hx hy hI with ⟨v, t1, hu, I1⟩ | ⟨fuel, ls, t1, hr, I1⟩
  · obtain ⟨fE, oE, rE, t2, rfl, g2, e2⟩ := lw_6c (n := n) (ls := [(0, gx_r 0), (1, .inl x), (2, .inl y), (3, gx_r 412)]) (v := v) I1.1
    have I2 := pi_412 I1 g2 e2
    refine tx_law (qO := tx_oC) (hh := [(0, 10, 13, 13)]) (m9 := 4) (as := [gx_r 0, .inl x, .inl y, gx_r 412]) (k := 0) (n1 := n) (s1 := 0) (t1 := t2) C0 hX (tx_nmet (mi := 88) (q := tx_qC) (qO := tx_oC) (a := 0) (as := [.inl x, .inl y]) (rest := [.inl 0, gx_r 412]) (pcI := 5) (iI := 15) (fuel := 10) (st := [.inl y, .inl x, gx_r 0, .inl 0, gx_r 412]) (ls := [(0, gx_r 0), (1, .inl x), (2, .inl y), (3, gx_r 412)]) tx_iC rfl (tx_all tx_cC_chk tx_cC_lt) (by decide +kernel) (by decide +kernel) hu (by show 4 ≤ 5; decide) rfl rfl (by decide) hg rfl tx_dCI tx_wiC ⟨fE, rE⟩) (Nat.le_refl _) tx_wcC tx_wlC tx_wtC rfl (by decide +kernel) (by decide) tx_dCL rfl ?_
    exact lt_go C6 (lw_6b (n := n) (sl := sl + 0) hLv hi I2 hcl) (fun o ho => by
      obtain ⟨cl', t', rfl, I3, c3⟩ := ho
      exact ⟨_, rfl, hn cl' t' n (sl + 0) I3 c3 (by first | decide | omega) (by first | decide | omega)⟩)
  · have hM := tx_lmet (l := l) (ba := s.heap.size) (ex := ex) (cA := cA) (D := D) (is := 169) (sa := sa) (tx := "no such crew, or nothing such of it") (mi := 88) (q := tx_qC) (qO := tx_oC) (a := 0) (as := [.inl x, .inl y]) (as0 := [gx_r 0, .inl x, .inl y, gx_r 412]) (rest := [.inl 0, gx_r 412]) (pcI := 5) (pcH := 13) (pcE := 15) (nH := 4) (iI := 15) (cH := 13) (h1 := 0) (h2 := 10) (fuel := 10) (st := [.inl y, .inl x, gx_r 0, .inl 0, gx_r 412]) (ls := [(0, gx_r 0), (1, .inl x), (2, .inl y), (3, gx_r 412)]) (t := t) (t1 := t1) (n := n) tx_iC rfl (tx_all tx_cC_chk tx_cC_lt) (by decide +kernel) (by decide +kernel) tx_wcC tx_wcl (by decide) (by decide)
      (tx_met (mi := 88) (q := tx_qC) (pc0 := 24) (fuel := fuel) (is := 169) hl tx_iC (by decide +kernel) rfl (by show 3 ≤ 3; decide) hr tx_dC0 tx_dC1 tx_dC2 tx_dC3 tx_dC4)
      (by show 4 ≤ 5; decide) rfl rfl (by decide) hg rfl tx_dCI tx_wiC (Or.inl ⟨tx_dCH, rfl⟩) (by decide) (tx_eC _ _ _)
    refine tx_law (qO := tx_oC) (hh := [(0, 10, 13, 13)]) (m9 := 4) (as := [gx_r 0, .inl x, .inl y, gx_r 412]) (k := 1) (n1 := n + 1) (s1 := 6) (t1 := t1) C0 hX (by rw [show n + 1 - n = 1 by omega]; exact hM) (Nat.le_succ _) tx_wcC tx_wlC tx_wtC rfl (by decide +kernel) (by decide) tx_dCL rfl ?_
    exact lt_go C6 (lw_6b (n := n + 1) (sl := sl + 6) hLv hi I1 hcl) (fun o ho => by
      obtain ⟨cl', t', rfl, I3, c3⟩ := ho
      exact ⟨_, rfl, hn cl' t' (n + 1) (sl + 6) I3 c3 (by first | decide | omega) (by first | decide | omega)⟩)
theorem lt_21 (C0 : en_LC 62 p s m meth c b ex cA D L xs) (hl : l.stackTraces = false) (hX : ∃ sa, tx_K s.heap.size 243 "no two crews" sa s) (hL : L ≤ 3584) {i n sl : Nat} {cl : en_L} {t : en_H} (hi : i + 7 ≤ L) (hI : pi_I i t) (hcl : lw_cl cl i)
    (hn : ∀ cl' t' n' sl', pi_I (i + 7) t' → lw_cl cl' (i + 7) → n' ≤ n + 1 → sl' ≤ sl + 6 → en_LT p l e s m below meth c b ex cA D (23, cl', [], t', n', sl')) : en_LT p l e s m below meth c b ex cA D (40, cl, [.inl 21], t, n, sl) := by
  obtain ⟨sa, hX⟩ := hX
  have C6 := lw_at C0 (d' := 60) (by decide)
  have hLv := lw_scr_ok xs hL
  refine lt_go C6 (lw_21a hLv hi hcl) (fun o ho => ?_)
  obtain rfl := ho
  refine ⟨_, rfl, ?_⟩
  have hg := hI.1 0 ag_0 rfl
  obtain ⟨vs0, hg, -, -⟩ := hg
  rcases th_21 (n := n)  hI with ⟨v, t1, hu, I1⟩ | ⟨fuel, ls, t1, hr, I1⟩
  · obtain ⟨fE, oE, rE, t2, rfl, g2, e2⟩ := lw_21c (n := n) (ls := [(0, gx_r 0), (1, gx_r 412)]) (v := v) I1.1
    have I2 := pi_412 I1 g2 e2
    refine tx_law (qO := tx_oS) (hh := [(0, 8, 11, 13)]) (m9 := 2) (as := [gx_r 0, gx_r 412]) (k := 0) (n1 := n) (s1 := 0) (t1 := t2) C0 hX (tx_nmet (mi := 89) (q := tx_qS) (qO := tx_oS) (a := 0) (as := []) (rest := [.inl 0, gx_r 412]) (pcI := 3) (iI := 18) (fuel := 10) (st := [gx_r 0, .inl 0, gx_r 412]) (ls := [(0, gx_r 0), (1, gx_r 412)]) tx_iS rfl (tx_all tx_cS_chk tx_cS_lt) (by decide +kernel) (by decide +kernel) hu (by show 2 ≤ 3; decide) rfl rfl (by decide) hg rfl tx_dSI tx_wiS ⟨fE, rE⟩) (Nat.le_refl _) tx_wcS tx_wlS tx_wtS rfl (by decide +kernel) (by decide) tx_dSL rfl ?_
    exact lt_go C6 (lw_21b (n := n) (sl := sl + 0) hLv hi I2 hcl) (fun o ho => by
      obtain ⟨cl', t', rfl, I3, c3⟩ := ho
      exact ⟨_, rfl, hn cl' t' n (sl + 0) I3 c3 (by first | decide | omega) (by first | decide | omega)⟩)
  · have hM := tx_lmet (l := l) (ba := s.heap.size) (ex := ex) (cA := cA) (D := D) (is := 243) (sa := sa) (tx := "no two crews") (mi := 89) (q := tx_qS) (qO := tx_oS) (a := 0) (as := []) (as0 := [gx_r 0, gx_r 412]) (rest := [.inl 0, gx_r 412]) (pcI := 3) (pcH := 11) (pcE := 12) (nH := 2) (iI := 18) (cH := 13) (h1 := 0) (h2 := 8) (fuel := 10) (st := [gx_r 0, .inl 0, gx_r 412]) (ls := [(0, gx_r 0), (1, gx_r 412)]) (t := t) (t1 := t1) (n := n) tx_iS rfl (tx_all tx_cS_chk tx_cS_lt) (by decide +kernel) (by decide +kernel) tx_wcS tx_wcl (by decide) (by decide)
      (tx_met (mi := 89) (q := tx_qS) (pc0 := 14) (fuel := fuel) (is := 243) hl tx_iS (by decide +kernel) rfl (by show 1 ≤ 7; decide) hr tx_dS0 tx_dS1 tx_dS2 tx_dS3 tx_dS4)
      (by show 2 ≤ 3; decide) rfl rfl (by decide) hg rfl tx_dSI tx_wiS (Or.inr ⟨2, rfl, tx_dSH, rfl⟩) (by decide) (tx_eS _ _ _)
    refine tx_law (qO := tx_oS) (hh := [(0, 8, 11, 13)]) (m9 := 2) (as := [gx_r 0, gx_r 412]) (k := 1) (n1 := n + 1) (s1 := 6) (t1 := t1) C0 hX (by rw [show n + 1 - n = 1 by omega]; exact hM) (Nat.le_succ _) tx_wcS tx_wlS tx_wtS rfl (by decide +kernel) (by decide) tx_dSL rfl ?_
    exact lt_go C6 (lw_21b (n := n + 1) (sl := sl + 6) hLv hi I1 hcl) (fun o ho => by
      obtain ⟨cl', t', rfl, I3, c3⟩ := ho
      exact ⟨_, rfl, hn cl' t' (n + 1) (sl + 6) I3 c3 (by first | decide | omega) (by first | decide | omega)⟩)
theorem lt_turn (C0 : en_LC 62 p s m meth c b ex cA D L xs) (hl : l.stackTraces = false) (hX : tx_All s) (hL : L ≤ 3584) {i n sl : Nat} {cl : en_L} {t : en_H} (hi : i + 7 ≤ L) (hI : pi_I i t) (hcl : lw_cl cl i)
    (hn : ∀ cl' t' n' sl', pi_I (i + 7) t' → lw_cl cl' (i + 7) → n' ≤ n + 1 → sl' ≤ sl + 6 → en_LT p l e s m below meth c b ex cA D (23, cl', [], t', n', sl')) : en_LT p l e s m below meth c b ex cA D (23, cl, [], t, n, sl) := by
  have C6 := lw_at C0 (d' := 60) (by decide)
  have hLv := lw_scr_ok xs hL
  refine lt_go C6 (lw_head hLv hi hcl) (fun o ho => ?_)
  obtain ⟨z, hz, rfl⟩ := ho
  refine ⟨_, rfl, ?_⟩
  have go : ∀ {S : en_S}, en_ex (some (lw_scr L xs)) (en_u 60) en_lawc (fun pc => Nat.beq pc 23) S (lw_nx i n sl) → en_LT p l e s m below meth c b ex cA D S := fun h => lt_go C6 h (fun o ho => by
    obtain ⟨cl', t', rfl, I3, c3⟩ := ho
    exact ⟨_, rfl, hn cl' t' n sl I3 c3 (by first | decide | omega) (by first | decide | omega)⟩)
  match z, hz with
  | 0, _ => exact go (lw_0 hLv hi hI hcl)
  | 1, _ => exact go (lw_1 hLv hi hI hcl)
  | 2, _ => exact go (lw_2 hLv hi hI hcl)
  | 3, _ => exact go (lw_3 hLv hi hI hcl)
  | 4, _ => exact go (lw_4 hLv hi hI hcl)
  | 5, _ => exact lt_5 C0 hl hX.1 hL hi hI hcl hn
  | 6, _ => exact lt_6 C0 hl hX.2.1 hL hi hI hcl hn
  | 7, _ => exact go (lw_7 hLv hi hI hcl)
  | 8, _ => exact go (lw_8 hLv hi hI hcl)
  | 9, _ => exact go (lw_9 hLv hi hI hcl)
  | 10, _ => exact go (lw_10 hLv hi hI hcl)
  | 11, _ => exact go (lw_11 hLv hi hI hcl)
  | 12, _ => exact go (lw_12 hLv hi hI hcl)
  | 13, _ => exact go (lw_13 hLv hi hI hcl)
  | 14, _ => exact go (lw_14 hLv hi hI hcl)
  | 15, _ => exact go (lw_15 hLv hi hI hcl)
  | 16, _ => exact go (lw_16 hLv hi hI hcl)
  | 17, _ => exact go (lw_17 hLv hi hI hcl)
  | 18, _ => exact go (lw_18 hLv hi hI hcl)
  | 19, _ => exact go (lw_19 hLv hi hI hcl)
  | 20, _ => exact go (lw_20 hLv hi hI hcl)
  | 21, _ => exact lt_21 C0 hl hX.2.2 hL hi hI hcl hn
  | 22, _ => exact go (lw_22 hLv hi hI hcl)
  | 23, _ => exact go (lw_23 hLv hi hI hcl)
  | 24, _ => exact go (lw_24 hLv hi hI hcl)
  | 25, _ => exact go (lw_25 hLv hi hI hcl)
  | 26, _ => exact go (lw_26 hLv hi hI hcl)
  | 27, _ => exact go (lw_27 hLv hi hI hcl)
  | 28, _ => exact go (lw_28 hLv hi hI hcl)
  | 29, _ => exact go (lw_29 hLv hi hI hcl)
  | 30, _ => exact go (lw_30 hLv hi hI hcl)
  | 31, _ => exact go (lw_31 hLv hi hI hcl)
  | k + 32, h => omega
end
section
variable {Lv : List en_V} {t : en_H} {n sl : Nat}
theorem lw_out {L i : Nat} {cl : en_L} (hLv : lw_Lv Lv L) (hi : ¬ i + 7 ≤ L) (hiL : i ≤ L) (h7 : L < 7 → i = 0) (hcl : lw_cl cl i) : en_ex (some Lv) (en_u 60) en_lawc (fun pc => Nat.beq pc 1272) (23, cl, [], t, n, sl) (fun o => o = .inr (1272, cl, [.inl 1], t, n, sl)) := by
  obtain ⟨h0, h1, h2, h3, h4⟩ := hcl
  have hL := hLv.2.1
  rcases (show L = 0 ∨ L = 1 ∨ L = 2 ∨ L = 3 ∨ L = 4 ∨ L = 5 ∨ L = 6 ∨ 7 ≤ L by omega) with e9 | e9 | e9 | e9 | e9 | e9 | e9 | e9
  · subst e9
    have ei := h7 (by decide)
    subst ei
    refine gx_ld (i := 4) (d := 0) (v := .inl 0) rfl (fun _ => rfl) h4 rfl rfl ?_
    refine gx_ld (i := 0) (d := 2) (v := .inr (.inr (.inr (.inl 2)))) rfl (fun _ => rfl) h0 rfl rfl ?_
    refine gx_scl rfl hLv.1 rfl ?_
    refine ex_go (S := (29, cl, [.inl 7, .inl 0, .inl 0], t, n, sl)) rfl (fun _ => rfl) rfl ?_
    refine ex_go (S := (30, cl, [.inl 4294967289, .inl 0], t, n, sl)) rfl (fun _ => rfl) rfl ?_
    refine ex_go (S := (1271, cl, [], t, n, sl)) rfl (fun _ => rfl) rfl ?_
    exact ex_stop (S := (1272, cl, [.inl 1], t, n, sl)) rfl (fun _ => rfl) rfl rfl
  · subst e9
    have ei := h7 (by decide)
    subst ei
    refine gx_ld (i := 4) (d := 0) (v := .inl 0) rfl (fun _ => rfl) h4 rfl rfl ?_
    refine gx_ld (i := 0) (d := 2) (v := .inr (.inr (.inr (.inl 2)))) rfl (fun _ => rfl) h0 rfl rfl ?_
    refine gx_scl rfl hLv.1 rfl ?_
    refine ex_go (S := (29, cl, [.inl 7, .inl 1, .inl 0], t, n, sl)) rfl (fun _ => rfl) rfl ?_
    refine ex_go (S := (30, cl, [.inl 4294967290, .inl 0], t, n, sl)) rfl (fun _ => rfl) rfl ?_
    refine ex_go (S := (1271, cl, [], t, n, sl)) rfl (fun _ => rfl) rfl ?_
    exact ex_stop (S := (1272, cl, [.inl 1], t, n, sl)) rfl (fun _ => rfl) rfl rfl
  · subst e9
    have ei := h7 (by decide)
    subst ei
    refine gx_ld (i := 4) (d := 0) (v := .inl 0) rfl (fun _ => rfl) h4 rfl rfl ?_
    refine gx_ld (i := 0) (d := 2) (v := .inr (.inr (.inr (.inl 2)))) rfl (fun _ => rfl) h0 rfl rfl ?_
    refine gx_scl rfl hLv.1 rfl ?_
    refine ex_go (S := (29, cl, [.inl 7, .inl 2, .inl 0], t, n, sl)) rfl (fun _ => rfl) rfl ?_
    refine ex_go (S := (30, cl, [.inl 4294967291, .inl 0], t, n, sl)) rfl (fun _ => rfl) rfl ?_
    refine ex_go (S := (1271, cl, [], t, n, sl)) rfl (fun _ => rfl) rfl ?_
    exact ex_stop (S := (1272, cl, [.inl 1], t, n, sl)) rfl (fun _ => rfl) rfl rfl
  · subst e9
    have ei := h7 (by decide)
    subst ei
    refine gx_ld (i := 4) (d := 0) (v := .inl 0) rfl (fun _ => rfl) h4 rfl rfl ?_
    refine gx_ld (i := 0) (d := 2) (v := .inr (.inr (.inr (.inl 2)))) rfl (fun _ => rfl) h0 rfl rfl ?_
    refine gx_scl rfl hLv.1 rfl ?_
    refine ex_go (S := (29, cl, [.inl 7, .inl 3, .inl 0], t, n, sl)) rfl (fun _ => rfl) rfl ?_
    refine ex_go (S := (30, cl, [.inl 4294967292, .inl 0], t, n, sl)) rfl (fun _ => rfl) rfl ?_
    refine ex_go (S := (1271, cl, [], t, n, sl)) rfl (fun _ => rfl) rfl ?_
    exact ex_stop (S := (1272, cl, [.inl 1], t, n, sl)) rfl (fun _ => rfl) rfl rfl
  · subst e9
    have ei := h7 (by decide)
    subst ei
    refine gx_ld (i := 4) (d := 0) (v := .inl 0) rfl (fun _ => rfl) h4 rfl rfl ?_
    refine gx_ld (i := 0) (d := 2) (v := .inr (.inr (.inr (.inl 2)))) rfl (fun _ => rfl) h0 rfl rfl ?_
    refine gx_scl rfl hLv.1 rfl ?_
    refine ex_go (S := (29, cl, [.inl 7, .inl 4, .inl 0], t, n, sl)) rfl (fun _ => rfl) rfl ?_
    refine ex_go (S := (30, cl, [.inl 4294967293, .inl 0], t, n, sl)) rfl (fun _ => rfl) rfl ?_
    refine ex_go (S := (1271, cl, [], t, n, sl)) rfl (fun _ => rfl) rfl ?_
    exact ex_stop (S := (1272, cl, [.inl 1], t, n, sl)) rfl (fun _ => rfl) rfl rfl
  · subst e9
    have ei := h7 (by decide)
    subst ei
    refine gx_ld (i := 4) (d := 0) (v := .inl 0) rfl (fun _ => rfl) h4 rfl rfl ?_
    refine gx_ld (i := 0) (d := 2) (v := .inr (.inr (.inr (.inl 2)))) rfl (fun _ => rfl) h0 rfl rfl ?_
    refine gx_scl rfl hLv.1 rfl ?_
    refine ex_go (S := (29, cl, [.inl 7, .inl 5, .inl 0], t, n, sl)) rfl (fun _ => rfl) rfl ?_
    refine ex_go (S := (30, cl, [.inl 4294967294, .inl 0], t, n, sl)) rfl (fun _ => rfl) rfl ?_
    refine ex_go (S := (1271, cl, [], t, n, sl)) rfl (fun _ => rfl) rfl ?_
    exact ex_stop (S := (1272, cl, [.inl 1], t, n, sl)) rfl (fun _ => rfl) rfl rfl
  · subst e9
    have ei := h7 (by decide)
    subst ei
    refine gx_ld (i := 4) (d := 0) (v := .inl 0) rfl (fun _ => rfl) h4 rfl rfl ?_
    refine gx_ld (i := 0) (d := 2) (v := .inr (.inr (.inr (.inl 2)))) rfl (fun _ => rfl) h0 rfl rfl ?_
    refine gx_scl rfl hLv.1 rfl ?_
    refine ex_go (S := (29, cl, [.inl 7, .inl 6, .inl 0], t, n, sl)) rfl (fun _ => rfl) rfl ?_
    refine ex_go (S := (30, cl, [.inl 4294967295, .inl 0], t, n, sl)) rfl (fun _ => rfl) rfl ?_
    refine ex_go (S := (1271, cl, [], t, n, sl)) rfl (fun _ => rfl) rfl ?_
    exact ex_stop (S := (1272, cl, [.inl 1], t, n, sl)) rfl (fun _ => rfl) rfl rfl
  · refine gx_ld (i := 4) (d := 0) (v := .inl i) rfl (fun _ => rfl) h4 rfl rfl ?_
    refine gx_ld (i := 0) (d := 2) (v := .inr (.inr (.inr (.inl 2)))) rfl (fun _ => rfl) h0 rfl rfl ?_
    refine gx_scl rfl hLv.1 rfl ?_
    refine ex_go (S := (29, cl, [.inl 7, .inl L, .inl i], t, n, sl)) rfl (fun _ => rfl) rfl ?_
    refine gx_isub rfl (by first | decide | omega) (by first | decide | omega) rfl ?_
    refine gx_2t (c := .gt) rfl (by first | decide | omega) (by first | decide | omega) (show L - 7 < i from by omega) rfl ?_
    exact ex_stop (S := (1272, cl, [.inl 1], t, n, sl)) rfl (fun _ => rfl) rfl rfl
end
section
variable {p : Program} {l : Launch} {e : Env} {s : State} {m : MethodId} {below : List Frame} {meth : Method} {c : Code} {b L : Nat} {xs : Nat → Int32} {ex : Nat → Nat} {cA : Nat → ClassId} {D : va_G}
theorem lt_loop (C0 : en_LC 62 p s m meth c b ex cA D L xs) (hl : l.stackTraces = false) (hX : tx_All s) (hL : L ≤ 3584) : ∀ (j i n sl : Nat) (cl : en_L) (t : en_H), L ≤ i + j → i ≤ L → (L < 7 → i = 0) → n ≤ 413 + i → sl ≤ 31071 + 6 * i → pi_I i t → lw_cl cl i → en_LT p l e s m below meth c b ex cA D (23, cl, [], t, n, sl) := by
  intro j
  induction j with
  | zero =>
    intro i n sl cl t hj hi h7 hn hs hI hcl
    refine lt_go (lw_at C0 (d' := 60) (by decide)) (lw_out (lw_scr_ok xs hL) (by first | decide | omega) hi h7 hcl) (fun o ho => ?_)
    subst ho
    exact ⟨_, rfl, lt_end C0 (by first | decide | omega) (by first | decide | omega)⟩
  | succ j ih =>
    intro i n sl cl t hj hi h7 hn hs hI hcl
    by_cases c9 : i + 7 ≤ L
    · exact lt_turn C0 hl hX hL c9 hI hcl (fun cl' t' n' sl' I1 c1 h1 h2 => ih (i + 7) n' sl' cl' t' (by first | decide | omega) c9 (by first | decide | omega) (by first | decide | omega) (by first | decide | omega) I1 c1)
    · refine lt_go (lw_at C0 (d' := 60) (by decide)) (lw_out (lw_scr_ok xs hL) c9 hi h7 hcl) (fun o ho => ?_)
      subst ho
      exact ⟨_, rfl, lt_end C0 (by first | decide | omega) (by first | decide | omega)⟩
end
end PKJ
