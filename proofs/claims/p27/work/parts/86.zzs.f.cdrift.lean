section SSF
theorem sc_act_l8_191 (d n : Nat) {tb : en_H} {w : Nat → Nat → Nat} {L : List Nat} {σ : Nat → Nat} {x : Nat} {Q : en_O → Prop} (hC : CW tb 191 w L) (hw : WS w) (hb : sbd σ) (k10 : ai_hv tb 0 10 = some (gx_r 191)) (hx : x ≤ 30) (hQ : ∀ cl t1, ai_HG ah_G t1 → (∀ c i, ¬ (c = 231 ∨ c = 9 ∨ c = 10 ∨ c = 13 ∨ c = 14 ∨ (c = 8 ∧ i = 0)) → ai_hv t1 c i = ai_hv tb c i) → SC t1 8 (w 0 2) (w 0 4) (itp w L x σ) → en_ld cl 0 = some (gx_r 0) → en_ld cl 1 = some (gx_r 8) → en_ld cl 4 = some (.inl x) → en_ex none (en_u (d + 4)) (en_code 124) (fun _ => false) (36, cl, [], t1, n, 0) Q) : ∀ j k cl t0, k + j = x → ai_HG ah_G t0 → (∀ c i, ¬ (c = 231 ∨ c = 9 ∨ c = 10 ∨ c = 13 ∨ c = 14 ∨ (c = 8 ∧ i = 0)) → ai_hv t0 c i = ai_hv tb c i) → SC t0 8 (w 0 2) (w 0 4) (itp w L k σ) → en_ld cl 0 = some (gx_r 0) → en_ld cl 1 = some (gx_r 8) → en_ld cl 4 = some (.inl x) → en_ld cl 5 = some (.inl k) → en_ex none (en_u (d + 4)) (en_code 124) (fun _ => false) (7, cl, [], t0, n, 0) Q := by
  intro j
  induction j with
  | zero =>
    intro k cl t0 hk g0 e0 i0 l0 l1 l4 l5
    have hk : k = x := by omega
    rw [hk] at i0 l5
    refine gx_ld (i := 5) (d := 0) (v := .inl x) rfl (fun _ => rfl) l5 rfl rfl ?_
    refine gx_ld (i := 4) (d := 0) (v := .inl x) rfl (fun _ => rfl) l4 rfl rfl ?_
    refine gx_2t (c := .ge) rfl (by first | decide | omega) (by first | decide | omega) (show x ≤ x from by omega) rfl ?_
    exact hQ _ t0 g0 e0 i0 l0 l1 l4
  | succ j ih =>
    intro k cl t0 hk g0 e0 i0 l0 l1 l4 l5
    refine gx_ld (i := 5) (d := 0) (v := .inl k) rfl (fun _ => rfl) l5 rfl rfl ?_
    refine gx_ld (i := 4) (d := 0) (v := .inl x) rfl (fun _ => rfl) l4 rfl rfl ?_
    refine gx_2f (c := .ge) rfl (by first | decide | omega) (by first | decide | omega) (show ¬ (x ≤ k) from by omega) rfl ?_
    refine gx_ld (i := 5) (d := 0) (v := .inl k) rfl (fun _ => rfl) l5 rfl rfl ?_
    refine ex_go (S := (18, cl, [.inl 30, .inl k], t0, n, 0)) rfl (fun _ => rfl) rfl ?_
    refine gx_2f (c := .ge) rfl (by first | decide | omega) (by first | decide | omega) (show ¬ (30 ≤ k) from by omega) rfl ?_
    refine gx_ld (i := 1) (d := 2) (v := gx_r 8) rfl (fun _ => rfl) l1 rfl rfl ?_
    refine gx_ld (i := 0) (d := 2) (v := gx_r 0) rfl (fun _ => rfl) l0 rfl rfl ?_
    refine gxo_get (a := 0) rfl g0 rfl rfl ((e0 0 10 (by first | decide | omega)).trans k10) rfl ?_
    obtain ⟨_, r121, t121, rfl, g121, e121, y121⟩ := sc_pass8_191 d n (σ := itp w L k σ) g0 (CW_keep hC (fun c i h => e0 c i (by first | decide | omega))) hw (sbd_itp hw hb k) i0
    refine gx_callo (a := 8) rfl rfl g0 rfl rfl rfl r121 rfl ?_
    have k22 : ai_hv t121 0 10 = some (gx_r 191) := (e121 0 10 (by first | decide | omega)).trans ((e0 0 10 (by first | decide | omega)).trans k10)
    show en_ex _ _ _ _ (29, cl, [.inl (eaten w L (itp w L k σ))], t121, n, 0) _
    refine gs_pop rfl rfl rfl ?_
    refine gx_incS (i := 5) (a := k) (x := 1) rfl (fun _ => rfl) l5 (by first | decide | omega) rfl (fun l23 hl23 ml23 => ?_)
    have l23_0 : en_ld l23 0 = some (gx_r 0) := ml23 0 _ l0 rfl
    have l23_1 : en_ld l23 1 = some (gx_r 8) := ml23 1 _ l1 rfl
    have l23_4 : en_ld l23 4 = some (.inl x) := ml23 4 _ l4 rfl
    refine ex_go (S := (7, l23, [], t121, n, 0)) rfl (fun _ => rfl) rfl ?_
    exact ih (k + 1) _ t121 (by first | decide | omega) g121 (fun c i h => (e121 c i (by first | decide | omega)).trans (e0 c i h)) y121 l23_0 l23_1 l23_4 hl23
theorem sc_act0_8_191 (d n : Nat) {t0 : en_H} {w : Nat → Nat → Nat} {L : List Nat} {σ : Nat → Nat} {x cr : Nat} (g0 : ai_HG ah_G t0) (hC : CW t0 191 w L) (hw : WS w) (hb : sbd σ) (k10 : ai_hv t0 0 10 = some (gx_r 191)) (hx : x ≤ 30) (hS : SC t0 8 (w 0 2) (w 0 4) σ) : ∃ r, en_u (d + 5) 124 [gx_r 0, gx_r 8, .inl 0, .inl cr, .inl x] t0 n = some r ∧ ∃ t', r = (some (.inl (itp w L x σ 0)), t', n, 0) ∧ ai_HG ah_G t' ∧ (∀ c i, ¬ (c = 231 ∨ c = 9 ∨ c = 10 ∨ c = 13 ∨ c = 14 ∨ (c = 8 ∧ i = 0)) → ai_hv t' c i = ai_hv t0 c i) ∧ SC t' 8 (w 0 2) (w 0 4) (itp w L x σ) := by
  refine en_u_ex (d := d + 4) rfl ?_
  show en_ex _ _ _ _ (0, [(0, gx_r 0), (1, gx_r 8), (2, .inl 0), (3, .inl cr), (4, .inl x)], [], t0, n, 0) _
  refine ex_go (S := (1, [(0, gx_r 0), (1, gx_r 8), (2, .inl 0), (3, .inl cr), (4, .inl x)], [.inl 0], t0, n, 0)) rfl (fun _ => rfl) rfl ?_
  refine ex_go (S := (4, [(0, gx_r 0), (1, gx_r 8), (2, .inl 0), (3, .inl cr), (4, .inl x)], [], t0, n, 0)) rfl (fun _ => rfl) rfl ?_
  refine ex_go (S := (5, [(0, gx_r 0), (1, gx_r 8), (2, .inl 0), (3, .inl cr), (4, .inl x)], [.inl 0], t0, n, 0)) rfl (fun _ => rfl) rfl ?_
  refine ex_go (S := (7, [(5, .inl 0), (0, gx_r 0), (1, gx_r 8), (2, .inl 0), (3, .inl cr), (4, .inl x)], [], t0, n, 0)) rfl (fun _ => rfl) rfl ?_
  refine sc_act_l8_191 d n (tb := t0) hC hw hb k10 hx (fun cl121 t121 g121 e121 i121 l1210 l1211 l1214 => ?_) x 0 _ _ (by first | decide | omega) g0 (fun _ _ _ => rfl) hS rfl rfl rfl rfl
  refine gx_ld (i := 1) (d := 2) (v := gx_r 8) rfl (fun _ => rfl) l1211 rfl rfl ?_
  refine gxo_get (a := 8) rfl g121 rfl rfl i121.1 rfl ?_
  refine ex_ret (r := (some (.inl (itp w L x σ 0)), t121, n, 0)) rfl (fun _ => rfl) ?_
  exact ⟨_, rfl, t121, rfl, g121, e121, i121⟩
theorem sc_act_l8_257 (d n : Nat) {tb : en_H} {w : Nat → Nat → Nat} {L : List Nat} {σ : Nat → Nat} {x : Nat} {Q : en_O → Prop} (hC : CW tb 257 w L) (hw : WS w) (hb : sbd σ) (k10 : ai_hv tb 0 10 = some (gx_r 257)) (hx : x ≤ 30) (hQ : ∀ cl t1, ai_HG ah_G t1 → (∀ c i, ¬ (c = 297 ∨ c = 9 ∨ c = 10 ∨ c = 13 ∨ c = 14 ∨ (c = 8 ∧ i = 0)) → ai_hv t1 c i = ai_hv tb c i) → SC t1 8 (w 0 2) (w 0 4) (itp w L x σ) → en_ld cl 0 = some (gx_r 0) → en_ld cl 1 = some (gx_r 8) → en_ld cl 4 = some (.inl x) → en_ex none (en_u (d + 4)) (en_code 124) (fun _ => false) (36, cl, [], t1, n, 0) Q) : ∀ j k cl t0, k + j = x → ai_HG ah_G t0 → (∀ c i, ¬ (c = 297 ∨ c = 9 ∨ c = 10 ∨ c = 13 ∨ c = 14 ∨ (c = 8 ∧ i = 0)) → ai_hv t0 c i = ai_hv tb c i) → SC t0 8 (w 0 2) (w 0 4) (itp w L k σ) → en_ld cl 0 = some (gx_r 0) → en_ld cl 1 = some (gx_r 8) → en_ld cl 4 = some (.inl x) → en_ld cl 5 = some (.inl k) → en_ex none (en_u (d + 4)) (en_code 124) (fun _ => false) (7, cl, [], t0, n, 0) Q := by
  intro j
  induction j with
  | zero =>
    intro k cl t0 hk g0 e0 i0 l0 l1 l4 l5
    have hk : k = x := by omega
    rw [hk] at i0 l5
    refine gx_ld (i := 5) (d := 0) (v := .inl x) rfl (fun _ => rfl) l5 rfl rfl ?_
    refine gx_ld (i := 4) (d := 0) (v := .inl x) rfl (fun _ => rfl) l4 rfl rfl ?_
    refine gx_2t (c := .ge) rfl (by first | decide | omega) (by first | decide | omega) (show x ≤ x from by omega) rfl ?_
    exact hQ _ t0 g0 e0 i0 l0 l1 l4
  | succ j ih =>
    intro k cl t0 hk g0 e0 i0 l0 l1 l4 l5
    refine gx_ld (i := 5) (d := 0) (v := .inl k) rfl (fun _ => rfl) l5 rfl rfl ?_
    refine gx_ld (i := 4) (d := 0) (v := .inl x) rfl (fun _ => rfl) l4 rfl rfl ?_
    refine gx_2f (c := .ge) rfl (by first | decide | omega) (by first | decide | omega) (show ¬ (x ≤ k) from by omega) rfl ?_
    refine gx_ld (i := 5) (d := 0) (v := .inl k) rfl (fun _ => rfl) l5 rfl rfl ?_
    refine ex_go (S := (18, cl, [.inl 30, .inl k], t0, n, 0)) rfl (fun _ => rfl) rfl ?_
    refine gx_2f (c := .ge) rfl (by first | decide | omega) (by first | decide | omega) (show ¬ (30 ≤ k) from by omega) rfl ?_
    refine gx_ld (i := 1) (d := 2) (v := gx_r 8) rfl (fun _ => rfl) l1 rfl rfl ?_
    refine gx_ld (i := 0) (d := 2) (v := gx_r 0) rfl (fun _ => rfl) l0 rfl rfl ?_
    refine gxo_get (a := 0) rfl g0 rfl rfl ((e0 0 10 (by first | decide | omega)).trans k10) rfl ?_
    obtain ⟨_, r121, t121, rfl, g121, e121, y121⟩ := sc_pass8_257 d n (σ := itp w L k σ) g0 (CW_keep hC (fun c i h => e0 c i (by first | decide | omega))) hw (sbd_itp hw hb k) i0
    refine gx_callo (a := 8) rfl rfl g0 rfl rfl rfl r121 rfl ?_
    have k22 : ai_hv t121 0 10 = some (gx_r 257) := (e121 0 10 (by first | decide | omega)).trans ((e0 0 10 (by first | decide | omega)).trans k10)
    show en_ex _ _ _ _ (29, cl, [.inl (eaten w L (itp w L k σ))], t121, n, 0) _
    refine gs_pop rfl rfl rfl ?_
    refine gx_incS (i := 5) (a := k) (x := 1) rfl (fun _ => rfl) l5 (by first | decide | omega) rfl (fun l23 hl23 ml23 => ?_)
    have l23_0 : en_ld l23 0 = some (gx_r 0) := ml23 0 _ l0 rfl
    have l23_1 : en_ld l23 1 = some (gx_r 8) := ml23 1 _ l1 rfl
    have l23_4 : en_ld l23 4 = some (.inl x) := ml23 4 _ l4 rfl
    refine ex_go (S := (7, l23, [], t121, n, 0)) rfl (fun _ => rfl) rfl ?_
    exact ih (k + 1) _ t121 (by first | decide | omega) g121 (fun c i h => (e121 c i (by first | decide | omega)).trans (e0 c i h)) y121 l23_0 l23_1 l23_4 hl23
theorem sc_act0_8_257 (d n : Nat) {t0 : en_H} {w : Nat → Nat → Nat} {L : List Nat} {σ : Nat → Nat} {x cr : Nat} (g0 : ai_HG ah_G t0) (hC : CW t0 257 w L) (hw : WS w) (hb : sbd σ) (k10 : ai_hv t0 0 10 = some (gx_r 257)) (hx : x ≤ 30) (hS : SC t0 8 (w 0 2) (w 0 4) σ) : ∃ r, en_u (d + 5) 124 [gx_r 0, gx_r 8, .inl 0, .inl cr, .inl x] t0 n = some r ∧ ∃ t', r = (some (.inl (itp w L x σ 0)), t', n, 0) ∧ ai_HG ah_G t' ∧ (∀ c i, ¬ (c = 297 ∨ c = 9 ∨ c = 10 ∨ c = 13 ∨ c = 14 ∨ (c = 8 ∧ i = 0)) → ai_hv t' c i = ai_hv t0 c i) ∧ SC t' 8 (w 0 2) (w 0 4) (itp w L x σ) := by
  refine en_u_ex (d := d + 4) rfl ?_
  show en_ex _ _ _ _ (0, [(0, gx_r 0), (1, gx_r 8), (2, .inl 0), (3, .inl cr), (4, .inl x)], [], t0, n, 0) _
  refine ex_go (S := (1, [(0, gx_r 0), (1, gx_r 8), (2, .inl 0), (3, .inl cr), (4, .inl x)], [.inl 0], t0, n, 0)) rfl (fun _ => rfl) rfl ?_
  refine ex_go (S := (4, [(0, gx_r 0), (1, gx_r 8), (2, .inl 0), (3, .inl cr), (4, .inl x)], [], t0, n, 0)) rfl (fun _ => rfl) rfl ?_
  refine ex_go (S := (5, [(0, gx_r 0), (1, gx_r 8), (2, .inl 0), (3, .inl cr), (4, .inl x)], [.inl 0], t0, n, 0)) rfl (fun _ => rfl) rfl ?_
  refine ex_go (S := (7, [(5, .inl 0), (0, gx_r 0), (1, gx_r 8), (2, .inl 0), (3, .inl cr), (4, .inl x)], [], t0, n, 0)) rfl (fun _ => rfl) rfl ?_
  refine sc_act_l8_257 d n (tb := t0) hC hw hb k10 hx (fun cl121 t121 g121 e121 i121 l1210 l1211 l1214 => ?_) x 0 _ _ (by first | decide | omega) g0 (fun _ _ _ => rfl) hS rfl rfl rfl rfl
  refine gx_ld (i := 1) (d := 2) (v := gx_r 8) rfl (fun _ => rfl) l1211 rfl rfl ?_
  refine gxo_get (a := 8) rfl g121 rfl rfl i121.1 rfl ?_
  refine ex_ret (r := (some (.inl (itp w L x σ 0)), t121, n, 0)) rfl (fun _ => rfl) ?_
  exact ⟨_, rfl, t121, rfl, g121, e121, i121⟩
theorem sc_act_l15_191 (d n : Nat) {tb : en_H} {w : Nat → Nat → Nat} {L : List Nat} {σ : Nat → Nat} {x : Nat} {Q : en_O → Prop} (hC : CW tb 191 w L) (hw : WS w) (hb : sbd σ) (k10 : ai_hv tb 0 10 = some (gx_r 191)) (hx : x ≤ 30) (hQ : ∀ cl t1, ai_HG ah_G t1 → (∀ c i, ¬ (c = 231 ∨ c = 16 ∨ c = 17 ∨ c = 20 ∨ c = 21 ∨ (c = 15 ∧ i = 0)) → ai_hv t1 c i = ai_hv tb c i) → SC t1 15 (w 0 2) (w 0 4) (itp w L x σ) → en_ld cl 0 = some (gx_r 0) → en_ld cl 1 = some (gx_r 15) → en_ld cl 4 = some (.inl x) → en_ex none (en_u (d + 4)) (en_code 124) (fun _ => false) (36, cl, [], t1, n, 0) Q) : ∀ j k cl t0, k + j = x → ai_HG ah_G t0 → (∀ c i, ¬ (c = 231 ∨ c = 16 ∨ c = 17 ∨ c = 20 ∨ c = 21 ∨ (c = 15 ∧ i = 0)) → ai_hv t0 c i = ai_hv tb c i) → SC t0 15 (w 0 2) (w 0 4) (itp w L k σ) → en_ld cl 0 = some (gx_r 0) → en_ld cl 1 = some (gx_r 15) → en_ld cl 4 = some (.inl x) → en_ld cl 5 = some (.inl k) → en_ex none (en_u (d + 4)) (en_code 124) (fun _ => false) (7, cl, [], t0, n, 0) Q := by
  intro j
  induction j with
  | zero =>
    intro k cl t0 hk g0 e0 i0 l0 l1 l4 l5
    have hk : k = x := by omega
    rw [hk] at i0 l5
    refine gx_ld (i := 5) (d := 0) (v := .inl x) rfl (fun _ => rfl) l5 rfl rfl ?_
    refine gx_ld (i := 4) (d := 0) (v := .inl x) rfl (fun _ => rfl) l4 rfl rfl ?_
    refine gx_2t (c := .ge) rfl (by first | decide | omega) (by first | decide | omega) (show x ≤ x from by omega) rfl ?_
    exact hQ _ t0 g0 e0 i0 l0 l1 l4
  | succ j ih =>
    intro k cl t0 hk g0 e0 i0 l0 l1 l4 l5
    refine gx_ld (i := 5) (d := 0) (v := .inl k) rfl (fun _ => rfl) l5 rfl rfl ?_
    refine gx_ld (i := 4) (d := 0) (v := .inl x) rfl (fun _ => rfl) l4 rfl rfl ?_
    refine gx_2f (c := .ge) rfl (by first | decide | omega) (by first | decide | omega) (show ¬ (x ≤ k) from by omega) rfl ?_
    refine gx_ld (i := 5) (d := 0) (v := .inl k) rfl (fun _ => rfl) l5 rfl rfl ?_
    refine ex_go (S := (18, cl, [.inl 30, .inl k], t0, n, 0)) rfl (fun _ => rfl) rfl ?_
    refine gx_2f (c := .ge) rfl (by first | decide | omega) (by first | decide | omega) (show ¬ (30 ≤ k) from by omega) rfl ?_
    refine gx_ld (i := 1) (d := 2) (v := gx_r 15) rfl (fun _ => rfl) l1 rfl rfl ?_
    refine gx_ld (i := 0) (d := 2) (v := gx_r 0) rfl (fun _ => rfl) l0 rfl rfl ?_
    refine gxo_get (a := 0) rfl g0 rfl rfl ((e0 0 10 (by first | decide | omega)).trans k10) rfl ?_
    obtain ⟨_, r121, t121, rfl, g121, e121, y121⟩ := sc_pass15_191 d n (σ := itp w L k σ) g0 (CW_keep hC (fun c i h => e0 c i (by first | decide | omega))) hw (sbd_itp hw hb k) i0
    refine gx_callo (a := 15) rfl rfl g0 rfl rfl rfl r121 rfl ?_
    have k22 : ai_hv t121 0 10 = some (gx_r 191) := (e121 0 10 (by first | decide | omega)).trans ((e0 0 10 (by first | decide | omega)).trans k10)
    show en_ex _ _ _ _ (29, cl, [.inl (eaten w L (itp w L k σ))], t121, n, 0) _
    refine gs_pop rfl rfl rfl ?_
    refine gx_incS (i := 5) (a := k) (x := 1) rfl (fun _ => rfl) l5 (by first | decide | omega) rfl (fun l23 hl23 ml23 => ?_)
    have l23_0 : en_ld l23 0 = some (gx_r 0) := ml23 0 _ l0 rfl
    have l23_1 : en_ld l23 1 = some (gx_r 15) := ml23 1 _ l1 rfl
    have l23_4 : en_ld l23 4 = some (.inl x) := ml23 4 _ l4 rfl
    refine ex_go (S := (7, l23, [], t121, n, 0)) rfl (fun _ => rfl) rfl ?_
    exact ih (k + 1) _ t121 (by first | decide | omega) g121 (fun c i h => (e121 c i (by first | decide | omega)).trans (e0 c i h)) y121 l23_0 l23_1 l23_4 hl23
theorem sc_act0_15_191 (d n : Nat) {t0 : en_H} {w : Nat → Nat → Nat} {L : List Nat} {σ : Nat → Nat} {x cr : Nat} (g0 : ai_HG ah_G t0) (hC : CW t0 191 w L) (hw : WS w) (hb : sbd σ) (k10 : ai_hv t0 0 10 = some (gx_r 191)) (hx : x ≤ 30) (hS : SC t0 15 (w 0 2) (w 0 4) σ) : ∃ r, en_u (d + 5) 124 [gx_r 0, gx_r 15, .inl 0, .inl cr, .inl x] t0 n = some r ∧ ∃ t', r = (some (.inl (itp w L x σ 0)), t', n, 0) ∧ ai_HG ah_G t' ∧ (∀ c i, ¬ (c = 231 ∨ c = 16 ∨ c = 17 ∨ c = 20 ∨ c = 21 ∨ (c = 15 ∧ i = 0)) → ai_hv t' c i = ai_hv t0 c i) ∧ SC t' 15 (w 0 2) (w 0 4) (itp w L x σ) := by
  refine en_u_ex (d := d + 4) rfl ?_
  show en_ex _ _ _ _ (0, [(0, gx_r 0), (1, gx_r 15), (2, .inl 0), (3, .inl cr), (4, .inl x)], [], t0, n, 0) _
  refine ex_go (S := (1, [(0, gx_r 0), (1, gx_r 15), (2, .inl 0), (3, .inl cr), (4, .inl x)], [.inl 0], t0, n, 0)) rfl (fun _ => rfl) rfl ?_
  refine ex_go (S := (4, [(0, gx_r 0), (1, gx_r 15), (2, .inl 0), (3, .inl cr), (4, .inl x)], [], t0, n, 0)) rfl (fun _ => rfl) rfl ?_
  refine ex_go (S := (5, [(0, gx_r 0), (1, gx_r 15), (2, .inl 0), (3, .inl cr), (4, .inl x)], [.inl 0], t0, n, 0)) rfl (fun _ => rfl) rfl ?_
  refine ex_go (S := (7, [(5, .inl 0), (0, gx_r 0), (1, gx_r 15), (2, .inl 0), (3, .inl cr), (4, .inl x)], [], t0, n, 0)) rfl (fun _ => rfl) rfl ?_
  refine sc_act_l15_191 d n (tb := t0) hC hw hb k10 hx (fun cl121 t121 g121 e121 i121 l1210 l1211 l1214 => ?_) x 0 _ _ (by first | decide | omega) g0 (fun _ _ _ => rfl) hS rfl rfl rfl rfl
  refine gx_ld (i := 1) (d := 2) (v := gx_r 15) rfl (fun _ => rfl) l1211 rfl rfl ?_
  refine gxo_get (a := 15) rfl g121 rfl rfl i121.1 rfl ?_
  refine ex_ret (r := (some (.inl (itp w L x σ 0)), t121, n, 0)) rfl (fun _ => rfl) ?_
  exact ⟨_, rfl, t121, rfl, g121, e121, i121⟩
theorem sc_act_l15_257 (d n : Nat) {tb : en_H} {w : Nat → Nat → Nat} {L : List Nat} {σ : Nat → Nat} {x : Nat} {Q : en_O → Prop} (hC : CW tb 257 w L) (hw : WS w) (hb : sbd σ) (k10 : ai_hv tb 0 10 = some (gx_r 257)) (hx : x ≤ 30) (hQ : ∀ cl t1, ai_HG ah_G t1 → (∀ c i, ¬ (c = 297 ∨ c = 16 ∨ c = 17 ∨ c = 20 ∨ c = 21 ∨ (c = 15 ∧ i = 0)) → ai_hv t1 c i = ai_hv tb c i) → SC t1 15 (w 0 2) (w 0 4) (itp w L x σ) → en_ld cl 0 = some (gx_r 0) → en_ld cl 1 = some (gx_r 15) → en_ld cl 4 = some (.inl x) → en_ex none (en_u (d + 4)) (en_code 124) (fun _ => false) (36, cl, [], t1, n, 0) Q) : ∀ j k cl t0, k + j = x → ai_HG ah_G t0 → (∀ c i, ¬ (c = 297 ∨ c = 16 ∨ c = 17 ∨ c = 20 ∨ c = 21 ∨ (c = 15 ∧ i = 0)) → ai_hv t0 c i = ai_hv tb c i) → SC t0 15 (w 0 2) (w 0 4) (itp w L k σ) → en_ld cl 0 = some (gx_r 0) → en_ld cl 1 = some (gx_r 15) → en_ld cl 4 = some (.inl x) → en_ld cl 5 = some (.inl k) → en_ex none (en_u (d + 4)) (en_code 124) (fun _ => false) (7, cl, [], t0, n, 0) Q := by
  intro j
  induction j with
  | zero =>
    intro k cl t0 hk g0 e0 i0 l0 l1 l4 l5
    have hk : k = x := by omega
    rw [hk] at i0 l5
    refine gx_ld (i := 5) (d := 0) (v := .inl x) rfl (fun _ => rfl) l5 rfl rfl ?_
    refine gx_ld (i := 4) (d := 0) (v := .inl x) rfl (fun _ => rfl) l4 rfl rfl ?_
    refine gx_2t (c := .ge) rfl (by first | decide | omega) (by first | decide | omega) (show x ≤ x from by omega) rfl ?_
    exact hQ _ t0 g0 e0 i0 l0 l1 l4
  | succ j ih =>
    intro k cl t0 hk g0 e0 i0 l0 l1 l4 l5
    refine gx_ld (i := 5) (d := 0) (v := .inl k) rfl (fun _ => rfl) l5 rfl rfl ?_
    refine gx_ld (i := 4) (d := 0) (v := .inl x) rfl (fun _ => rfl) l4 rfl rfl ?_
    refine gx_2f (c := .ge) rfl (by first | decide | omega) (by first | decide | omega) (show ¬ (x ≤ k) from by omega) rfl ?_
    refine gx_ld (i := 5) (d := 0) (v := .inl k) rfl (fun _ => rfl) l5 rfl rfl ?_
    refine ex_go (S := (18, cl, [.inl 30, .inl k], t0, n, 0)) rfl (fun _ => rfl) rfl ?_
    refine gx_2f (c := .ge) rfl (by first | decide | omega) (by first | decide | omega) (show ¬ (30 ≤ k) from by omega) rfl ?_
    refine gx_ld (i := 1) (d := 2) (v := gx_r 15) rfl (fun _ => rfl) l1 rfl rfl ?_
    refine gx_ld (i := 0) (d := 2) (v := gx_r 0) rfl (fun _ => rfl) l0 rfl rfl ?_
    refine gxo_get (a := 0) rfl g0 rfl rfl ((e0 0 10 (by first | decide | omega)).trans k10) rfl ?_
    obtain ⟨_, r121, t121, rfl, g121, e121, y121⟩ := sc_pass15_257 d n (σ := itp w L k σ) g0 (CW_keep hC (fun c i h => e0 c i (by first | decide | omega))) hw (sbd_itp hw hb k) i0
    refine gx_callo (a := 15) rfl rfl g0 rfl rfl rfl r121 rfl ?_
    have k22 : ai_hv t121 0 10 = some (gx_r 257) := (e121 0 10 (by first | decide | omega)).trans ((e0 0 10 (by first | decide | omega)).trans k10)
    show en_ex _ _ _ _ (29, cl, [.inl (eaten w L (itp w L k σ))], t121, n, 0) _
    refine gs_pop rfl rfl rfl ?_
    refine gx_incS (i := 5) (a := k) (x := 1) rfl (fun _ => rfl) l5 (by first | decide | omega) rfl (fun l23 hl23 ml23 => ?_)
    have l23_0 : en_ld l23 0 = some (gx_r 0) := ml23 0 _ l0 rfl
    have l23_1 : en_ld l23 1 = some (gx_r 15) := ml23 1 _ l1 rfl
    have l23_4 : en_ld l23 4 = some (.inl x) := ml23 4 _ l4 rfl
    refine ex_go (S := (7, l23, [], t121, n, 0)) rfl (fun _ => rfl) rfl ?_
    exact ih (k + 1) _ t121 (by first | decide | omega) g121 (fun c i h => (e121 c i (by first | decide | omega)).trans (e0 c i h)) y121 l23_0 l23_1 l23_4 hl23
theorem sc_act0_15_257 (d n : Nat) {t0 : en_H} {w : Nat → Nat → Nat} {L : List Nat} {σ : Nat → Nat} {x cr : Nat} (g0 : ai_HG ah_G t0) (hC : CW t0 257 w L) (hw : WS w) (hb : sbd σ) (k10 : ai_hv t0 0 10 = some (gx_r 257)) (hx : x ≤ 30) (hS : SC t0 15 (w 0 2) (w 0 4) σ) : ∃ r, en_u (d + 5) 124 [gx_r 0, gx_r 15, .inl 0, .inl cr, .inl x] t0 n = some r ∧ ∃ t', r = (some (.inl (itp w L x σ 0)), t', n, 0) ∧ ai_HG ah_G t' ∧ (∀ c i, ¬ (c = 297 ∨ c = 16 ∨ c = 17 ∨ c = 20 ∨ c = 21 ∨ (c = 15 ∧ i = 0)) → ai_hv t' c i = ai_hv t0 c i) ∧ SC t' 15 (w 0 2) (w 0 4) (itp w L x σ) := by
  refine en_u_ex (d := d + 4) rfl ?_
  show en_ex _ _ _ _ (0, [(0, gx_r 0), (1, gx_r 15), (2, .inl 0), (3, .inl cr), (4, .inl x)], [], t0, n, 0) _
  refine ex_go (S := (1, [(0, gx_r 0), (1, gx_r 15), (2, .inl 0), (3, .inl cr), (4, .inl x)], [.inl 0], t0, n, 0)) rfl (fun _ => rfl) rfl ?_
  refine ex_go (S := (4, [(0, gx_r 0), (1, gx_r 15), (2, .inl 0), (3, .inl cr), (4, .inl x)], [], t0, n, 0)) rfl (fun _ => rfl) rfl ?_
  refine ex_go (S := (5, [(0, gx_r 0), (1, gx_r 15), (2, .inl 0), (3, .inl cr), (4, .inl x)], [.inl 0], t0, n, 0)) rfl (fun _ => rfl) rfl ?_
  refine ex_go (S := (7, [(5, .inl 0), (0, gx_r 0), (1, gx_r 15), (2, .inl 0), (3, .inl cr), (4, .inl x)], [], t0, n, 0)) rfl (fun _ => rfl) rfl ?_
  refine sc_act_l15_257 d n (tb := t0) hC hw hb k10 hx (fun cl121 t121 g121 e121 i121 l1210 l1211 l1214 => ?_) x 0 _ _ (by first | decide | omega) g0 (fun _ _ _ => rfl) hS rfl rfl rfl rfl
  refine gx_ld (i := 1) (d := 2) (v := gx_r 15) rfl (fun _ => rfl) l1211 rfl rfl ?_
  refine gxo_get (a := 15) rfl g121 rfl rfl i121.1 rfl ?_
  refine ex_ret (r := (some (.inl (itp w L x σ 0)), t121, n, 0)) rfl (fun _ => rfl) ?_
  exact ⟨_, rfl, t121, rfl, g121, e121, i121⟩
theorem sc_by0_191 (d n : Nat) {t0 : en_H} {w : Nat → Nat → Nat} {L : List Nat} {σ F v : Nat → Nat} {τ μ : Nat → Nat → Nat} {u q : Nat} {x : Nat} (g0 : ai_HG ah_G t0) (hC : CW t0 191 w L) (hw : WS w) (hb : sbd σ) (k10 : ai_hv t0 0 10 = some (gx_r 191)) (hS : CS t0 (w 0 2) (w 0 4) σ u τ F μ q v) (hu : u ≤ 16) (hx : x ≤ 30) (hB : σ 0 ≤ 900000) : ∃ r, en_u (d + 6) 114 [gx_r 0, .inl 0, .inl 4294967295, .inl x] t0 n = some r ∧ ∃ t', r = (some (.inl (itp w L x σ 0)), t', n, 0) ∧ ai_HG ah_G t' ∧ (∀ c i, ¬ (c = 231 ∨ (8 ≤ c ∧ c ≤ 21) ∨ (c = 22 ∧ 1 ≤ i) ∨ (24 ≤ c ∧ c ≤ 135)) → ai_hv t' c i = ai_hv t0 c i) ∧ CS t' (w 0 2) (w 0 4) (itp w L x σ) (kpu u) (kpt u σ τ) F μ q v := by
  obtain ⟨hS8, hq, ⟨o, ho, ko, ku, hτ⟩, hm⟩ := hS
  have hit := itp_0 (w := w) (L := L) hB (by decide) x hx
  refine en_u_ex (d := d + 5) rfl ?_
  show en_ex _ _ _ _ (0, [(0, gx_r 0), (1, .inl 0), (2, .inl 4294967295), (3, .inl x)], [], t0, n, 0) _
  refine ex_go (S := (1, [(0, gx_r 0), (1, .inl 0), (2, .inl 4294967295), (3, .inl x)], [gx_r 0], t0, n, 0)) rfl (fun _ => rfl) rfl ?_
  refine gxo_ref (a := 0) (c := 15) rfl g0 rfl rfl rfl rfl rfl ?_
  refine ex_go (S := (5, [(0, gx_r 0), (1, .inl 0), (2, .inl 4294967295), (3, .inl x)], [gx_r 0, gx_r 15], t0, n, 0)) rfl (fun _ => rfl) rfl ?_
  refine gxo_ref (a := 0) (c := 8) rfl g0 rfl rfl rfl rfl rfl ?_
  obtain ⟨_, r121, t121, rfl, g121, e121, y121a, y121b, y121c⟩ := sc_take (d + 4) n (A := 15) (B := 8) g0 StA_15 StA_8 (by unfold StD; omega)
  refine gx_callo (a := 15) rfl rfl g0 rfl rfl rfl r121 rfl ?_
  have k22 : ai_hv t121 0 10 = some (gx_r 191) := (e121 0 10 (by first | decide | omega)).trans k10
  show en_ex _ _ _ _ (11, [(0, gx_r 0), (1, .inl 0), (2, .inl 4294967295), (3, .inl x)], [], t121, n, 0) _
  refine ex_go (S := (12, [(0, gx_r 0), (1, .inl 0), (2, .inl 4294967295), (3, .inl x)], [gx_r 0], t121, n, 0)) rfl (fun _ => rfl) rfl ?_
  refine ex_go (S := (13, [(0, gx_r 0), (1, .inl 0), (2, .inl 4294967295), (3, .inl x)], [gx_r 0, gx_r 0], t121, n, 0)) rfl (fun _ => rfl) rfl ?_
  refine gxo_ref (a := 0) (c := 8) rfl g121 rfl rfl rfl rfl rfl ?_
  refine ex_go (S := (17, [(0, gx_r 0), (1, .inl 0), (2, .inl 4294967295), (3, .inl x)], [.inl 0, gx_r 8, gx_r 0], t121, n, 0)) rfl (fun _ => rfl) rfl ?_
  refine ex_go (S := (18, [(0, gx_r 0), (1, .inl 0), (2, .inl 4294967295), (3, .inl x)], [.inl 4294967295, .inl 0, gx_r 8, gx_r 0], t121, n, 0)) rfl (fun _ => rfl) rfl ?_
  refine ex_go (S := (19, [(0, gx_r 0), (1, .inl 0), (2, .inl 4294967295), (3, .inl x)], [.inl x, .inl 4294967295, .inl 0, gx_r 8, gx_r 0], t121, n, 0)) rfl (fun _ => rfl) rfl ?_
  obtain ⟨_, r123, t123, rfl, g123, e123, i123⟩ := sc_act0_8_191 d n (σ := σ) (x := x) (cr := 4294967295) g121 (CW_keep hC (fun c i h => e121 c i (by first | decide | omega))) hw hb ((e121 0 10 (by first | decide | omega)).trans (k10)) hx (SC_keep hS8 (fun c i h1 h2 => e121 c i (by first | decide | omega)))
  refine gx_callo (a := 0) rfl rfl g121 rfl rfl rfl r123 rfl ?_
  have k24 : ai_hv t123 0 10 = some (gx_r 191) := (e123 0 10 (by first | decide | omega)).trans k22
  show en_ex _ _ _ _ (22, [(0, gx_r 0), (1, .inl 0), (2, .inl 4294967295), (3, .inl x)], [.inl (itp w L x σ 0)], t123, n, 0) _
  refine ex_go (S := (24, [(4, .inl (itp w L x σ 0)), (0, gx_r 0), (1, .inl 0), (2, .inl 4294967295), (3, .inl x)], [], t123, n, 0)) rfl (fun _ => rfl) rfl ?_
  refine ex_go (S := (26, [(4, .inl (itp w L x σ 0)), (0, gx_r 0), (1, .inl 0), (2, .inl 4294967295), (3, .inl x)], [.inl (itp w L x σ 0)], t123, n, 0)) rfl (fun _ => rfl) rfl ?_
  refine ex_go (S := (27, [(4, .inl (itp w L x σ 0)), (0, gx_r 0), (1, .inl 0), (2, .inl 4294967295), (3, .inl x)], [.inl 4294967295, .inl (itp w L x σ 0)], t123, n, 0)) rfl (fun _ => rfl) rfl ?_
  refine gx_2mf (c := .eq) rfl (by first | decide | omega) rfl rfl ?_
  refine ex_go (S := (31, [(4, .inl (itp w L x σ 0)), (0, gx_r 0), (1, .inl 0), (2, .inl 4294967295), (3, .inl x)], [gx_r 0], t123, n, 0)) rfl (fun _ => rfl) rfl ?_
  refine gxo_ref (a := 0) (c := 22) rfl g123 rfl rfl rfl rfl rfl ?_
  refine ex_go (S := (35, [(4, .inl (itp w L x σ 0)), (0, gx_r 0), (1, .inl 0), (2, .inl 4294967295), (3, .inl x)], [gx_r 0, gx_r 22], t123, n, 0)) rfl (fun _ => rfl) rfl ?_
  refine gxo_ref (a := 0) (c := 15) rfl g123 rfl rfl rfl rfl rfl ?_
  obtain ⟨_, r125, t125, rfl, g125, e125, o125, ho125, ka125, kb125, kc125⟩ := sc_keep (d + 3) n (u := u) (o := o) (T := w 0 2) (K := w 0 4) (σ := σ) (τ := τ) g123 hu ho hw.1.2.2.1 hw.1.2.2.2.2.1 ((e123 22 2 (by first | decide | omega)).trans ((e121 22 2 (by first | decide | omega)).trans (ku))) ((e123 22 1 (by first | decide | omega)).trans ((e121 22 1 (by first | decide | omega)).trans (ko))) (SC_keep (SC_take hS8 hw.1.2.2.1 hw.1.2.2.2.2.1 y121a y121b y121c) (fun c i h1 h2 => e123 c i (by first | decide | omega))) (fun k hk => SC_keep (hτ k hk) (fun c i h1 h2 => (e123 c i (by first | decide | omega)).trans (e121 c i (by first | decide | omega))))
  refine gx_callo (a := 22) rfl rfl g123 rfl rfl rfl r125 rfl ?_
  have k26 : ai_hv t125 0 10 = some (gx_r 191) := (e125 0 10 (by first | decide | omega)).trans k24
  show en_ex _ _ _ _ (41, [(4, .inl (itp w L x σ 0)), (0, gx_r 0), (1, .inl 0), (2, .inl 4294967295), (3, .inl x)], [], t125, n, 0) _
  refine ex_go (S := (43, [(4, .inl (itp w L x σ 0)), (0, gx_r 0), (1, .inl 0), (2, .inl 4294967295), (3, .inl x)], [.inl (itp w L x σ 0)], t125, n, 0)) rfl (fun _ => rfl) rfl ?_
  refine ex_ret (r := (some (.inl (itp w L x σ 0)), t125, n, 0)) rfl (fun _ => rfl) ?_
  exact ⟨_, rfl, t125, rfl, g125, (fun c i h => (e125 c i (by first | decide | omega)).trans ((e123 c i (by first | decide | omega)).trans (e121 c i (by first | decide | omega)))), ⟨SC_keep i123 (fun c i h1 h2 => e125 c i (by first | decide | omega)), (e125 139 0 (by first | decide | omega)).trans ((e123 139 0 (by first | decide | omega)).trans ((e121 139 0 (by first | decide | omega)).trans (hq))), ⟨o125, ho125, ka125, kb125, kc125⟩, fun m hm9 => ⟨(e125 138 m (by first | decide | omega)).trans ((e123 138 m (by first | decide | omega)).trans ((e121 138 m (by first | decide | omega)).trans ((hm m hm9).1))), fun z => ⟨SC_keep ((hm m hm9).2 z).1 (fun c i h1 h2 => (e125 c i (by first | decide | omega)).trans ((e123 c i (by first | decide | omega)).trans (e121 c i (by first | decide | omega)))), ((e125 _ _ (by first | decide | omega)).trans ((e123 _ _ (by first | decide | omega)).trans (e121 _ _ (by first | decide | omega)))).trans ((hm m hm9).2 z).2⟩⟩⟩⟩
theorem sc_drift191 (d n : Nat) {t0 : en_H} {w : Nat → Nat → Nat} {L : List Nat} {σ F v : Nat → Nat} {τ μ : Nat → Nat → Nat} {u q : Nat} {x : Nat} (g0 : ai_HG ah_G t0) (hC : CW t0 191 w L) (hw : WS w) (hb : sbd σ) (k10 : ai_hv t0 0 10 = some (gx_r 191)) (hS : CS t0 (w 0 2) (w 0 4) σ u τ F μ q v) (hu : u ≤ 16) (hx : x < 4294967296) (hB : σ 0 ≤ 900000) : ∃ r, en_u (d + 7) 42 [gx_r 0, .inl x] t0 n = some r ∧ ∃ y t', r = (some (.inl y), t', n, 0) ∧ ai_HG ah_G t' ∧ (∀ c i, ¬ (c = 231 ∨ (8 ≤ c ∧ c ≤ 21) ∨ (c = 22 ∧ 1 ≤ i) ∨ (24 ≤ c ∧ c ≤ 135)) → ai_hv t' c i = ai_hv t0 c i) ∧ (¬ (1 ≤ x ∧ x ≤ 30) → y = 4294967295 ∧ CS t' (w 0 2) (w 0 4) σ u τ F μ q v) ∧ (1 ≤ x ∧ x ≤ 30 → y = itp w L x σ 0 ∧ CS t' (w 0 2) (w 0 4) (itp w L x σ) (kpu u) (kpt u σ τ) F μ q v) := by
  refine en_u_ex (d := d + 6) rfl ?_
  show en_ex _ _ _ _ (0, [(0, gx_r 0), (1, .inl x)], [], t0, n, 0) _
  refine ex_go (S := (1, [(0, gx_r 0), (1, .inl x)], [.inl x], t0, n, 0)) rfl (fun _ => rfl) rfl ?_
  refine ex_go (S := (2, [(0, gx_r 0), (1, .inl x)], [.inl 1, .inl x], t0, n, 0)) rfl (fun _ => rfl) rfl ?_
  refine ex_go (S := (4, [(0, gx_r 0), (1, .inl x)], [.inl 30, .inl 1, .inl x], t0, n, 0)) rfl (fun _ => rfl) rfl ?_
  obtain ⟨_, r21, b22, rfl, b22b, q23⟩ := pz_isWithin (d + 5) n (t0 := t0) (x := x) (lo := 1) (hi := 30) (by first | decide | omega) (by first | decide | omega) (by first | decide | omega)
  refine ex_stat rfl rfl rfl rfl rfl r21 (Nat.le_refl _) rfl ?_
  show en_ex _ _ _ _ (7, [(0, gx_r 0), (1, .inl x)], [.inl b22], t0, n, 0) _
  by_cases hc24 : b22 ≠ 0
  · refine gx_1t (c := .ne) rfl (by first | decide | omega) hc24 rfl ?_
    refine ex_go (S := (13, [(0, gx_r 0), (1, .inl x)], [gx_r 0], t0, n, 0)) rfl (fun _ => rfl) rfl ?_
    refine ex_go (S := (14, [(0, gx_r 0), (1, .inl x)], [.inl 0, gx_r 0], t0, n, 0)) rfl (fun _ => rfl) rfl ?_
    refine ex_go (S := (15, [(0, gx_r 0), (1, .inl x)], [.inl 4294967295, .inl 0, gx_r 0], t0, n, 0)) rfl (fun _ => rfl) rfl ?_
    refine ex_go (S := (16, [(0, gx_r 0), (1, .inl x)], [.inl x, .inl 4294967295, .inl 0, gx_r 0], t0, n, 0)) rfl (fun _ => rfl) rfl ?_
    obtain ⟨_, r125, t125, rfl, g125, e125, i125⟩ := sc_by0_191 d n (x := x) g0 hC hw hb k10 hS hu (by first | decide | omega) hB
    refine gx_callo (a := 0) rfl rfl g0 rfl rfl rfl r125 rfl ?_
    show en_ex _ _ _ _ (19, [(0, gx_r 0), (1, .inl x)], [.inl (itp w L x σ 0)], t125, n, 0) _
    refine ex_ret (r := (some (.inl (itp w L x σ 0)), t125, n, 0)) rfl (fun _ => rfl) ?_
    exact ⟨_, rfl, _, t125, rfl, g125, e125, (fun z => absurd (by first | decide | omega) z), fun _ => ⟨rfl, i125⟩⟩
  · refine gx_1f (c := .ne) rfl (by first | decide | omega) hc24 rfl ?_
    refine ex_go (S := (11, [(0, gx_r 0), (1, .inl x)], [.inl 4294967295], t0, n, 0)) rfl (fun _ => rfl) rfl ?_
    refine ex_ret (r := (some (.inl 4294967295), t0, n, 0)) rfl (fun _ => rfl) ?_
    exact ⟨_, rfl, _, t0, rfl, g0, (fun _ _ _ => rfl), (fun _ => ⟨rfl, hS⟩), fun z => absurd z (by first | decide | omega)⟩
theorem sc_by0_257 (d n : Nat) {t0 : en_H} {w : Nat → Nat → Nat} {L : List Nat} {σ F v : Nat → Nat} {τ μ : Nat → Nat → Nat} {u q : Nat} {x : Nat} (g0 : ai_HG ah_G t0) (hC : CW t0 257 w L) (hw : WS w) (hb : sbd σ) (k10 : ai_hv t0 0 10 = some (gx_r 257)) (hS : CS t0 (w 0 2) (w 0 4) σ u τ F μ q v) (hu : u ≤ 16) (hx : x ≤ 30) (hB : σ 0 ≤ 900000) : ∃ r, en_u (d + 6) 114 [gx_r 0, .inl 0, .inl 4294967295, .inl x] t0 n = some r ∧ ∃ t', r = (some (.inl (itp w L x σ 0)), t', n, 0) ∧ ai_HG ah_G t' ∧ (∀ c i, ¬ (c = 297 ∨ (8 ≤ c ∧ c ≤ 21) ∨ (c = 22 ∧ 1 ≤ i) ∨ (24 ≤ c ∧ c ≤ 135)) → ai_hv t' c i = ai_hv t0 c i) ∧ CS t' (w 0 2) (w 0 4) (itp w L x σ) (kpu u) (kpt u σ τ) F μ q v := by
  obtain ⟨hS8, hq, ⟨o, ho, ko, ku, hτ⟩, hm⟩ := hS
  have hit := itp_0 (w := w) (L := L) hB (by decide) x hx
  refine en_u_ex (d := d + 5) rfl ?_
  show en_ex _ _ _ _ (0, [(0, gx_r 0), (1, .inl 0), (2, .inl 4294967295), (3, .inl x)], [], t0, n, 0) _
  refine ex_go (S := (1, [(0, gx_r 0), (1, .inl 0), (2, .inl 4294967295), (3, .inl x)], [gx_r 0], t0, n, 0)) rfl (fun _ => rfl) rfl ?_
  refine gxo_ref (a := 0) (c := 15) rfl g0 rfl rfl rfl rfl rfl ?_
  refine ex_go (S := (5, [(0, gx_r 0), (1, .inl 0), (2, .inl 4294967295), (3, .inl x)], [gx_r 0, gx_r 15], t0, n, 0)) rfl (fun _ => rfl) rfl ?_
  refine gxo_ref (a := 0) (c := 8) rfl g0 rfl rfl rfl rfl rfl ?_
  obtain ⟨_, r121, t121, rfl, g121, e121, y121a, y121b, y121c⟩ := sc_take (d + 4) n (A := 15) (B := 8) g0 StA_15 StA_8 (by unfold StD; omega)
  refine gx_callo (a := 15) rfl rfl g0 rfl rfl rfl r121 rfl ?_
  have k22 : ai_hv t121 0 10 = some (gx_r 257) := (e121 0 10 (by first | decide | omega)).trans k10
  show en_ex _ _ _ _ (11, [(0, gx_r 0), (1, .inl 0), (2, .inl 4294967295), (3, .inl x)], [], t121, n, 0) _
  refine ex_go (S := (12, [(0, gx_r 0), (1, .inl 0), (2, .inl 4294967295), (3, .inl x)], [gx_r 0], t121, n, 0)) rfl (fun _ => rfl) rfl ?_
  refine ex_go (S := (13, [(0, gx_r 0), (1, .inl 0), (2, .inl 4294967295), (3, .inl x)], [gx_r 0, gx_r 0], t121, n, 0)) rfl (fun _ => rfl) rfl ?_
  refine gxo_ref (a := 0) (c := 8) rfl g121 rfl rfl rfl rfl rfl ?_
  refine ex_go (S := (17, [(0, gx_r 0), (1, .inl 0), (2, .inl 4294967295), (3, .inl x)], [.inl 0, gx_r 8, gx_r 0], t121, n, 0)) rfl (fun _ => rfl) rfl ?_
  refine ex_go (S := (18, [(0, gx_r 0), (1, .inl 0), (2, .inl 4294967295), (3, .inl x)], [.inl 4294967295, .inl 0, gx_r 8, gx_r 0], t121, n, 0)) rfl (fun _ => rfl) rfl ?_
  refine ex_go (S := (19, [(0, gx_r 0), (1, .inl 0), (2, .inl 4294967295), (3, .inl x)], [.inl x, .inl 4294967295, .inl 0, gx_r 8, gx_r 0], t121, n, 0)) rfl (fun _ => rfl) rfl ?_
  obtain ⟨_, r123, t123, rfl, g123, e123, i123⟩ := sc_act0_8_257 d n (σ := σ) (x := x) (cr := 4294967295) g121 (CW_keep hC (fun c i h => e121 c i (by first | decide | omega))) hw hb ((e121 0 10 (by first | decide | omega)).trans (k10)) hx (SC_keep hS8 (fun c i h1 h2 => e121 c i (by first | decide | omega)))
  refine gx_callo (a := 0) rfl rfl g121 rfl rfl rfl r123 rfl ?_
  have k24 : ai_hv t123 0 10 = some (gx_r 257) := (e123 0 10 (by first | decide | omega)).trans k22
  show en_ex _ _ _ _ (22, [(0, gx_r 0), (1, .inl 0), (2, .inl 4294967295), (3, .inl x)], [.inl (itp w L x σ 0)], t123, n, 0) _
  refine ex_go (S := (24, [(4, .inl (itp w L x σ 0)), (0, gx_r 0), (1, .inl 0), (2, .inl 4294967295), (3, .inl x)], [], t123, n, 0)) rfl (fun _ => rfl) rfl ?_
  refine ex_go (S := (26, [(4, .inl (itp w L x σ 0)), (0, gx_r 0), (1, .inl 0), (2, .inl 4294967295), (3, .inl x)], [.inl (itp w L x σ 0)], t123, n, 0)) rfl (fun _ => rfl) rfl ?_
  refine ex_go (S := (27, [(4, .inl (itp w L x σ 0)), (0, gx_r 0), (1, .inl 0), (2, .inl 4294967295), (3, .inl x)], [.inl 4294967295, .inl (itp w L x σ 0)], t123, n, 0)) rfl (fun _ => rfl) rfl ?_
  refine gx_2mf (c := .eq) rfl (by first | decide | omega) rfl rfl ?_
  refine ex_go (S := (31, [(4, .inl (itp w L x σ 0)), (0, gx_r 0), (1, .inl 0), (2, .inl 4294967295), (3, .inl x)], [gx_r 0], t123, n, 0)) rfl (fun _ => rfl) rfl ?_
  refine gxo_ref (a := 0) (c := 22) rfl g123 rfl rfl rfl rfl rfl ?_
  refine ex_go (S := (35, [(4, .inl (itp w L x σ 0)), (0, gx_r 0), (1, .inl 0), (2, .inl 4294967295), (3, .inl x)], [gx_r 0, gx_r 22], t123, n, 0)) rfl (fun _ => rfl) rfl ?_
  refine gxo_ref (a := 0) (c := 15) rfl g123 rfl rfl rfl rfl rfl ?_
  obtain ⟨_, r125, t125, rfl, g125, e125, o125, ho125, ka125, kb125, kc125⟩ := sc_keep (d + 3) n (u := u) (o := o) (T := w 0 2) (K := w 0 4) (σ := σ) (τ := τ) g123 hu ho hw.1.2.2.1 hw.1.2.2.2.2.1 ((e123 22 2 (by first | decide | omega)).trans ((e121 22 2 (by first | decide | omega)).trans (ku))) ((e123 22 1 (by first | decide | omega)).trans ((e121 22 1 (by first | decide | omega)).trans (ko))) (SC_keep (SC_take hS8 hw.1.2.2.1 hw.1.2.2.2.2.1 y121a y121b y121c) (fun c i h1 h2 => e123 c i (by first | decide | omega))) (fun k hk => SC_keep (hτ k hk) (fun c i h1 h2 => (e123 c i (by first | decide | omega)).trans (e121 c i (by first | decide | omega))))
  refine gx_callo (a := 22) rfl rfl g123 rfl rfl rfl r125 rfl ?_
  have k26 : ai_hv t125 0 10 = some (gx_r 257) := (e125 0 10 (by first | decide | omega)).trans k24
  show en_ex _ _ _ _ (41, [(4, .inl (itp w L x σ 0)), (0, gx_r 0), (1, .inl 0), (2, .inl 4294967295), (3, .inl x)], [], t125, n, 0) _
  refine ex_go (S := (43, [(4, .inl (itp w L x σ 0)), (0, gx_r 0), (1, .inl 0), (2, .inl 4294967295), (3, .inl x)], [.inl (itp w L x σ 0)], t125, n, 0)) rfl (fun _ => rfl) rfl ?_
  refine ex_ret (r := (some (.inl (itp w L x σ 0)), t125, n, 0)) rfl (fun _ => rfl) ?_
  exact ⟨_, rfl, t125, rfl, g125, (fun c i h => (e125 c i (by first | decide | omega)).trans ((e123 c i (by first | decide | omega)).trans (e121 c i (by first | decide | omega)))), ⟨SC_keep i123 (fun c i h1 h2 => e125 c i (by first | decide | omega)), (e125 139 0 (by first | decide | omega)).trans ((e123 139 0 (by first | decide | omega)).trans ((e121 139 0 (by first | decide | omega)).trans (hq))), ⟨o125, ho125, ka125, kb125, kc125⟩, fun m hm9 => ⟨(e125 138 m (by first | decide | omega)).trans ((e123 138 m (by first | decide | omega)).trans ((e121 138 m (by first | decide | omega)).trans ((hm m hm9).1))), fun z => ⟨SC_keep ((hm m hm9).2 z).1 (fun c i h1 h2 => (e125 c i (by first | decide | omega)).trans ((e123 c i (by first | decide | omega)).trans (e121 c i (by first | decide | omega)))), ((e125 _ _ (by first | decide | omega)).trans ((e123 _ _ (by first | decide | omega)).trans (e121 _ _ (by first | decide | omega)))).trans ((hm m hm9).2 z).2⟩⟩⟩⟩
theorem sc_drift257 (d n : Nat) {t0 : en_H} {w : Nat → Nat → Nat} {L : List Nat} {σ F v : Nat → Nat} {τ μ : Nat → Nat → Nat} {u q : Nat} {x : Nat} (g0 : ai_HG ah_G t0) (hC : CW t0 257 w L) (hw : WS w) (hb : sbd σ) (k10 : ai_hv t0 0 10 = some (gx_r 257)) (hS : CS t0 (w 0 2) (w 0 4) σ u τ F μ q v) (hu : u ≤ 16) (hx : x < 4294967296) (hB : σ 0 ≤ 900000) : ∃ r, en_u (d + 7) 42 [gx_r 0, .inl x] t0 n = some r ∧ ∃ y t', r = (some (.inl y), t', n, 0) ∧ ai_HG ah_G t' ∧ (∀ c i, ¬ (c = 297 ∨ (8 ≤ c ∧ c ≤ 21) ∨ (c = 22 ∧ 1 ≤ i) ∨ (24 ≤ c ∧ c ≤ 135)) → ai_hv t' c i = ai_hv t0 c i) ∧ (¬ (1 ≤ x ∧ x ≤ 30) → y = 4294967295 ∧ CS t' (w 0 2) (w 0 4) σ u τ F μ q v) ∧ (1 ≤ x ∧ x ≤ 30 → y = itp w L x σ 0 ∧ CS t' (w 0 2) (w 0 4) (itp w L x σ) (kpu u) (kpt u σ τ) F μ q v) := by
  refine en_u_ex (d := d + 6) rfl ?_
  show en_ex _ _ _ _ (0, [(0, gx_r 0), (1, .inl x)], [], t0, n, 0) _
  refine ex_go (S := (1, [(0, gx_r 0), (1, .inl x)], [.inl x], t0, n, 0)) rfl (fun _ => rfl) rfl ?_
  refine ex_go (S := (2, [(0, gx_r 0), (1, .inl x)], [.inl 1, .inl x], t0, n, 0)) rfl (fun _ => rfl) rfl ?_
  refine ex_go (S := (4, [(0, gx_r 0), (1, .inl x)], [.inl 30, .inl 1, .inl x], t0, n, 0)) rfl (fun _ => rfl) rfl ?_
  obtain ⟨_, r21, b22, rfl, b22b, q23⟩ := pz_isWithin (d + 5) n (t0 := t0) (x := x) (lo := 1) (hi := 30) (by first | decide | omega) (by first | decide | omega) (by first | decide | omega)
  refine ex_stat rfl rfl rfl rfl rfl r21 (Nat.le_refl _) rfl ?_
  show en_ex _ _ _ _ (7, [(0, gx_r 0), (1, .inl x)], [.inl b22], t0, n, 0) _
  by_cases hc24 : b22 ≠ 0
  · refine gx_1t (c := .ne) rfl (by first | decide | omega) hc24 rfl ?_
    refine ex_go (S := (13, [(0, gx_r 0), (1, .inl x)], [gx_r 0], t0, n, 0)) rfl (fun _ => rfl) rfl ?_
    refine ex_go (S := (14, [(0, gx_r 0), (1, .inl x)], [.inl 0, gx_r 0], t0, n, 0)) rfl (fun _ => rfl) rfl ?_
    refine ex_go (S := (15, [(0, gx_r 0), (1, .inl x)], [.inl 4294967295, .inl 0, gx_r 0], t0, n, 0)) rfl (fun _ => rfl) rfl ?_
    refine ex_go (S := (16, [(0, gx_r 0), (1, .inl x)], [.inl x, .inl 4294967295, .inl 0, gx_r 0], t0, n, 0)) rfl (fun _ => rfl) rfl ?_
    obtain ⟨_, r125, t125, rfl, g125, e125, i125⟩ := sc_by0_257 d n (x := x) g0 hC hw hb k10 hS hu (by first | decide | omega) hB
    refine gx_callo (a := 0) rfl rfl g0 rfl rfl rfl r125 rfl ?_
    show en_ex _ _ _ _ (19, [(0, gx_r 0), (1, .inl x)], [.inl (itp w L x σ 0)], t125, n, 0) _
    refine ex_ret (r := (some (.inl (itp w L x σ 0)), t125, n, 0)) rfl (fun _ => rfl) ?_
    exact ⟨_, rfl, _, t125, rfl, g125, e125, (fun z => absurd (by first | decide | omega) z), fun _ => ⟨rfl, i125⟩⟩
  · refine gx_1f (c := .ne) rfl (by first | decide | omega) hc24 rfl ?_
    refine ex_go (S := (11, [(0, gx_r 0), (1, .inl x)], [.inl 4294967295], t0, n, 0)) rfl (fun _ => rfl) rfl ?_
    refine ex_ret (r := (some (.inl 4294967295), t0, n, 0)) rfl (fun _ => rfl) ?_
    exact ⟨_, rfl, _, t0, rfl, g0, (fun _ _ _ => rfl), (fun _ => ⟨rfl, hS⟩), fun z => absurd z (by first | decide | omega)⟩
end SSF
