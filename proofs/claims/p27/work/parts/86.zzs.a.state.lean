section SSA
noncomputable def eat (L : List Nat) (me ti ou : Nat) : Nat := vcl 99 ((vrun me ti ou L []).headD 0)
theorem eat_le {L : List Nat} {me ti ou : Nat} : eat L me ti ou ≤ 99 := vcl_le
theorem eat_of {L : List Nat} {me ti ou v : Nat} (h : vrun me ti ou L [] = [v]) : vcl 99 v = eat L me ti ou := by unfold eat; rw [h]; rfl
/-- what is told, as the reference keeps it -/
noncomputable def RW (t : en_H) (w : Nat → Nat → Nat) (L : List Nat) : Prop := (∀ i, i ≤ 5 → ai_hv t 389 i = some (.inl (w 0 i))) ∧ (w 0 0 ≤ 8 ∧ w 0 1 ≤ 8 ∧ w 0 2 ≤ 6 ∧ w 0 3 ≤ 6 ∧ w 0 4 ≤ 2 ∧ 1 ≤ w 0 5 ∧ w 0 5 ≤ 4) ∧ (∀ p, p < 64 → ai_hv t 389 (12 + p) = some (.inl (w 1 p)) ∧ w 1 p ≤ 4) ∧ (∀ c, c < w 0 4 → ai_hv t 389 (118 + 3 * c) = some (.inl (w 3 c)) ∧ w 3 c < w 0 2 ∧ ai_hv t 389 (119 + 3 * c) = some (.inl (w 2 c)) ∧ w 2 c ≤ 30 ∧ ai_hv t 389 (120 + 3 * c) = some (.inl (w 4 c)) ∧ w 4 c ≤ 9999) ∧ (∀ i, i < w 0 2 → ai_hv t 389 (76 + 3 * i) = some (.inl (w 5 i)) ∧ w 5 i ≤ 3 ∧ ∃ x y, ai_hv t 389 (77 + 3 * i) = some (.inl x) ∧ ai_hv t 389 (78 + 3 * i) = some (.inl y) ∧ x ≤ 7 ∧ y ≤ 7 ∧ w 6 i = x + 8 * y) ∧ (∀ k, k < w 0 3 → ai_hv t 389 (94 + 4 * k) = some (.inl (w 7 k)) ∧ w 7 k ≤ 63 ∧ ai_hv t 389 (95 + 4 * k) = some (.inl (w 8 k)) ∧ (1 ≤ w 8 k ∧ w 8 k ≤ 30) ∧ ai_hv t 389 (96 + 4 * k) = some (.inl (w 9 k)) ∧ w 9 k ≤ 29 ∧ ai_hv t 389 (97 + 4 * k) = some (.inl (w 10 k)) ∧ w 10 k ≤ 30) ∧ RLL t 0 7 L
theorem rco_keepb {t t' : en_H} {fh : Nat} (e : ∀ c i, c = 390 ∨ c = 391 → i < 1000 → ai_hv t' c i = ai_hv t c i) : ∀ {L : List Nat} {i : Nat}, i + L.length < 1000 → rco t fh i L → rco t' fh i L
  | [], i, hi, h => (e _ _ (Or.inl rfl) hi).trans h
  | z :: L, i, hi, h => by
    rw [List.length_cons] at hi
    exact ⟨(e _ _ (Or.inl rfl) (by first | decide | omega)).trans h.1, (e _ _ (Or.inr rfl) (by first | decide | omega)).trans h.2.1, rco_keepb e (by first | decide | omega) h.2.2⟩
theorem RLL_keepb {t t' : en_H} {l fh : Nat} {L : List Nat} (h : RLL t l fh L) (e1 : ai_hv t' 389 (9 + l) = ai_hv t 389 (9 + l)) (e2 : ∀ c i, c = 390 ∨ c = 391 → i < 1000 → ai_hv t' c i = ai_hv t c i) : RLL t' l fh L := by
  rcases h with ⟨h1, h4⟩ | ⟨z, h1, h4, h5, h6⟩
  · exact Or.inl ⟨e1.trans h1, h4⟩
  · exact Or.inr ⟨z, e1.trans h1, h4, rco_keepb e2 (by first | decide | omega) h5, h6⟩
theorem RW_keep {t t' : en_H} {w : Nat → Nat → Nat} {L : List Nat} (h : RW t w L) (e1 : ∀ i, i < 160 → ai_hv t' 389 i = ai_hv t 389 i) (e2 : ∀ c i, c = 390 ∨ c = 391 → i < 1000 → ai_hv t' c i = ai_hv t c i) : RW t' w L := by
  obtain ⟨h1, h2, h3, h4, h5, h6, h7⟩ := h
  refine ⟨fun i hi => (e1 _ (by first | decide | omega)).trans (h1 i hi), h2, fun p hp => ⟨(e1 _ (by first | decide | omega)).trans (h3 p hp).1, (h3 p hp).2⟩, fun c hc => ?_, fun i hi => ?_, fun k hk => ?_, RLL_keepb h7 (e1 _ (by first | decide | omega)) e2⟩
  · obtain ⟨a1, a2, a3, a4, a5, a6⟩ := h4 c hc
    exact ⟨(e1 _ (by first | decide | omega)).trans a1, a2, (e1 _ (by first | decide | omega)).trans a3, a4, (e1 _ (by first | decide | omega)).trans a5, a6⟩
  · obtain ⟨a1, a2, x, y, a3, a4, a5⟩ := h5 i hi
    exact ⟨(e1 _ (by first | decide | omega)).trans a1, a2, x, y, (e1 _ (by first | decide | omega)).trans a3, (e1 _ (by first | decide | omega)).trans a4, a5⟩
  · obtain ⟨a1, a2, a3, a4, a5, a6, a7, a8⟩ := h6 k hk
    exact ⟨(e1 _ (by first | decide | omega)).trans a1, a2, (e1 _ (by first | decide | omega)).trans a3, a4, (e1 _ (by first | decide | omega)).trans a5, a6, (e1 _ (by first | decide | omega)).trans a7, a8⟩
noncomputable def meal (w : Nat → Nat → Nat) (L : List Nat) (σ : Nat → Nat) (c : Nat) : Nat := min (eat L (w 2 c) (σ 0) (σ (11 + c))) (σ (7 + c))
theorem meal_le {w : Nat → Nat → Nat} {L : List Nat} {σ : Nat → Nat} {c : Nat} : meal w L σ c ≤ 99 := Nat.le_trans (Nat.min_le_left _ _) eat_le
theorem meal_bi {w : Nat → Nat → Nat} {L : List Nat} {σ : Nat → Nat} {c : Nat} : meal w L σ c ≤ σ (7 + c) := Nat.min_le_right _ _
/-- where a place's flow goes -/
noncomputable def fto (w : Nat → Nat → Nat) (p : Nat) : Nat := nb (w 0 0) (w 0 1) p (w 1 p)
/-- a step: 0 the step, 1 to 6 the places, 7 and 8 the biscuit, 9 and 10 what is owed, 11 and 12 out, 13 and 14 the sledges, 15 and 16 hauled -/
noncomputable def stp (w : Nat → Nat → Nat) (L : List Nat) (σ : Nat → Nat) (j : Nat) : Nat := if j = 0 then en_wrap (σ 0 + 1) else if j ≤ 6 then (if j - 1 < w 0 2 then fto w (σ j) else σ j) else if j ≤ 8 then (if j - 7 < w 0 4 then σ j - meal w L σ (j - 7) else σ j) else if j ≤ 12 then σ j else if j ≤ 14 then (if j - 13 < w 0 4 then (if σ (j - 2) = 1 then fto w (σ j) else 0) else σ j) else (if j - 15 < w 0 4 then 0 else σ j)
section
variable {w : Nat → Nat → Nat} {L : List Nat} {σ : Nat → Nat}
theorem stp_0 : stp w L σ 0 = en_wrap (σ 0 + 1) := if_pos rfl
theorem stp_pl {i : Nat} (h : i < 6) : stp w L σ (1 + i) = if i < w 0 2 then fto w (σ (1 + i)) else σ (1 + i) := by
  unfold stp
  rw [if_neg (by first | decide | omega), if_pos (by first | decide | omega), show 1 + i - 1 = i by omega]
theorem stp_bi {c : Nat} (h : c < 2) : stp w L σ (7 + c) = if c < w 0 4 then σ (7 + c) - meal w L σ c else σ (7 + c) := by
  unfold stp
  rw [if_neg (by first | decide | omega), if_neg (by first | decide | omega), if_pos (by first | decide | omega), show 7 + c - 7 = c by omega]
theorem stp_mid {j : Nat} (h1 : 9 ≤ j) (h2 : j ≤ 12) : stp w L σ j = σ j := by
  unfold stp
  rw [if_neg (by first | decide | omega), if_neg (by first | decide | omega), if_neg (by first | decide | omega), if_pos (by first | decide | omega)]
theorem stp_sl {c : Nat} (h : c < 2) : stp w L σ (13 + c) = if c < w 0 4 then (if σ (11 + c) = 1 then fto w (σ (13 + c)) else 0) else σ (13 + c) := by
  unfold stp
  rw [if_neg (by first | decide | omega), if_neg (by first | decide | omega), if_neg (by first | decide | omega), if_neg (by first | decide | omega), if_pos (by first | decide | omega), show 13 + c - 13 = c by omega, show 13 + c - 2 = 11 + c by omega]
theorem stp_ha {c : Nat} (h : c < 2) : stp w L σ (15 + c) = if c < w 0 4 then 0 else σ (15 + c) := by
  unfold stp
  rw [if_neg (by first | decide | omega), if_neg (by first | decide | omega), if_neg (by first | decide | omega), if_neg (by first | decide | omega), if_neg (by first | decide | omega), show 15 + c - 15 = c by omega]
end
/-- what holds of all that stands anywhere -/
noncomputable def sbd (σ : Nat → Nat) : Prop := (∀ i, i < 6 → σ (1 + i) ≤ 63) ∧ (σ 7 ≤ 19998 ∧ σ 8 ≤ 19998) ∧ (σ 11 ≤ 1 ∧ σ 12 ≤ 1) ∧ (σ 13 ≤ 63 ∧ σ 14 ≤ 63) ∧ (σ 15 ≤ 1 ∧ σ 16 ≤ 1) ∧ σ 0 < 4294967296 ∧ σ 9 < 4294967296 ∧ σ 10 < 4294967296
noncomputable def eaten (w : Nat → Nat → Nat) (L : List Nat) (σ : Nat → Nat) : Nat := (if 0 < w 0 4 then meal w L σ 0 else 0) + (if 1 < w 0 4 then meal w L σ 1 else 0)
section
variable {oc : Option (List en_V)} {f : en_F} {code : Nat → Option en_I} {stop : Nat → Bool} {P : en_O → Prop}
variable {pc nx : Nat} {ls : en_L} {st : List en_V} {t : en_H} {n sl : Nat}
end
theorem sr_onFrom (d n : Nat) {t0 : en_H} {w : Nat → Nat → Nat} {L : List Nat} {p s : Nat} (g0 : ai_HG ah_G t0) (hR : RW t0 w L) (hp : p < 64) (hs : s ≤ 4) : ∃ r, en_u (d + 2) 168 [gx_r 383, .inl p, .inl s] t0 n = some r ∧ r = (some (.inl (nb (w 0 0) (w 0 1) p s)), t0, n, 0) := by
  have kO := hR.1 0 (by first | decide | omega)
  have kD := hR.1 1 (by first | decide | omega)
  have hO := hR.2.1.1
  have hD := hR.2.1.2.1
  have hz0 := gz_or (k := p / 8)
  have hz1 := gz_or (k := p % 8)
  rcases (show s = 0 ∨ s = 1 ∨ s = 2 ∨ s = 3 ∨ s = 4 by omega) with rfl | rfl | rfl | rfl | rfl
  · refine en_u_ex (d := d + 1) rfl ?_
    show en_ex _ _ _ _ (0, [(0, gx_r 383), (1, .inl p), (2, .inl 0)], [], t0, n, 0) _
    refine ex_go (S := (1, [(0, gx_r 383), (1, .inl p), (2, .inl 0)], [.inl p], t0, n, 0)) rfl (fun _ => rfl) rfl ?_
    refine ex_go (S := (3, [(0, gx_r 383), (1, .inl p), (2, .inl 0)], [.inl 8, .inl p], t0, n, 0)) rfl (fun _ => rfl) rfl ?_
    refine gx_iremn rfl (by first | decide | omega) (by first | decide | omega) (by first | decide | omega) rfl ?_
    refine ex_go (S := (5, [(0, gx_r 383), (1, .inl p), (2, .inl 0)], [.inl 0, .inl (p % 8)], t0, n, 0)) rfl (fun _ => rfl) rfl ?_
    refine ex_go (S := (6, [(0, gx_r 383), (1, .inl p), (2, .inl 0)], [.inl 1, .inl 0, .inl (p % 8)], t0, n, 0)) rfl (fun _ => rfl) rfl ?_
    refine ex_go (S := (13, [(0, gx_r 383), (1, .inl p), (2, .inl 0)], [.inl (p % 8)], t0, n, 0)) rfl (fun _ => rfl) rfl ?_
    refine ex_go (S := (14, [(0, gx_r 383), (1, .inl p), (2, .inl 0)], [.inl 0, .inl (p % 8)], t0, n, 0)) rfl (fun _ => rfl) rfl ?_
    refine ex_go (S := (15, [(0, gx_r 383), (1, .inl p), (2, .inl 0)], [.inl 3, .inl 0, .inl (p % 8)], t0, n, 0)) rfl (fun _ => rfl) rfl ?_
    refine ex_go (S := (22, [(0, gx_r 383), (1, .inl p), (2, .inl 0)], [.inl (p % 8)], t0, n, 0)) rfl (fun _ => rfl) rfl ?_
    refine ex_go (S := (23, [(0, gx_r 383), (1, .inl p), (2, .inl 0)], [.inl 0, .inl (p % 8)], t0, n, 0)) rfl (fun _ => rfl) rfl ?_
    refine ex_iadd rfl (by first | decide | omega) rfl ?_
    refine ex_go (S := (25, [(3, .inl ((p % 8) + 0)), (0, gx_r 383), (1, .inl p), (2, .inl 0)], [], t0, n, 0)) rfl (fun _ => rfl) rfl ?_
    refine ex_go (S := (26, [(3, .inl ((p % 8) + 0)), (0, gx_r 383), (1, .inl p), (2, .inl 0)], [.inl p], t0, n, 0)) rfl (fun _ => rfl) rfl ?_
    refine ex_go (S := (28, [(3, .inl ((p % 8) + 0)), (0, gx_r 383), (1, .inl p), (2, .inl 0)], [.inl 8, .inl p], t0, n, 0)) rfl (fun _ => rfl) rfl ?_
    refine gx_idivn rfl (by first | decide | omega) (by first | decide | omega) (by first | decide | omega) rfl ?_
    refine ex_go (S := (30, [(3, .inl ((p % 8) + 0)), (0, gx_r 383), (1, .inl p), (2, .inl 0)], [.inl 0, .inl (p / 8)], t0, n, 0)) rfl (fun _ => rfl) rfl ?_
    refine ex_go (S := (31, [(3, .inl ((p % 8) + 0)), (0, gx_r 383), (1, .inl p), (2, .inl 0)], [.inl 2, .inl 0, .inl (p / 8)], t0, n, 0)) rfl (fun _ => rfl) rfl ?_
    refine ex_go (S := (38, [(3, .inl ((p % 8) + 0)), (0, gx_r 383), (1, .inl p), (2, .inl 0)], [.inl (p / 8)], t0, n, 0)) rfl (fun _ => rfl) rfl ?_
    refine ex_go (S := (39, [(3, .inl ((p % 8) + 0)), (0, gx_r 383), (1, .inl p), (2, .inl 0)], [.inl 0, .inl (p / 8)], t0, n, 0)) rfl (fun _ => rfl) rfl ?_
    refine ex_go (S := (42, [(3, .inl ((p % 8) + 0)), (0, gx_r 383), (1, .inl p), (2, .inl 0)], [.inl (p / 8)], t0, n, 0)) rfl (fun _ => rfl) rfl ?_
    refine ex_go (S := (43, [(3, .inl ((p % 8) + 0)), (0, gx_r 383), (1, .inl p), (2, .inl 0)], [.inl 4294967295, .inl (p / 8)], t0, n, 0)) rfl (fun _ => rfl) rfl ?_
    refine ex_go (S := (47, [(3, .inl ((p % 8) + 0)), (0, gx_r 383), (1, .inl p), (2, .inl 0)], [.inl 4294967295, .inl (p / 8)], t0, n, 0)) rfl (fun _ => rfl) rfl ?_
    refine gx_iaddm rfl (by first | decide | omega) rfl ?_
    refine ex_go (S := (50, [(4, .inl (gz (p / 8))), (3, .inl ((p % 8) + 0)), (0, gx_r 383), (1, .inl p), (2, .inl 0)], [], t0, n, 0)) rfl (fun _ => rfl) rfl ?_
    refine ex_go (S := (51, [(4, .inl (gz (p / 8))), (3, .inl ((p % 8) + 0)), (0, gx_r 383), (1, .inl p), (2, .inl 0)], [gx_r 383], t0, n, 0)) rfl (fun _ => rfl) rfl ?_
    refine ex_go (S := (52, [(4, .inl (gz (p / 8))), (3, .inl ((p % 8) + 0)), (0, gx_r 383), (1, .inl p), (2, .inl 0)], [.inl ((p % 8) + 0), gx_r 383], t0, n, 0)) rfl (fun _ => rfl) rfl ?_
    refine ex_go (S := (54, [(4, .inl (gz (p / 8))), (3, .inl ((p % 8) + 0)), (0, gx_r 383), (1, .inl p), (2, .inl 0)], [.inl (gz (p / 8)), .inl ((p % 8) + 0), gx_r 383], t0, n, 0)) rfl (fun _ => rfl) rfl ?_
    obtain ⟨_, r121, b121, rfl, hb121, hi121⟩ := pe_isPlace d n (x := (p % 8) + 0) (y := gz (p / 8)) (o := w 0 0) (e := w 0 1) g0 kO kD (by first | decide | omega) (by first | decide | omega) (by first | decide | omega) (by first | decide | omega)
    refine gx_call1 rfl rfl g0 rfl rfl r121 rfl ?_
    show en_ex _ _ _ _ (57, [(4, .inl (gz (p / 8))), (3, .inl ((p % 8) + 0)), (0, gx_r 383), (1, .inl p), (2, .inl 0)], [.inl b121], t0, n, 0) _
    by_cases hc22 : b121 = 0
    · refine gx_1t (c := .eq) rfl (by first | decide | omega) hc22 rfl ?_
      refine ex_go (S := (71, [(4, .inl (gz (p / 8))), (3, .inl ((p % 8) + 0)), (0, gx_r 383), (1, .inl p), (2, .inl 0)], [.inl p], t0, n, 0)) rfl (fun _ => rfl) rfl ?_
      refine ex_ret (r := (some (.inl p), t0, n, 0)) rfl (fun _ => rfl) ?_
      have e9 : nb (w 0 0) (w 0 1) p 0 = p := by rw [nb_0]; split <;> omega
      exact ⟨_, rfl, by rw [e9]⟩
    · refine gx_1f (c := .eq) rfl (by first | decide | omega) hc22 rfl ?_
      refine ex_go (S := (62, [(4, .inl (gz (p / 8))), (3, .inl ((p % 8) + 0)), (0, gx_r 383), (1, .inl p), (2, .inl 0)], [.inl 8], t0, n, 0)) rfl (fun _ => rfl) rfl ?_
      refine ex_go (S := (64, [(4, .inl (gz (p / 8))), (3, .inl ((p % 8) + 0)), (0, gx_r 383), (1, .inl p), (2, .inl 0)], [.inl (gz (p / 8)), .inl 8], t0, n, 0)) rfl (fun _ => rfl) rfl ?_
      refine gx_imul rfl (by first | decide | omega) rfl ?_
      refine ex_go (S := (66, [(4, .inl (gz (p / 8))), (3, .inl ((p % 8) + 0)), (0, gx_r 383), (1, .inl p), (2, .inl 0)], [.inl ((p % 8) + 0), .inl (8 * (gz (p / 8)))], t0, n, 0)) rfl (fun _ => rfl) rfl ?_
      refine ex_iadd rfl (by first | decide | omega) rfl ?_
      refine ex_go (S := (71, [(4, .inl (gz (p / 8))), (3, .inl ((p % 8) + 0)), (0, gx_r 383), (1, .inl p), (2, .inl 0)], [.inl ((8 * (gz (p / 8))) + ((p % 8) + 0))], t0, n, 0)) rfl (fun _ => rfl) rfl ?_
      refine ex_ret (r := (some (.inl ((8 * (gz (p / 8))) + ((p % 8) + 0))), t0, n, 0)) rfl (fun _ => rfl) ?_
      have e9 : nb (w 0 0) (w 0 1) p 0 = (8 * (gz (p / 8))) + ((p % 8) + 0) := by rw [nb_0]; split <;> omega
      exact ⟨_, rfl, by rw [e9]⟩
  · refine en_u_ex (d := d + 1) rfl ?_
    show en_ex _ _ _ _ (0, [(0, gx_r 383), (1, .inl p), (2, .inl 1)], [], t0, n, 0) _
    refine ex_go (S := (1, [(0, gx_r 383), (1, .inl p), (2, .inl 1)], [.inl p], t0, n, 0)) rfl (fun _ => rfl) rfl ?_
    refine ex_go (S := (3, [(0, gx_r 383), (1, .inl p), (2, .inl 1)], [.inl 8, .inl p], t0, n, 0)) rfl (fun _ => rfl) rfl ?_
    refine gx_iremn rfl (by first | decide | omega) (by first | decide | omega) (by first | decide | omega) rfl ?_
    refine ex_go (S := (5, [(0, gx_r 383), (1, .inl p), (2, .inl 1)], [.inl 1, .inl (p % 8)], t0, n, 0)) rfl (fun _ => rfl) rfl ?_
    refine ex_go (S := (6, [(0, gx_r 383), (1, .inl p), (2, .inl 1)], [.inl 1, .inl 1, .inl (p % 8)], t0, n, 0)) rfl (fun _ => rfl) rfl ?_
    refine ex_go (S := (9, [(0, gx_r 383), (1, .inl p), (2, .inl 1)], [.inl (p % 8)], t0, n, 0)) rfl (fun _ => rfl) rfl ?_
    refine ex_go (S := (10, [(0, gx_r 383), (1, .inl p), (2, .inl 1)], [.inl 1, .inl (p % 8)], t0, n, 0)) rfl (fun _ => rfl) rfl ?_
    refine ex_go (S := (23, [(0, gx_r 383), (1, .inl p), (2, .inl 1)], [.inl 1, .inl (p % 8)], t0, n, 0)) rfl (fun _ => rfl) rfl ?_
    refine ex_iadd rfl (by first | decide | omega) rfl ?_
    refine ex_go (S := (25, [(3, .inl ((p % 8) + 1)), (0, gx_r 383), (1, .inl p), (2, .inl 1)], [], t0, n, 0)) rfl (fun _ => rfl) rfl ?_
    refine ex_go (S := (26, [(3, .inl ((p % 8) + 1)), (0, gx_r 383), (1, .inl p), (2, .inl 1)], [.inl p], t0, n, 0)) rfl (fun _ => rfl) rfl ?_
    refine ex_go (S := (28, [(3, .inl ((p % 8) + 1)), (0, gx_r 383), (1, .inl p), (2, .inl 1)], [.inl 8, .inl p], t0, n, 0)) rfl (fun _ => rfl) rfl ?_
    refine gx_idivn rfl (by first | decide | omega) (by first | decide | omega) (by first | decide | omega) rfl ?_
    refine ex_go (S := (30, [(3, .inl ((p % 8) + 1)), (0, gx_r 383), (1, .inl p), (2, .inl 1)], [.inl 1, .inl (p / 8)], t0, n, 0)) rfl (fun _ => rfl) rfl ?_
    refine ex_go (S := (31, [(3, .inl ((p % 8) + 1)), (0, gx_r 383), (1, .inl p), (2, .inl 1)], [.inl 2, .inl 1, .inl (p / 8)], t0, n, 0)) rfl (fun _ => rfl) rfl ?_
    refine ex_go (S := (38, [(3, .inl ((p % 8) + 1)), (0, gx_r 383), (1, .inl p), (2, .inl 1)], [.inl (p / 8)], t0, n, 0)) rfl (fun _ => rfl) rfl ?_
    refine ex_go (S := (39, [(3, .inl ((p % 8) + 1)), (0, gx_r 383), (1, .inl p), (2, .inl 1)], [.inl 1, .inl (p / 8)], t0, n, 0)) rfl (fun _ => rfl) rfl ?_
    refine ex_go (S := (46, [(3, .inl ((p % 8) + 1)), (0, gx_r 383), (1, .inl p), (2, .inl 1)], [.inl (p / 8)], t0, n, 0)) rfl (fun _ => rfl) rfl ?_
    refine ex_go (S := (47, [(3, .inl ((p % 8) + 1)), (0, gx_r 383), (1, .inl p), (2, .inl 1)], [.inl 0, .inl (p / 8)], t0, n, 0)) rfl (fun _ => rfl) rfl ?_
    refine ex_iadd rfl (by first | decide | omega) rfl ?_
    refine ex_go (S := (50, [(4, .inl ((p / 8) + 0)), (3, .inl ((p % 8) + 1)), (0, gx_r 383), (1, .inl p), (2, .inl 1)], [], t0, n, 0)) rfl (fun _ => rfl) rfl ?_
    refine ex_go (S := (51, [(4, .inl ((p / 8) + 0)), (3, .inl ((p % 8) + 1)), (0, gx_r 383), (1, .inl p), (2, .inl 1)], [gx_r 383], t0, n, 0)) rfl (fun _ => rfl) rfl ?_
    refine ex_go (S := (52, [(4, .inl ((p / 8) + 0)), (3, .inl ((p % 8) + 1)), (0, gx_r 383), (1, .inl p), (2, .inl 1)], [.inl ((p % 8) + 1), gx_r 383], t0, n, 0)) rfl (fun _ => rfl) rfl ?_
    refine ex_go (S := (54, [(4, .inl ((p / 8) + 0)), (3, .inl ((p % 8) + 1)), (0, gx_r 383), (1, .inl p), (2, .inl 1)], [.inl ((p / 8) + 0), .inl ((p % 8) + 1), gx_r 383], t0, n, 0)) rfl (fun _ => rfl) rfl ?_
    obtain ⟨_, r121, b121, rfl, hb121, hi121⟩ := pe_isPlace d n (x := (p % 8) + 1) (y := (p / 8) + 0) (o := w 0 0) (e := w 0 1) g0 kO kD (by first | decide | omega) (by first | decide | omega) (by first | decide | omega) (by first | decide | omega)
    refine gx_call1 rfl rfl g0 rfl rfl r121 rfl ?_
    show en_ex _ _ _ _ (57, [(4, .inl ((p / 8) + 0)), (3, .inl ((p % 8) + 1)), (0, gx_r 383), (1, .inl p), (2, .inl 1)], [.inl b121], t0, n, 0) _
    by_cases hc22 : b121 = 0
    · refine gx_1t (c := .eq) rfl (by first | decide | omega) hc22 rfl ?_
      refine ex_go (S := (71, [(4, .inl ((p / 8) + 0)), (3, .inl ((p % 8) + 1)), (0, gx_r 383), (1, .inl p), (2, .inl 1)], [.inl p], t0, n, 0)) rfl (fun _ => rfl) rfl ?_
      refine ex_ret (r := (some (.inl p), t0, n, 0)) rfl (fun _ => rfl) ?_
      have e9 : nb (w 0 0) (w 0 1) p 1 = p := by rw [nb_1]; split <;> omega
      exact ⟨_, rfl, by rw [e9]⟩
    · refine gx_1f (c := .eq) rfl (by first | decide | omega) hc22 rfl ?_
      refine ex_go (S := (62, [(4, .inl ((p / 8) + 0)), (3, .inl ((p % 8) + 1)), (0, gx_r 383), (1, .inl p), (2, .inl 1)], [.inl 8], t0, n, 0)) rfl (fun _ => rfl) rfl ?_
      refine ex_go (S := (64, [(4, .inl ((p / 8) + 0)), (3, .inl ((p % 8) + 1)), (0, gx_r 383), (1, .inl p), (2, .inl 1)], [.inl ((p / 8) + 0), .inl 8], t0, n, 0)) rfl (fun _ => rfl) rfl ?_
      refine gx_imul rfl (by first | decide | omega) rfl ?_
      refine ex_go (S := (66, [(4, .inl ((p / 8) + 0)), (3, .inl ((p % 8) + 1)), (0, gx_r 383), (1, .inl p), (2, .inl 1)], [.inl ((p % 8) + 1), .inl (8 * ((p / 8) + 0))], t0, n, 0)) rfl (fun _ => rfl) rfl ?_
      refine ex_iadd rfl (by first | decide | omega) rfl ?_
      refine ex_go (S := (71, [(4, .inl ((p / 8) + 0)), (3, .inl ((p % 8) + 1)), (0, gx_r 383), (1, .inl p), (2, .inl 1)], [.inl ((8 * ((p / 8) + 0)) + ((p % 8) + 1))], t0, n, 0)) rfl (fun _ => rfl) rfl ?_
      refine ex_ret (r := (some (.inl ((8 * ((p / 8) + 0)) + ((p % 8) + 1))), t0, n, 0)) rfl (fun _ => rfl) ?_
      have e9 : nb (w 0 0) (w 0 1) p 1 = (8 * ((p / 8) + 0)) + ((p % 8) + 1) := by rw [nb_1]; split <;> omega
      exact ⟨_, rfl, by rw [e9]⟩
  · refine en_u_ex (d := d + 1) rfl ?_
    show en_ex _ _ _ _ (0, [(0, gx_r 383), (1, .inl p), (2, .inl 2)], [], t0, n, 0) _
    refine ex_go (S := (1, [(0, gx_r 383), (1, .inl p), (2, .inl 2)], [.inl p], t0, n, 0)) rfl (fun _ => rfl) rfl ?_
    refine ex_go (S := (3, [(0, gx_r 383), (1, .inl p), (2, .inl 2)], [.inl 8, .inl p], t0, n, 0)) rfl (fun _ => rfl) rfl ?_
    refine gx_iremn rfl (by first | decide | omega) (by first | decide | omega) (by first | decide | omega) rfl ?_
    refine ex_go (S := (5, [(0, gx_r 383), (1, .inl p), (2, .inl 2)], [.inl 2, .inl (p % 8)], t0, n, 0)) rfl (fun _ => rfl) rfl ?_
    refine ex_go (S := (6, [(0, gx_r 383), (1, .inl p), (2, .inl 2)], [.inl 1, .inl 2, .inl (p % 8)], t0, n, 0)) rfl (fun _ => rfl) rfl ?_
    refine ex_go (S := (13, [(0, gx_r 383), (1, .inl p), (2, .inl 2)], [.inl (p % 8)], t0, n, 0)) rfl (fun _ => rfl) rfl ?_
    refine ex_go (S := (14, [(0, gx_r 383), (1, .inl p), (2, .inl 2)], [.inl 2, .inl (p % 8)], t0, n, 0)) rfl (fun _ => rfl) rfl ?_
    refine ex_go (S := (15, [(0, gx_r 383), (1, .inl p), (2, .inl 2)], [.inl 3, .inl 2, .inl (p % 8)], t0, n, 0)) rfl (fun _ => rfl) rfl ?_
    refine ex_go (S := (22, [(0, gx_r 383), (1, .inl p), (2, .inl 2)], [.inl (p % 8)], t0, n, 0)) rfl (fun _ => rfl) rfl ?_
    refine ex_go (S := (23, [(0, gx_r 383), (1, .inl p), (2, .inl 2)], [.inl 0, .inl (p % 8)], t0, n, 0)) rfl (fun _ => rfl) rfl ?_
    refine ex_iadd rfl (by first | decide | omega) rfl ?_
    refine ex_go (S := (25, [(3, .inl ((p % 8) + 0)), (0, gx_r 383), (1, .inl p), (2, .inl 2)], [], t0, n, 0)) rfl (fun _ => rfl) rfl ?_
    refine ex_go (S := (26, [(3, .inl ((p % 8) + 0)), (0, gx_r 383), (1, .inl p), (2, .inl 2)], [.inl p], t0, n, 0)) rfl (fun _ => rfl) rfl ?_
    refine ex_go (S := (28, [(3, .inl ((p % 8) + 0)), (0, gx_r 383), (1, .inl p), (2, .inl 2)], [.inl 8, .inl p], t0, n, 0)) rfl (fun _ => rfl) rfl ?_
    refine gx_idivn rfl (by first | decide | omega) (by first | decide | omega) (by first | decide | omega) rfl ?_
    refine ex_go (S := (30, [(3, .inl ((p % 8) + 0)), (0, gx_r 383), (1, .inl p), (2, .inl 2)], [.inl 2, .inl (p / 8)], t0, n, 0)) rfl (fun _ => rfl) rfl ?_
    refine ex_go (S := (31, [(3, .inl ((p % 8) + 0)), (0, gx_r 383), (1, .inl p), (2, .inl 2)], [.inl 2, .inl 2, .inl (p / 8)], t0, n, 0)) rfl (fun _ => rfl) rfl ?_
    refine ex_go (S := (34, [(3, .inl ((p % 8) + 0)), (0, gx_r 383), (1, .inl p), (2, .inl 2)], [.inl (p / 8)], t0, n, 0)) rfl (fun _ => rfl) rfl ?_
    refine ex_go (S := (35, [(3, .inl ((p % 8) + 0)), (0, gx_r 383), (1, .inl p), (2, .inl 2)], [.inl 1, .inl (p / 8)], t0, n, 0)) rfl (fun _ => rfl) rfl ?_
    refine ex_go (S := (47, [(3, .inl ((p % 8) + 0)), (0, gx_r 383), (1, .inl p), (2, .inl 2)], [.inl 1, .inl (p / 8)], t0, n, 0)) rfl (fun _ => rfl) rfl ?_
    refine ex_iadd rfl (by first | decide | omega) rfl ?_
    refine ex_go (S := (50, [(4, .inl ((p / 8) + 1)), (3, .inl ((p % 8) + 0)), (0, gx_r 383), (1, .inl p), (2, .inl 2)], [], t0, n, 0)) rfl (fun _ => rfl) rfl ?_
    refine ex_go (S := (51, [(4, .inl ((p / 8) + 1)), (3, .inl ((p % 8) + 0)), (0, gx_r 383), (1, .inl p), (2, .inl 2)], [gx_r 383], t0, n, 0)) rfl (fun _ => rfl) rfl ?_
    refine ex_go (S := (52, [(4, .inl ((p / 8) + 1)), (3, .inl ((p % 8) + 0)), (0, gx_r 383), (1, .inl p), (2, .inl 2)], [.inl ((p % 8) + 0), gx_r 383], t0, n, 0)) rfl (fun _ => rfl) rfl ?_
    refine ex_go (S := (54, [(4, .inl ((p / 8) + 1)), (3, .inl ((p % 8) + 0)), (0, gx_r 383), (1, .inl p), (2, .inl 2)], [.inl ((p / 8) + 1), .inl ((p % 8) + 0), gx_r 383], t0, n, 0)) rfl (fun _ => rfl) rfl ?_
    obtain ⟨_, r121, b121, rfl, hb121, hi121⟩ := pe_isPlace d n (x := (p % 8) + 0) (y := (p / 8) + 1) (o := w 0 0) (e := w 0 1) g0 kO kD (by first | decide | omega) (by first | decide | omega) (by first | decide | omega) (by first | decide | omega)
    refine gx_call1 rfl rfl g0 rfl rfl r121 rfl ?_
    show en_ex _ _ _ _ (57, [(4, .inl ((p / 8) + 1)), (3, .inl ((p % 8) + 0)), (0, gx_r 383), (1, .inl p), (2, .inl 2)], [.inl b121], t0, n, 0) _
    by_cases hc22 : b121 = 0
    · refine gx_1t (c := .eq) rfl (by first | decide | omega) hc22 rfl ?_
      refine ex_go (S := (71, [(4, .inl ((p / 8) + 1)), (3, .inl ((p % 8) + 0)), (0, gx_r 383), (1, .inl p), (2, .inl 2)], [.inl p], t0, n, 0)) rfl (fun _ => rfl) rfl ?_
      refine ex_ret (r := (some (.inl p), t0, n, 0)) rfl (fun _ => rfl) ?_
      have e9 : nb (w 0 0) (w 0 1) p 2 = p := by rw [nb_2]; split <;> omega
      exact ⟨_, rfl, by rw [e9]⟩
    · refine gx_1f (c := .eq) rfl (by first | decide | omega) hc22 rfl ?_
      refine ex_go (S := (62, [(4, .inl ((p / 8) + 1)), (3, .inl ((p % 8) + 0)), (0, gx_r 383), (1, .inl p), (2, .inl 2)], [.inl 8], t0, n, 0)) rfl (fun _ => rfl) rfl ?_
      refine ex_go (S := (64, [(4, .inl ((p / 8) + 1)), (3, .inl ((p % 8) + 0)), (0, gx_r 383), (1, .inl p), (2, .inl 2)], [.inl ((p / 8) + 1), .inl 8], t0, n, 0)) rfl (fun _ => rfl) rfl ?_
      refine gx_imul rfl (by first | decide | omega) rfl ?_
      refine ex_go (S := (66, [(4, .inl ((p / 8) + 1)), (3, .inl ((p % 8) + 0)), (0, gx_r 383), (1, .inl p), (2, .inl 2)], [.inl ((p % 8) + 0), .inl (8 * ((p / 8) + 1))], t0, n, 0)) rfl (fun _ => rfl) rfl ?_
      refine ex_iadd rfl (by first | decide | omega) rfl ?_
      refine ex_go (S := (71, [(4, .inl ((p / 8) + 1)), (3, .inl ((p % 8) + 0)), (0, gx_r 383), (1, .inl p), (2, .inl 2)], [.inl ((8 * ((p / 8) + 1)) + ((p % 8) + 0))], t0, n, 0)) rfl (fun _ => rfl) rfl ?_
      refine ex_ret (r := (some (.inl ((8 * ((p / 8) + 1)) + ((p % 8) + 0))), t0, n, 0)) rfl (fun _ => rfl) ?_
      have e9 : nb (w 0 0) (w 0 1) p 2 = (8 * ((p / 8) + 1)) + ((p % 8) + 0) := by rw [nb_2]; split <;> omega
      exact ⟨_, rfl, by rw [e9]⟩
  · refine en_u_ex (d := d + 1) rfl ?_
    show en_ex _ _ _ _ (0, [(0, gx_r 383), (1, .inl p), (2, .inl 3)], [], t0, n, 0) _
    refine ex_go (S := (1, [(0, gx_r 383), (1, .inl p), (2, .inl 3)], [.inl p], t0, n, 0)) rfl (fun _ => rfl) rfl ?_
    refine ex_go (S := (3, [(0, gx_r 383), (1, .inl p), (2, .inl 3)], [.inl 8, .inl p], t0, n, 0)) rfl (fun _ => rfl) rfl ?_
    refine gx_iremn rfl (by first | decide | omega) (by first | decide | omega) (by first | decide | omega) rfl ?_
    refine ex_go (S := (5, [(0, gx_r 383), (1, .inl p), (2, .inl 3)], [.inl 3, .inl (p % 8)], t0, n, 0)) rfl (fun _ => rfl) rfl ?_
    refine ex_go (S := (6, [(0, gx_r 383), (1, .inl p), (2, .inl 3)], [.inl 1, .inl 3, .inl (p % 8)], t0, n, 0)) rfl (fun _ => rfl) rfl ?_
    refine ex_go (S := (13, [(0, gx_r 383), (1, .inl p), (2, .inl 3)], [.inl (p % 8)], t0, n, 0)) rfl (fun _ => rfl) rfl ?_
    refine ex_go (S := (14, [(0, gx_r 383), (1, .inl p), (2, .inl 3)], [.inl 3, .inl (p % 8)], t0, n, 0)) rfl (fun _ => rfl) rfl ?_
    refine ex_go (S := (15, [(0, gx_r 383), (1, .inl p), (2, .inl 3)], [.inl 3, .inl 3, .inl (p % 8)], t0, n, 0)) rfl (fun _ => rfl) rfl ?_
    refine ex_go (S := (18, [(0, gx_r 383), (1, .inl p), (2, .inl 3)], [.inl (p % 8)], t0, n, 0)) rfl (fun _ => rfl) rfl ?_
    refine ex_go (S := (19, [(0, gx_r 383), (1, .inl p), (2, .inl 3)], [.inl 4294967295, .inl (p % 8)], t0, n, 0)) rfl (fun _ => rfl) rfl ?_
    refine ex_go (S := (23, [(0, gx_r 383), (1, .inl p), (2, .inl 3)], [.inl 4294967295, .inl (p % 8)], t0, n, 0)) rfl (fun _ => rfl) rfl ?_
    refine gx_iaddm rfl (by first | decide | omega) rfl ?_
    refine ex_go (S := (25, [(3, .inl (gz (p % 8))), (0, gx_r 383), (1, .inl p), (2, .inl 3)], [], t0, n, 0)) rfl (fun _ => rfl) rfl ?_
    refine ex_go (S := (26, [(3, .inl (gz (p % 8))), (0, gx_r 383), (1, .inl p), (2, .inl 3)], [.inl p], t0, n, 0)) rfl (fun _ => rfl) rfl ?_
    refine ex_go (S := (28, [(3, .inl (gz (p % 8))), (0, gx_r 383), (1, .inl p), (2, .inl 3)], [.inl 8, .inl p], t0, n, 0)) rfl (fun _ => rfl) rfl ?_
    refine gx_idivn rfl (by first | decide | omega) (by first | decide | omega) (by first | decide | omega) rfl ?_
    refine ex_go (S := (30, [(3, .inl (gz (p % 8))), (0, gx_r 383), (1, .inl p), (2, .inl 3)], [.inl 3, .inl (p / 8)], t0, n, 0)) rfl (fun _ => rfl) rfl ?_
    refine ex_go (S := (31, [(3, .inl (gz (p % 8))), (0, gx_r 383), (1, .inl p), (2, .inl 3)], [.inl 2, .inl 3, .inl (p / 8)], t0, n, 0)) rfl (fun _ => rfl) rfl ?_
    refine ex_go (S := (38, [(3, .inl (gz (p % 8))), (0, gx_r 383), (1, .inl p), (2, .inl 3)], [.inl (p / 8)], t0, n, 0)) rfl (fun _ => rfl) rfl ?_
    refine ex_go (S := (39, [(3, .inl (gz (p % 8))), (0, gx_r 383), (1, .inl p), (2, .inl 3)], [.inl 3, .inl (p / 8)], t0, n, 0)) rfl (fun _ => rfl) rfl ?_
    refine ex_go (S := (46, [(3, .inl (gz (p % 8))), (0, gx_r 383), (1, .inl p), (2, .inl 3)], [.inl (p / 8)], t0, n, 0)) rfl (fun _ => rfl) rfl ?_
    refine ex_go (S := (47, [(3, .inl (gz (p % 8))), (0, gx_r 383), (1, .inl p), (2, .inl 3)], [.inl 0, .inl (p / 8)], t0, n, 0)) rfl (fun _ => rfl) rfl ?_
    refine ex_iadd rfl (by first | decide | omega) rfl ?_
    refine ex_go (S := (50, [(4, .inl ((p / 8) + 0)), (3, .inl (gz (p % 8))), (0, gx_r 383), (1, .inl p), (2, .inl 3)], [], t0, n, 0)) rfl (fun _ => rfl) rfl ?_
    refine ex_go (S := (51, [(4, .inl ((p / 8) + 0)), (3, .inl (gz (p % 8))), (0, gx_r 383), (1, .inl p), (2, .inl 3)], [gx_r 383], t0, n, 0)) rfl (fun _ => rfl) rfl ?_
    refine ex_go (S := (52, [(4, .inl ((p / 8) + 0)), (3, .inl (gz (p % 8))), (0, gx_r 383), (1, .inl p), (2, .inl 3)], [.inl (gz (p % 8)), gx_r 383], t0, n, 0)) rfl (fun _ => rfl) rfl ?_
    refine ex_go (S := (54, [(4, .inl ((p / 8) + 0)), (3, .inl (gz (p % 8))), (0, gx_r 383), (1, .inl p), (2, .inl 3)], [.inl ((p / 8) + 0), .inl (gz (p % 8)), gx_r 383], t0, n, 0)) rfl (fun _ => rfl) rfl ?_
    obtain ⟨_, r121, b121, rfl, hb121, hi121⟩ := pe_isPlace d n (x := gz (p % 8)) (y := (p / 8) + 0) (o := w 0 0) (e := w 0 1) g0 kO kD (by first | decide | omega) (by first | decide | omega) (by first | decide | omega) (by first | decide | omega)
    refine gx_call1 rfl rfl g0 rfl rfl r121 rfl ?_
    show en_ex _ _ _ _ (57, [(4, .inl ((p / 8) + 0)), (3, .inl (gz (p % 8))), (0, gx_r 383), (1, .inl p), (2, .inl 3)], [.inl b121], t0, n, 0) _
    by_cases hc22 : b121 = 0
    · refine gx_1t (c := .eq) rfl (by first | decide | omega) hc22 rfl ?_
      refine ex_go (S := (71, [(4, .inl ((p / 8) + 0)), (3, .inl (gz (p % 8))), (0, gx_r 383), (1, .inl p), (2, .inl 3)], [.inl p], t0, n, 0)) rfl (fun _ => rfl) rfl ?_
      refine ex_ret (r := (some (.inl p), t0, n, 0)) rfl (fun _ => rfl) ?_
      have e9 : nb (w 0 0) (w 0 1) p 3 = p := by rw [nb_3]; split <;> omega
      exact ⟨_, rfl, by rw [e9]⟩
    · refine gx_1f (c := .eq) rfl (by first | decide | omega) hc22 rfl ?_
      refine ex_go (S := (62, [(4, .inl ((p / 8) + 0)), (3, .inl (gz (p % 8))), (0, gx_r 383), (1, .inl p), (2, .inl 3)], [.inl 8], t0, n, 0)) rfl (fun _ => rfl) rfl ?_
      refine ex_go (S := (64, [(4, .inl ((p / 8) + 0)), (3, .inl (gz (p % 8))), (0, gx_r 383), (1, .inl p), (2, .inl 3)], [.inl ((p / 8) + 0), .inl 8], t0, n, 0)) rfl (fun _ => rfl) rfl ?_
      refine gx_imul rfl (by first | decide | omega) rfl ?_
      refine ex_go (S := (66, [(4, .inl ((p / 8) + 0)), (3, .inl (gz (p % 8))), (0, gx_r 383), (1, .inl p), (2, .inl 3)], [.inl (gz (p % 8)), .inl (8 * ((p / 8) + 0))], t0, n, 0)) rfl (fun _ => rfl) rfl ?_
      refine ex_iadd rfl (by first | decide | omega) rfl ?_
      refine ex_go (S := (71, [(4, .inl ((p / 8) + 0)), (3, .inl (gz (p % 8))), (0, gx_r 383), (1, .inl p), (2, .inl 3)], [.inl ((8 * ((p / 8) + 0)) + (gz (p % 8)))], t0, n, 0)) rfl (fun _ => rfl) rfl ?_
      refine ex_ret (r := (some (.inl ((8 * ((p / 8) + 0)) + (gz (p % 8)))), t0, n, 0)) rfl (fun _ => rfl) ?_
      have e9 : nb (w 0 0) (w 0 1) p 3 = (8 * ((p / 8) + 0)) + (gz (p % 8)) := by rw [nb_3]; split <;> omega
      exact ⟨_, rfl, by rw [e9]⟩
  · refine en_u_ex (d := d + 1) rfl ?_
    show en_ex _ _ _ _ (0, [(0, gx_r 383), (1, .inl p), (2, .inl 4)], [], t0, n, 0) _
    refine ex_go (S := (1, [(0, gx_r 383), (1, .inl p), (2, .inl 4)], [.inl p], t0, n, 0)) rfl (fun _ => rfl) rfl ?_
    refine ex_go (S := (3, [(0, gx_r 383), (1, .inl p), (2, .inl 4)], [.inl 8, .inl p], t0, n, 0)) rfl (fun _ => rfl) rfl ?_
    refine gx_iremn rfl (by first | decide | omega) (by first | decide | omega) (by first | decide | omega) rfl ?_
    refine ex_go (S := (5, [(0, gx_r 383), (1, .inl p), (2, .inl 4)], [.inl 4, .inl (p % 8)], t0, n, 0)) rfl (fun _ => rfl) rfl ?_
    refine ex_go (S := (6, [(0, gx_r 383), (1, .inl p), (2, .inl 4)], [.inl 1, .inl 4, .inl (p % 8)], t0, n, 0)) rfl (fun _ => rfl) rfl ?_
    refine ex_go (S := (13, [(0, gx_r 383), (1, .inl p), (2, .inl 4)], [.inl (p % 8)], t0, n, 0)) rfl (fun _ => rfl) rfl ?_
    refine ex_go (S := (14, [(0, gx_r 383), (1, .inl p), (2, .inl 4)], [.inl 4, .inl (p % 8)], t0, n, 0)) rfl (fun _ => rfl) rfl ?_
    refine ex_go (S := (15, [(0, gx_r 383), (1, .inl p), (2, .inl 4)], [.inl 3, .inl 4, .inl (p % 8)], t0, n, 0)) rfl (fun _ => rfl) rfl ?_
    refine ex_go (S := (22, [(0, gx_r 383), (1, .inl p), (2, .inl 4)], [.inl (p % 8)], t0, n, 0)) rfl (fun _ => rfl) rfl ?_
    refine ex_go (S := (23, [(0, gx_r 383), (1, .inl p), (2, .inl 4)], [.inl 0, .inl (p % 8)], t0, n, 0)) rfl (fun _ => rfl) rfl ?_
    refine ex_iadd rfl (by first | decide | omega) rfl ?_
    refine ex_go (S := (25, [(3, .inl ((p % 8) + 0)), (0, gx_r 383), (1, .inl p), (2, .inl 4)], [], t0, n, 0)) rfl (fun _ => rfl) rfl ?_
    refine ex_go (S := (26, [(3, .inl ((p % 8) + 0)), (0, gx_r 383), (1, .inl p), (2, .inl 4)], [.inl p], t0, n, 0)) rfl (fun _ => rfl) rfl ?_
    refine ex_go (S := (28, [(3, .inl ((p % 8) + 0)), (0, gx_r 383), (1, .inl p), (2, .inl 4)], [.inl 8, .inl p], t0, n, 0)) rfl (fun _ => rfl) rfl ?_
    refine gx_idivn rfl (by first | decide | omega) (by first | decide | omega) (by first | decide | omega) rfl ?_
    refine ex_go (S := (30, [(3, .inl ((p % 8) + 0)), (0, gx_r 383), (1, .inl p), (2, .inl 4)], [.inl 4, .inl (p / 8)], t0, n, 0)) rfl (fun _ => rfl) rfl ?_
    refine ex_go (S := (31, [(3, .inl ((p % 8) + 0)), (0, gx_r 383), (1, .inl p), (2, .inl 4)], [.inl 2, .inl 4, .inl (p / 8)], t0, n, 0)) rfl (fun _ => rfl) rfl ?_
    refine ex_go (S := (38, [(3, .inl ((p % 8) + 0)), (0, gx_r 383), (1, .inl p), (2, .inl 4)], [.inl (p / 8)], t0, n, 0)) rfl (fun _ => rfl) rfl ?_
    refine ex_go (S := (39, [(3, .inl ((p % 8) + 0)), (0, gx_r 383), (1, .inl p), (2, .inl 4)], [.inl 4, .inl (p / 8)], t0, n, 0)) rfl (fun _ => rfl) rfl ?_
    refine ex_go (S := (46, [(3, .inl ((p % 8) + 0)), (0, gx_r 383), (1, .inl p), (2, .inl 4)], [.inl (p / 8)], t0, n, 0)) rfl (fun _ => rfl) rfl ?_
    refine ex_go (S := (47, [(3, .inl ((p % 8) + 0)), (0, gx_r 383), (1, .inl p), (2, .inl 4)], [.inl 0, .inl (p / 8)], t0, n, 0)) rfl (fun _ => rfl) rfl ?_
    refine ex_iadd rfl (by first | decide | omega) rfl ?_
    refine ex_go (S := (50, [(4, .inl ((p / 8) + 0)), (3, .inl ((p % 8) + 0)), (0, gx_r 383), (1, .inl p), (2, .inl 4)], [], t0, n, 0)) rfl (fun _ => rfl) rfl ?_
    refine ex_go (S := (51, [(4, .inl ((p / 8) + 0)), (3, .inl ((p % 8) + 0)), (0, gx_r 383), (1, .inl p), (2, .inl 4)], [gx_r 383], t0, n, 0)) rfl (fun _ => rfl) rfl ?_
    refine ex_go (S := (52, [(4, .inl ((p / 8) + 0)), (3, .inl ((p % 8) + 0)), (0, gx_r 383), (1, .inl p), (2, .inl 4)], [.inl ((p % 8) + 0), gx_r 383], t0, n, 0)) rfl (fun _ => rfl) rfl ?_
    refine ex_go (S := (54, [(4, .inl ((p / 8) + 0)), (3, .inl ((p % 8) + 0)), (0, gx_r 383), (1, .inl p), (2, .inl 4)], [.inl ((p / 8) + 0), .inl ((p % 8) + 0), gx_r 383], t0, n, 0)) rfl (fun _ => rfl) rfl ?_
    obtain ⟨_, r121, b121, rfl, hb121, hi121⟩ := pe_isPlace d n (x := (p % 8) + 0) (y := (p / 8) + 0) (o := w 0 0) (e := w 0 1) g0 kO kD (by first | decide | omega) (by first | decide | omega) (by first | decide | omega) (by first | decide | omega)
    refine gx_call1 rfl rfl g0 rfl rfl r121 rfl ?_
    show en_ex _ _ _ _ (57, [(4, .inl ((p / 8) + 0)), (3, .inl ((p % 8) + 0)), (0, gx_r 383), (1, .inl p), (2, .inl 4)], [.inl b121], t0, n, 0) _
    by_cases hc22 : b121 = 0
    · refine gx_1t (c := .eq) rfl (by first | decide | omega) hc22 rfl ?_
      refine ex_go (S := (71, [(4, .inl ((p / 8) + 0)), (3, .inl ((p % 8) + 0)), (0, gx_r 383), (1, .inl p), (2, .inl 4)], [.inl p], t0, n, 0)) rfl (fun _ => rfl) rfl ?_
      refine ex_ret (r := (some (.inl p), t0, n, 0)) rfl (fun _ => rfl) ?_
      have e9 : nb (w 0 0) (w 0 1) p 4 = p := by rw [nb_4]
      exact ⟨_, rfl, by rw [e9]⟩
    · refine gx_1f (c := .eq) rfl (by first | decide | omega) hc22 rfl ?_
      refine ex_go (S := (62, [(4, .inl ((p / 8) + 0)), (3, .inl ((p % 8) + 0)), (0, gx_r 383), (1, .inl p), (2, .inl 4)], [.inl 8], t0, n, 0)) rfl (fun _ => rfl) rfl ?_
      refine ex_go (S := (64, [(4, .inl ((p / 8) + 0)), (3, .inl ((p % 8) + 0)), (0, gx_r 383), (1, .inl p), (2, .inl 4)], [.inl ((p / 8) + 0), .inl 8], t0, n, 0)) rfl (fun _ => rfl) rfl ?_
      refine gx_imul rfl (by first | decide | omega) rfl ?_
      refine ex_go (S := (66, [(4, .inl ((p / 8) + 0)), (3, .inl ((p % 8) + 0)), (0, gx_r 383), (1, .inl p), (2, .inl 4)], [.inl ((p % 8) + 0), .inl (8 * ((p / 8) + 0))], t0, n, 0)) rfl (fun _ => rfl) rfl ?_
      refine ex_iadd rfl (by first | decide | omega) rfl ?_
      refine ex_go (S := (71, [(4, .inl ((p / 8) + 0)), (3, .inl ((p % 8) + 0)), (0, gx_r 383), (1, .inl p), (2, .inl 4)], [.inl ((8 * ((p / 8) + 0)) + ((p % 8) + 0))], t0, n, 0)) rfl (fun _ => rfl) rfl ?_
      refine ex_ret (r := (some (.inl ((8 * ((p / 8) + 0)) + ((p % 8) + 0))), t0, n, 0)) rfl (fun _ => rfl) ?_
      have e9 : nb (w 0 0) (w 0 1) p 4 = (8 * ((p / 8) + 0)) + ((p % 8) + 0) := by rw [nb_4]; omega
      exact ⟨_, rfl, by rw [e9]⟩
theorem sr_flowsTo (d n : Nat) {t0 : en_H} {w : Nat → Nat → Nat} {L : List Nat} {p : Nat} (g0 : ai_HG ah_G t0) (hR : RW t0 w L) (hp : p < 64) : ∃ r, en_u (d + 3) 131 [gx_r 383, .inl p] t0 n = some r ∧ r = (some (.inl (fto w p)), t0, n, 0) := by
  obtain ⟨kf, hf⟩ := hR.2.2.1 p hp
  refine en_u_ex (d := d + 2) rfl ?_
  show en_ex _ _ _ _ (0, [(0, gx_r 383), (1, .inl p)], [], t0, n, 0) _
  refine ex_go (S := (1, [(0, gx_r 383), (1, .inl p)], [gx_r 383], t0, n, 0)) rfl (fun _ => rfl) rfl ?_
  refine ex_go (S := (2, [(0, gx_r 383), (1, .inl p)], [.inl p, gx_r 383], t0, n, 0)) rfl (fun _ => rfl) rfl ?_
  refine ex_go (S := (3, [(0, gx_r 383), (1, .inl p)], [gx_r 383, .inl p, gx_r 383], t0, n, 0)) rfl (fun _ => rfl) rfl ?_
  refine gx_ref (c := 389) rfl g0 rfl rfl rfl rfl ?_
  refine ex_go (S := (8, [(0, gx_r 383), (1, .inl p)], [.inl 12, gx_r 389, .inl p, gx_r 383], t0, n, 0)) rfl (fun _ => rfl) rfl ?_
  refine ex_go (S := (9, [(0, gx_r 383), (1, .inl p)], [.inl p, .inl 12, gx_r 389, .inl p, gx_r 383], t0, n, 0)) rfl (fun _ => rfl) rfl ?_
  refine ex_iadd rfl (by first | decide | omega) rfl ?_
  refine gx_ag (v := .inl (w 1 p)) (cb := fun c => Nat.beq c 0) rfl (fun _ => rfl) g0 rfl rfl kf (by first | decide | omega) rfl ?_
  obtain ⟨_, r21, rfl⟩ := sr_onFrom d n (p := p) (s := w 1 p) g0 hR (by first | decide | omega) (by first | decide | omega)
  refine gx_call1 rfl rfl g0 rfl rfl r21 rfl ?_
  show en_ex _ _ _ _ (14, [(0, gx_r 383), (1, .inl p)], [.inl (nb (w 0 0) (w 0 1) p (w 1 p))], t0, n, 0) _
  refine ex_ret (r := (some (.inl (nb (w 0 0) (w 0 1) p (w 1 p))), t0, n, 0)) rfl (fun _ => rfl) ?_
  exact ⟨_, rfl, rfl⟩
theorem sr_eats (d n : Nat) {t0 : en_H} {w : Nat → Nat → Nat} {L : List Nat} {c ti ou : Nat} (g0 : ai_HG ah_G t0) (hR : RW t0 w L) (hc : c < w 0 4) (ht : ti < 4294967296) (ho : ou < 4294967296) : ∃ r, en_u (d + 4) 142 [gx_r 383, .inl c, .inl ti, .inl ou] t0 n = some r ∧ ∃ t', r = (some (.inl (eat L (w 2 c) ti ou)), t', n, 0) ∧ ai_HG ah_G t' ∧ (∀ c i, ¬ ((c = 397 ∧ i < 3) ∨ c = 398) → ai_hv t' c i = ai_hv t0 c i) := by
  obtain ⟨-, -, km, hm, -⟩ := hR.2.2.2.1 c hc
  have hK := hR.2.1.2.2.2.2.1
  have hL := hR.2.2.2.2.2.2
  have km' : ai_hv t0 389 (118 + 3 * c + 1) = some (.inl (w 2 c)) := by rw [show 118 + 3 * c + 1 = 119 + 3 * c by omega]; exact km
  refine en_u_ex (d := d + 3) rfl ?_
  show en_ex _ _ _ _ (0, [(0, gx_r 383), (1, .inl c), (2, .inl ti), (3, .inl ou)], [], t0, n, 0) _
  refine ex_go (S := (1, [(0, gx_r 383), (1, .inl c), (2, .inl ti), (3, .inl ou)], [gx_r 383], t0, n, 0)) rfl (fun _ => rfl) rfl ?_
  refine gx_ref (c := 397) rfl g0 rfl rfl rfl rfl ?_
  refine ex_go (S := (5, [(0, gx_r 383), (1, .inl c), (2, .inl ti), (3, .inl ou)], [.inl 0, gx_r 397], t0, n, 0)) rfl (fun _ => rfl) rfl ?_
  refine ex_go (S := (6, [(0, gx_r 383), (1, .inl c), (2, .inl ti), (3, .inl ou)], [gx_r 383, .inl 0, gx_r 397], t0, n, 0)) rfl (fun _ => rfl) rfl ?_
  refine ex_go (S := (7, [(0, gx_r 383), (1, .inl c), (2, .inl ti), (3, .inl ou)], [.inl c, gx_r 383, .inl 0, gx_r 397], t0, n, 0)) rfl (fun _ => rfl) rfl ?_
  refine ex_go (S := (8, [(0, gx_r 383), (1, .inl c), (2, .inl ti), (3, .inl ou)], [.inl 1, .inl c, gx_r 383, .inl 0, gx_r 397], t0, n, 0)) rfl (fun _ => rfl) rfl ?_
  obtain ⟨_, r21, rfl⟩ := pe_crewOf (d + 2) n (c := c) (w := 1) g0 (by first | decide | omega) (by first | decide | omega) (km')
  refine gx_call1 rfl rfl g0 rfl rfl r21 rfl ?_
  show en_ex _ _ _ _ (11, [(0, gx_r 383), (1, .inl c), (2, .inl ti), (3, .inl ou)], [.inl (w 2 c), .inl 0, gx_r 397], t0, n, 0) _
  refine gx_ap rfl (fun _ => rfl) g0 rfl rfl rfl (show 0 < 4 from by omega) rfl (gx_full (by first | decide | omega)) rfl (fun t122 g122 k122 e122 => ?_)
  refine ex_go (S := (13, [(0, gx_r 383), (1, .inl c), (2, .inl ti), (3, .inl ou)], [gx_r 383], t122, n, 0)) rfl (fun _ => rfl) rfl ?_
  refine gx_ref (c := 397) rfl g122 rfl rfl rfl rfl ?_
  refine ex_go (S := (17, [(0, gx_r 383), (1, .inl c), (2, .inl ti), (3, .inl ou)], [.inl 1, gx_r 397], t122, n, 0)) rfl (fun _ => rfl) rfl ?_
  refine ex_go (S := (18, [(0, gx_r 383), (1, .inl c), (2, .inl ti), (3, .inl ou)], [.inl ti, .inl 1, gx_r 397], t122, n, 0)) rfl (fun _ => rfl) rfl ?_
  refine gx_ap rfl (fun _ => rfl) g122 rfl rfl rfl (show 1 < 4 from by omega) rfl (gx_full (by first | decide | omega)) rfl (fun t123 g123 k123 e123 => ?_)
  have k24 : ai_hv t123 397 0 = some (.inl (w 2 c)) := (e123 397 0 (by first | decide | omega)).trans k122
  refine ex_go (S := (20, [(0, gx_r 383), (1, .inl c), (2, .inl ti), (3, .inl ou)], [gx_r 383], t123, n, 0)) rfl (fun _ => rfl) rfl ?_
  refine gx_ref (c := 397) rfl g123 rfl rfl rfl rfl ?_
  refine ex_go (S := (24, [(0, gx_r 383), (1, .inl c), (2, .inl ti), (3, .inl ou)], [.inl 2, gx_r 397], t123, n, 0)) rfl (fun _ => rfl) rfl ?_
  refine ex_go (S := (25, [(0, gx_r 383), (1, .inl c), (2, .inl ti), (3, .inl ou)], [.inl ou, .inl 2, gx_r 397], t123, n, 0)) rfl (fun _ => rfl) rfl ?_
  refine gx_ap rfl (fun _ => rfl) g123 rfl rfl rfl (show 2 < 4 from by omega) rfl (gx_full (by first | decide | omega)) rfl (fun t125 g125 k125 e125 => ?_)
  have k26 : ai_hv t125 397 0 = some (.inl (w 2 c)) := (e125 397 0 (by first | decide | omega)).trans k24
  have k27 : ai_hv t125 397 1 = some (.inl ti) := (e125 397 1 (by first | decide | omega)).trans k123
  refine ex_go (S := (27, [(0, gx_r 383), (1, .inl c), (2, .inl ti), (3, .inl ou)], [gx_r 383], t125, n, 0)) rfl (fun _ => rfl) rfl ?_
  refine ex_go (S := (28, [(0, gx_r 383), (1, .inl c), (2, .inl ti), (3, .inl ou)], [.inl 0, gx_r 383], t125, n, 0)) rfl (fun _ => rfl) rfl ?_
  refine ex_go (S := (30, [(0, gx_r 383), (1, .inl c), (2, .inl ti), (3, .inl ou)], [.inl 99, .inl 0, gx_r 383], t125, n, 0)) rfl (fun _ => rfl) rfl ?_
  refine ex_go (S := (31, [(0, gx_r 383), (1, .inl c), (2, .inl ti), (3, .inl ou)], [gx_r 383, .inl 99, .inl 0, gx_r 383], t125, n, 0)) rfl (fun _ => rfl) rfl ?_
  refine ex_go (S := (32, [(0, gx_r 383), (1, .inl c), (2, .inl ti), (3, .inl ou)], [.inl c, gx_r 383, .inl 99, .inl 0, gx_r 383], t125, n, 0)) rfl (fun _ => rfl) rfl ?_
  refine ex_go (S := (33, [(0, gx_r 383), (1, .inl c), (2, .inl ti), (3, .inl ou)], [.inl 1, .inl c, gx_r 383, .inl 99, .inl 0, gx_r 383], t125, n, 0)) rfl (fun _ => rfl) rfl ?_
  obtain ⟨_, r28, rfl⟩ := pe_crewOf (d + 2) n (c := c) (w := 1) g125 (by first | decide | omega) (by first | decide | omega) ((e125 389 (118 + 3 * c + 1) (by first | decide | omega)).trans ((e123 389 (118 + 3 * c + 1) (by first | decide | omega)).trans ((e122 389 (118 + 3 * c + 1) (by first | decide | omega)).trans (km'))))
  refine gx_call1 rfl rfl g125 rfl rfl r28 rfl ?_
  show en_ex _ _ _ _ (36, [(0, gx_r 383), (1, .inl c), (2, .inl ti), (3, .inl ou)], [.inl (w 2 c), .inl 99, .inl 0, gx_r 383], t125, n, 0) _
  obtain ⟨_, r129, v129, t129, rfl, hv129, g129, e129⟩ := pe_lawOf d n (lw := 0) (fh := 7) (mo := 99) (ot := w 2 c) (me := w 2 c) (ti := ti) (ou := ou) (L := L) g125 (by decide) (by decide) (by first | decide | omega) (Or.inl rfl) ⟨by omega, ht, ho, k27, fun _ => ⟨k26, k125⟩⟩ (RLL_keepb hL ((e125 389 (9 + 0) (by first | decide | omega)).trans ((e123 389 (9 + 0) (by first | decide | omega)).trans (e122 389 (9 + 0) (by first | decide | omega)))) (fun c i h _ => (e125 c i (by first | decide | omega)).trans ((e123 c i (by first | decide | omega)).trans (e122 c i (by first | decide | omega))))) (fun z => by rw [z]; exact cdf_v0)
  rw [eat_of hv129] at r129
  refine gx_call1 rfl rfl g125 rfl rfl r129 rfl ?_
  have k30 : ai_hv t129 397 0 = some (.inl (w 2 c)) := (e129 397 0 (by first | decide | omega)).trans k26
  have k31 : ai_hv t129 397 1 = some (.inl ti) := (e129 397 1 (by first | decide | omega)).trans k27
  have k32 : ai_hv t129 397 2 = some (.inl ou) := (e129 397 2 (by first | decide | omega)).trans k125
  show en_ex _ _ _ _ (39, [(0, gx_r 383), (1, .inl c), (2, .inl ti), (3, .inl ou)], [.inl (eat L (w 2 c) ti ou)], t129, n, 0) _
  refine ex_ret (r := (some (.inl (eat L (w 2 c) ti ou)), t129, n, 0)) rfl (fun _ => rfl) ?_
  exact ⟨_, rfl, t129, rfl, g129, (fun c i h => (e129 c i (by first | decide | omega)).trans ((e125 c i (by first | decide | omega)).trans ((e123 c i (by first | decide | omega)).trans (e122 c i (by first | decide | omega)))))⟩
theorem sr_crews (d n : Nat) {t0 : en_H} {v : Nat} (g0 : ai_HG ah_G t0) (k : ai_hv t0 389 4 = some (.inl v)) : ∃ r, en_u (d + 1) 127 [gx_r 383] t0 n = some r ∧ r = (some (.inl v), t0, n, 0) := by
  refine en_u_ex rfl ?_
  show en_ex _ _ _ _ (0, [(0, gx_r 383)], [], t0, n, 0) _
  refine ex_go (S := (1, [(0, gx_r 383)], [gx_r 383], t0, n, 0)) rfl (fun _ => rfl) rfl ?_
  refine gx_ref (c := 389) rfl g0 rfl rfl rfl rfl ?_
  refine ex_go (S := (5, [(0, gx_r 383)], [.inl 4, gx_r 389], t0, n, 0)) rfl (fun _ => rfl) rfl ?_
  refine gx_ag (v := .inl v) (cb := fun c => Nat.beq c 0) rfl (fun _ => rfl) g0 rfl rfl k (by first | decide | omega) rfl ?_
  refine ex_ret (r := (some (.inl v), t0, n, 0)) rfl (fun _ => rfl) ?_
  exact ⟨_, rfl, rfl⟩
theorem sr_things (d n : Nat) {t0 : en_H} {v : Nat} (g0 : ai_HG ah_G t0) (k : ai_hv t0 389 2 = some (.inl v)) : ∃ r, en_u (d + 1) 138 [gx_r 383] t0 n = some r ∧ r = (some (.inl v), t0, n, 0) := by
  refine en_u_ex rfl ?_
  show en_ex _ _ _ _ (0, [(0, gx_r 383)], [], t0, n, 0) _
  refine ex_go (S := (1, [(0, gx_r 383)], [gx_r 383], t0, n, 0)) rfl (fun _ => rfl) rfl ?_
  refine gx_ref (c := 389) rfl g0 rfl rfl rfl rfl ?_
  refine ex_go (S := (5, [(0, gx_r 383)], [.inl 2, gx_r 389], t0, n, 0)) rfl (fun _ => rfl) rfl ?_
  refine gx_ag (v := .inl v) (cb := fun c => Nat.beq c 0) rfl (fun _ => rfl) g0 rfl rfl k (by first | decide | omega) rfl ?_
  refine ex_ret (r := (some (.inl v), t0, n, 0)) rfl (fun _ => rfl) ?_
  exact ⟨_, rfl, rfl⟩
theorem sr_pc0_0 (d n : Nat) {t0 : en_H} {w : Nat → Nat → Nat} {L : List Nat} {σ : Nat → Nat} {e : Nat} {cl : en_L} {Q : en_O → Prop} (g0 : ai_HG ah_G t0) (hR : RW t0 w L) (hc : 0 < w 0 4) (k0 : ai_hv t0 399 0 = some (.inl (σ 0))) (k7 : ai_hv t0 399 7 = some (.inl (σ 7))) (k11 : ai_hv t0 399 11 = some (.inl (σ 11))) (k13 : ai_hv t0 399 13 = some (.inl (σ 13))) (h0 : σ 0 < 4294967296) (h7 : σ 7 ≤ 19998) (h11 : σ 11 ≤ 1) (h13 : σ 13 ≤ 63) (he : e ≤ 1000) (l0 : en_ld cl 0 = some (gx_r 383)) (l1 : en_ld cl 1 = some (.inl 0)) (l2 : en_ld cl 2 = some (.inl e)) (l3 : en_ld cl 3 = some (.inl 0)) (hQ : ∀ cl' t', ai_HG ah_G t' → (∀ c i, ¬ ((c = 399 ∧ (i = 15 ∨ i = 7 ∨ i = 13)) ∨ (c = 397 ∧ i < 3) ∨ c = 398) → ai_hv t' c i = ai_hv t0 c i) → ai_hv t' 399 15 = some (.inl 0) → ai_hv t' 399 7 = some (.inl (σ 7 - meal w L σ 0)) → ai_hv t' 399 13 = some (.inl (if σ 11 = 1 then fto w (σ 13) else 0)) → en_ld cl' 0 = some (gx_r 383) → en_ld cl' 1 = some (.inl 0) → en_ld cl' 2 = some (.inl (e + meal w L σ 0)) → en_ld cl' 3 = some (.inl 1) → en_ex none (en_u (d + 4)) (en_code 116) (fun _ => false) (4, cl', [], t', n, 0) Q) : en_ex none (en_u (d + 4)) (en_code 116) (fun _ => false) (4, cl, [], t0, n, 0) Q := by
  have kK := hR.1 4 (by first | decide | omega)
  have hK := hR.2.1.2.2.2.2.1
  have hea := eat_le (L := L) (me := w 2 0) (ti := σ 0) (ou := σ 11)
  have hml : meal w L σ 0 = min (eat L (w 2 0) (σ 0) (σ 11)) (σ 7) := rfl
  refine gx_ld (i := 3) (d := 0) (v := .inl 0) rfl (fun _ => rfl) l3 rfl rfl ?_
  refine gx_ld (i := 0) (d := 2) (v := gx_r 383) rfl (fun _ => rfl) l0 rfl rfl ?_
  obtain ⟨_, r21, rfl⟩ := sr_crews (d + 3) n g0 (kK)
  refine gx_call1 rfl rfl g0 rfl rfl r21 rfl ?_
  show en_ex _ _ _ _ (9, cl, [.inl (w 0 4), .inl 0], t0, n, 0) _
  refine gx_2f (c := .ge) rfl (by first | decide | omega) (by first | decide | omega) (show ¬ (w 0 4 ≤ 0) from by omega) rfl ?_
  refine gx_ld (i := 0) (d := 2) (v := gx_r 383) rfl (fun _ => rfl) l0 rfl rfl ?_
  refine gx_ref (c := 399) rfl g0 rfl rfl rfl rfl ?_
  refine gx_ld (i := 1) (d := 0) (v := .inl 0) rfl (fun _ => rfl) l1 rfl rfl ?_
  refine ex_go (S := (19, cl, [.inl 15, .inl 0, gx_r 399], t0, n, 0)) rfl (fun _ => rfl) rfl ?_
  refine ex_go (S := (20, cl, [.inl 15, gx_r 399], t0, n, 0)) rfl (fun _ => rfl) rfl ?_
  refine gx_ld (i := 3) (d := 0) (v := .inl 0) rfl (fun _ => rfl) l3 rfl rfl ?_
  refine ex_go (S := (22, cl, [.inl 15, gx_r 399], t0, n, 0)) rfl (fun _ => rfl) rfl ?_
  refine ex_go (S := (23, cl, [.inl 0, .inl 15, gx_r 399], t0, n, 0)) rfl (fun _ => rfl) rfl ?_
  refine gx_ap rfl (fun _ => rfl) g0 rfl rfl rfl (show 15 < 1035 from by omega) rfl (ai_in_h (by first | decide | omega) (by first | decide | omega) (by first | decide | omega)) rfl (fun t122 g122 k122 e122 => ?_)
  have k23 : ai_hv t122 399 0 = some (.inl (σ 0)) := (e122 399 0 (by first | decide | omega)).trans k0
  have k24 : ai_hv t122 399 7 = some (.inl (σ 7)) := (e122 399 7 (by first | decide | omega)).trans k7
  have k25 : ai_hv t122 399 11 = some (.inl (σ 11)) := (e122 399 11 (by first | decide | omega)).trans k11
  have k26 : ai_hv t122 399 13 = some (.inl (σ 13)) := (e122 399 13 (by first | decide | omega)).trans k13
  refine gx_ld (i := 0) (d := 2) (v := gx_r 383) rfl (fun _ => rfl) l0 rfl rfl ?_
  refine gx_ld (i := 3) (d := 0) (v := .inl 0) rfl (fun _ => rfl) l3 rfl rfl ?_
  refine gx_ld (i := 0) (d := 2) (v := gx_r 383) rfl (fun _ => rfl) l0 rfl rfl ?_
  refine gx_ref (c := 399) rfl g122 rfl rfl rfl rfl ?_
  refine gx_ld (i := 1) (d := 0) (v := .inl 0) rfl (fun _ => rfl) l1 rfl rfl ?_
  refine ex_go (S := (32, cl, [.inl 0, .inl 0, gx_r 399, .inl 0, gx_r 383], t122, n, 0)) rfl (fun _ => rfl) rfl ?_
  refine ex_go (S := (33, cl, [.inl 0, gx_r 399, .inl 0, gx_r 383], t122, n, 0)) rfl (fun _ => rfl) rfl ?_
  refine gx_ag (v := .inl (σ 0)) (cb := fun c => Nat.beq c 0) rfl (fun _ => rfl) g122 rfl rfl k23 (by first | decide | omega) rfl ?_
  refine gx_ld (i := 0) (d := 2) (v := gx_r 383) rfl (fun _ => rfl) l0 rfl rfl ?_
  refine gx_ref (c := 399) rfl g122 rfl rfl rfl rfl ?_
  refine gx_ld (i := 1) (d := 0) (v := .inl 0) rfl (fun _ => rfl) l1 rfl rfl ?_
  refine ex_go (S := (41, cl, [.inl 11, .inl 0, gx_r 399, .inl (σ 0), .inl 0, gx_r 383], t122, n, 0)) rfl (fun _ => rfl) rfl ?_
  refine ex_go (S := (42, cl, [.inl 11, gx_r 399, .inl (σ 0), .inl 0, gx_r 383], t122, n, 0)) rfl (fun _ => rfl) rfl ?_
  refine gx_ld (i := 3) (d := 0) (v := .inl 0) rfl (fun _ => rfl) l3 rfl rfl ?_
  refine ex_go (S := (44, cl, [.inl 11, gx_r 399, .inl (σ 0), .inl 0, gx_r 383], t122, n, 0)) rfl (fun _ => rfl) rfl ?_
  refine gx_ag (v := .inl (σ 11)) (cb := fun c => Nat.beq c 0) rfl (fun _ => rfl) g122 rfl rfl k25 (by first | decide | omega) rfl ?_
  obtain ⟨_, r127, t127, rfl, g127, e127⟩ := sr_eats d n (c := 0) (ti := σ 0) (ou := σ 11) g122 (RW_keep hR (fun i hi => e122 389 i (by first | decide | omega)) (fun c i hc _ => e122 c i (by first | decide | omega))) hc h0 (by first | decide | omega)
  refine gx_call1 rfl rfl g122 rfl rfl r127 rfl ?_
  have k28 : ai_hv t127 399 0 = some (.inl (σ 0)) := (e127 399 0 (by first | decide | omega)).trans k23
  have k29 : ai_hv t127 399 7 = some (.inl (σ 7)) := (e127 399 7 (by first | decide | omega)).trans k24
  have k30 : ai_hv t127 399 11 = some (.inl (σ 11)) := (e127 399 11 (by first | decide | omega)).trans k25
  have k31 : ai_hv t127 399 13 = some (.inl (σ 13)) := (e127 399 13 (by first | decide | omega)).trans k26
  have k32 : ai_hv t127 399 15 = some (.inl 0) := (e127 399 15 (by first | decide | omega)).trans k122
  show en_ex _ _ _ _ (48, cl, [.inl (eat L (w 2 0) (σ 0) (σ 11))], t127, n, 0) _
  refine gx_sto (i := 4) (d := 0) rfl (fun _ => rfl) rfl rfl (fun l33 hl33 ml33 => ?_)
  have l33_0 : en_ld l33 0 = some (gx_r 383) := ml33 0 _ l0 rfl
  have l33_1 : en_ld l33 1 = some (.inl 0) := ml33 1 _ l1 rfl
  have l33_2 : en_ld l33 2 = some (.inl e) := ml33 2 _ l2 rfl
  have l33_3 : en_ld l33 3 = some (.inl 0) := ml33 3 _ l3 rfl
  refine gx_ld (i := 4) (d := 0) (v := .inl (eat L (w 2 0) (σ 0) (σ 11))) rfl (fun _ => rfl) hl33 rfl rfl ?_
  refine gx_ld (i := 0) (d := 2) (v := gx_r 383) rfl (fun _ => rfl) l33_0 rfl rfl ?_
  refine gx_ref (c := 399) rfl g127 rfl rfl rfl rfl ?_
  refine gx_ld (i := 1) (d := 0) (v := .inl 0) rfl (fun _ => rfl) l33_1 rfl rfl ?_
  refine ex_go (S := (59, l33, [.inl 7, .inl 0, gx_r 399, .inl (eat L (w 2 0) (σ 0) (σ 11))], t127, n, 0)) rfl (fun _ => rfl) rfl ?_
  refine ex_go (S := (60, l33, [.inl 7, gx_r 399, .inl (eat L (w 2 0) (σ 0) (σ 11))], t127, n, 0)) rfl (fun _ => rfl) rfl ?_
  refine gx_ld (i := 3) (d := 0) (v := .inl 0) rfl (fun _ => rfl) l33_3 rfl rfl ?_
  refine ex_go (S := (62, l33, [.inl 7, gx_r 399, .inl (eat L (w 2 0) (σ 0) (σ 11))], t127, n, 0)) rfl (fun _ => rfl) rfl ?_
  refine gx_ag (v := .inl (σ 7)) (cb := fun c => Nat.beq c 0) rfl (fun _ => rfl) g127 rfl rfl k29 (by first | decide | omega) rfl ?_
  by_cases hc34 : eat L (w 2 0) (σ 0) (σ 11) ≤ σ 7
  · refine gx_2t (c := .le) rfl (by first | decide | omega) (by first | decide | omega) hc34 rfl ?_
    refine gx_ld (i := 4) (d := 0) (v := .inl (eat L (w 2 0) (σ 0) (σ 11))) rfl (fun _ => rfl) hl33 rfl rfl ?_
    refine gx_sto (i := 4) (d := 0) rfl (fun _ => rfl) rfl rfl (fun l35 hl35 ml35 => ?_)
    have l35_0 : en_ld l35 0 = some (gx_r 383) := ml35 0 _ l33_0 rfl
    have l35_1 : en_ld l35 1 = some (.inl 0) := ml35 1 _ l33_1 rfl
    have l35_2 : en_ld l35 2 = some (.inl e) := ml35 2 _ l33_2 rfl
    have l35_3 : en_ld l35 3 = some (.inl 0) := ml35 3 _ l33_3 rfl
    refine gx_ld (i := 0) (d := 2) (v := gx_r 383) rfl (fun _ => rfl) l35_0 rfl rfl ?_
    refine gx_ref (c := 399) rfl g127 rfl rfl rfl rfl ?_
    refine gx_ld (i := 1) (d := 0) (v := .inl 0) rfl (fun _ => rfl) l35_1 rfl rfl ?_
    refine ex_go (S := (91, l35, [.inl 7, .inl 0, gx_r 399], t127, n, 0)) rfl (fun _ => rfl) rfl ?_
    refine ex_go (S := (92, l35, [.inl 7, gx_r 399], t127, n, 0)) rfl (fun _ => rfl) rfl ?_
    refine gx_ld (i := 3) (d := 0) (v := .inl 0) rfl (fun _ => rfl) l35_3 rfl rfl ?_
    refine ex_go (S := (94, l35, [.inl 7, gx_r 399], t127, n, 0)) rfl (fun _ => rfl) rfl ?_
    refine ex_go (S := (95, l35, [.inl 7, gx_r 399, .inl 7, gx_r 399], t127, n, 0)) rfl (fun _ => rfl) rfl ?_
    refine gx_ag (v := .inl (σ 7)) (cb := fun c => Nat.beq c 0) rfl (fun _ => rfl) g127 rfl rfl k29 (by first | decide | omega) rfl ?_
    refine gx_ld (i := 4) (d := 0) (v := .inl (eat L (w 2 0) (σ 0) (σ 11))) rfl (fun _ => rfl) hl35 rfl rfl ?_
    refine gx_isub rfl (by first | decide | omega) (by first | decide | omega) rfl ?_
    refine gx_ap rfl (fun _ => rfl) g127 rfl rfl rfl (show 7 < 1035 from by omega) rfl (ai_in_h (by first | decide | omega) (by first | decide | omega) (by first | decide | omega)) rfl (fun t136 g136 k136 e136 => ?_)
    have k37 : ai_hv t136 399 0 = some (.inl (σ 0)) := (e136 399 0 (by first | decide | omega)).trans k28
    have k38 : ai_hv t136 399 11 = some (.inl (σ 11)) := (e136 399 11 (by first | decide | omega)).trans k30
    have k39 : ai_hv t136 399 13 = some (.inl (σ 13)) := (e136 399 13 (by first | decide | omega)).trans k31
    have k40 : ai_hv t136 399 15 = some (.inl 0) := (e136 399 15 (by first | decide | omega)).trans k32
    refine gx_ld (i := 2) (d := 0) (v := .inl e) rfl (fun _ => rfl) l35_2 rfl rfl ?_
    refine gx_ld (i := 4) (d := 0) (v := .inl (eat L (w 2 0) (σ 0) (σ 11))) rfl (fun _ => rfl) hl35 rfl rfl ?_
    refine ex_iadd rfl (by first | decide | omega) rfl ?_
    refine gx_sto (i := 2) (d := 0) rfl (fun _ => rfl) rfl rfl (fun l41 hl41 ml41 => ?_)
    have l41_0 : en_ld l41 0 = some (gx_r 383) := ml41 0 _ l35_0 rfl
    have l41_1 : en_ld l41 1 = some (.inl 0) := ml41 1 _ l35_1 rfl
    have l41_3 : en_ld l41 3 = some (.inl 0) := ml41 3 _ l35_3 rfl
    have l41_4 : en_ld l41 4 = some (.inl (eat L (w 2 0) (σ 0) (σ 11))) := ml41 4 _ hl35 rfl
    refine gx_ld (i := 0) (d := 2) (v := gx_r 383) rfl (fun _ => rfl) l41_0 rfl rfl ?_
    refine gx_ref (c := 399) rfl g136 rfl rfl rfl rfl ?_
    refine gx_ld (i := 1) (d := 0) (v := .inl 0) rfl (fun _ => rfl) l41_1 rfl rfl ?_
    refine ex_go (S := (112, l41, [.inl 13, .inl 0, gx_r 399], t136, n, 0)) rfl (fun _ => rfl) rfl ?_
    refine ex_go (S := (113, l41, [.inl 13, gx_r 399], t136, n, 0)) rfl (fun _ => rfl) rfl ?_
    refine gx_ld (i := 3) (d := 0) (v := .inl 0) rfl (fun _ => rfl) l41_3 rfl rfl ?_
    refine ex_go (S := (115, l41, [.inl 13, gx_r 399], t136, n, 0)) rfl (fun _ => rfl) rfl ?_
    refine gx_ld (i := 0) (d := 2) (v := gx_r 383) rfl (fun _ => rfl) l41_0 rfl rfl ?_
    refine gx_ref (c := 399) rfl g136 rfl rfl rfl rfl ?_
    refine gx_ld (i := 1) (d := 0) (v := .inl 0) rfl (fun _ => rfl) l41_1 rfl rfl ?_
    refine ex_go (S := (122, l41, [.inl 11, .inl 0, gx_r 399, .inl 13, gx_r 399], t136, n, 0)) rfl (fun _ => rfl) rfl ?_
    refine ex_go (S := (123, l41, [.inl 11, gx_r 399, .inl 13, gx_r 399], t136, n, 0)) rfl (fun _ => rfl) rfl ?_
    refine gx_ld (i := 3) (d := 0) (v := .inl 0) rfl (fun _ => rfl) l41_3 rfl rfl ?_
    refine ex_go (S := (125, l41, [.inl 11, gx_r 399, .inl 13, gx_r 399], t136, n, 0)) rfl (fun _ => rfl) rfl ?_
    refine gx_ag (v := .inl (σ 11)) (cb := fun c => Nat.beq c 0) rfl (fun _ => rfl) g136 rfl rfl k38 (by first | decide | omega) rfl ?_
    refine ex_go (S := (127, l41, [.inl 1, .inl (σ 11), .inl 13, gx_r 399], t136, n, 0)) rfl (fun _ => rfl) rfl ?_
    by_cases hc42 : σ 11 ≠ 1
    · refine gx_2t (c := .ne) rfl (by first | decide | omega) (by first | decide | omega) hc42 rfl ?_
      refine ex_go (S := (149, l41, [.inl 0, .inl 13, gx_r 399], t136, n, 0)) rfl (fun _ => rfl) rfl ?_
      refine gx_ap rfl (fun _ => rfl) g136 rfl rfl rfl (show 13 < 1035 from by omega) rfl (ai_in_h (by first | decide | omega) (by first | decide | omega) (by first | decide | omega)) rfl (fun t143 g143 k143 e143 => ?_)
      have k44 : ai_hv t143 399 0 = some (.inl (σ 0)) := (e143 399 0 (by first | decide | omega)).trans k37
      have k45 : ai_hv t143 399 11 = some (.inl (σ 11)) := (e143 399 11 (by first | decide | omega)).trans k38
      have k46 : ai_hv t143 399 15 = some (.inl 0) := (e143 399 15 (by first | decide | omega)).trans k40
      have k47 : ai_hv t143 399 7 = some (.inl ((σ 7) - (eat L (w 2 0) (σ 0) (σ 11)))) := (e143 399 7 (by first | decide | omega)).trans k136
      refine gx_incS (i := 3) (a := 0) (x := 1) rfl (fun _ => rfl) l41_3 (by first | decide | omega) rfl (fun l48 hl48 ml48 => ?_)
      have l48_0 : en_ld l48 0 = some (gx_r 383) := ml48 0 _ l41_0 rfl
      have l48_1 : en_ld l48 1 = some (.inl 0) := ml48 1 _ l41_1 rfl
      have l48_4 : en_ld l48 4 = some (.inl (eat L (w 2 0) (σ 0) (σ 11))) := ml48 4 _ l41_4 rfl
      have l48_2 : en_ld l48 2 = some (.inl (e + (eat L (w 2 0) (σ 0) (σ 11)))) := ml48 2 _ hl41 rfl
      refine ex_go (S := (4, l48, [], t143, n, 0)) rfl (fun _ => rfl) rfl ?_
      have hm9 : meal w L σ 0 = eat L (w 2 0) (σ 0) (σ 11) := by omega
      exact hQ _ t143 g143 (fun c i h => (e143 c i (by first | decide | omega)).trans ((e136 c i (by first | decide | omega)).trans ((e127 c i (by first | decide | omega)).trans (e122 c i (by first | decide | omega))))) k46 (by rw [hm9]; exact k47) (by rw [if_neg (by first | decide | omega)]; exact k143) l48_0 l48_1 (by rw [hm9]; exact l48_2) hl48
    · refine gx_2f (c := .ne) rfl (by first | decide | omega) (by first | decide | omega) hc42 rfl ?_
      refine gx_ld (i := 0) (d := 2) (v := gx_r 383) rfl (fun _ => rfl) l41_0 rfl rfl ?_
      refine gx_ld (i := 0) (d := 2) (v := gx_r 383) rfl (fun _ => rfl) l41_0 rfl rfl ?_
      refine gx_ref (c := 399) rfl g136 rfl rfl rfl rfl ?_
      refine gx_ld (i := 1) (d := 0) (v := .inl 0) rfl (fun _ => rfl) l41_1 rfl rfl ?_
      refine ex_go (S := (138, l41, [.inl 13, .inl 0, gx_r 399, gx_r 383, .inl 13, gx_r 399], t136, n, 0)) rfl (fun _ => rfl) rfl ?_
      refine ex_go (S := (139, l41, [.inl 13, gx_r 399, gx_r 383, .inl 13, gx_r 399], t136, n, 0)) rfl (fun _ => rfl) rfl ?_
      refine gx_ld (i := 3) (d := 0) (v := .inl 0) rfl (fun _ => rfl) l41_3 rfl rfl ?_
      refine ex_go (S := (141, l41, [.inl 13, gx_r 399, gx_r 383, .inl 13, gx_r 399], t136, n, 0)) rfl (fun _ => rfl) rfl ?_
      refine gx_ag (v := .inl (σ 13)) (cb := fun c => Nat.beq c 0) rfl (fun _ => rfl) g136 rfl rfl k39 (by first | decide | omega) rfl ?_
      obtain ⟨_, r49, rfl⟩ := sr_flowsTo (d + 1) n (p := (σ 13)) g136 (RW_keep hR (fun i hi => (e136 389 i (by first | decide | omega)).trans ((e127 389 i (by first | decide | omega)).trans (e122 389 i (by first | decide | omega)))) (fun c i hc _ => (e136 c i (by first | decide | omega)).trans ((e127 c i (by first | decide | omega)).trans (e122 c i (by first | decide | omega))))) (by first | decide | omega)
      have hfl := nb_lt (O := w 0 0) (D := w 0 1) (p := σ 13) (s := w 1 (σ 13)) (by first | decide | omega) hR.2.1.1 hR.2.1.2.1
      have hfl : fto w (σ 13) < 64 := hfl
      refine gx_call1 rfl rfl g136 rfl rfl r49 rfl ?_
      show en_ex _ _ _ _ (145, l41, [.inl (fto w (σ 13)), .inl 13, gx_r 399], t136, n, 0) _
      refine ex_go (S := (149, l41, [.inl (fto w (σ 13)), .inl 13, gx_r 399], t136, n, 0)) rfl (fun _ => rfl) rfl ?_
      refine gx_ap rfl (fun _ => rfl) g136 rfl rfl rfl (show 13 < 1035 from by omega) rfl (ai_in_h (by first | decide | omega) (by first | decide | omega) (by first | decide | omega)) rfl (fun t150 g150 k150 e150 => ?_)
      have k51 : ai_hv t150 399 0 = some (.inl (σ 0)) := (e150 399 0 (by first | decide | omega)).trans k37
      have k52 : ai_hv t150 399 11 = some (.inl (σ 11)) := (e150 399 11 (by first | decide | omega)).trans k38
      have k53 : ai_hv t150 399 15 = some (.inl 0) := (e150 399 15 (by first | decide | omega)).trans k40
      have k54 : ai_hv t150 399 7 = some (.inl ((σ 7) - (eat L (w 2 0) (σ 0) (σ 11)))) := (e150 399 7 (by first | decide | omega)).trans k136
      refine gx_incS (i := 3) (a := 0) (x := 1) rfl (fun _ => rfl) l41_3 (by first | decide | omega) rfl (fun l55 hl55 ml55 => ?_)
      have l55_0 : en_ld l55 0 = some (gx_r 383) := ml55 0 _ l41_0 rfl
      have l55_1 : en_ld l55 1 = some (.inl 0) := ml55 1 _ l41_1 rfl
      have l55_4 : en_ld l55 4 = some (.inl (eat L (w 2 0) (σ 0) (σ 11))) := ml55 4 _ l41_4 rfl
      have l55_2 : en_ld l55 2 = some (.inl (e + (eat L (w 2 0) (σ 0) (σ 11)))) := ml55 2 _ hl41 rfl
      refine ex_go (S := (4, l55, [], t150, n, 0)) rfl (fun _ => rfl) rfl ?_
      have hm9 : meal w L σ 0 = eat L (w 2 0) (σ 0) (σ 11) := by omega
      exact hQ _ t150 g150 (fun c i h => (e150 c i (by first | decide | omega)).trans ((e136 c i (by first | decide | omega)).trans ((e127 c i (by first | decide | omega)).trans (e122 c i (by first | decide | omega))))) k53 (by rw [hm9]; exact k54) (by rw [if_pos (by first | decide | omega)]; exact k150) l55_0 l55_1 (by rw [hm9]; exact l55_2) hl55
  · refine gx_2f (c := .le) rfl (by first | decide | omega) (by first | decide | omega) hc34 rfl ?_
    refine gx_ld (i := 0) (d := 2) (v := gx_r 383) rfl (fun _ => rfl) l33_0 rfl rfl ?_
    refine gx_ref (c := 399) rfl g127 rfl rfl rfl rfl ?_
    refine gx_ld (i := 1) (d := 0) (v := .inl 0) rfl (fun _ => rfl) l33_1 rfl rfl ?_
    refine ex_go (S := (73, l33, [.inl 7, .inl 0, gx_r 399], t127, n, 0)) rfl (fun _ => rfl) rfl ?_
    refine ex_go (S := (74, l33, [.inl 7, gx_r 399], t127, n, 0)) rfl (fun _ => rfl) rfl ?_
    refine gx_ld (i := 3) (d := 0) (v := .inl 0) rfl (fun _ => rfl) l33_3 rfl rfl ?_
    refine ex_go (S := (76, l33, [.inl 7, gx_r 399], t127, n, 0)) rfl (fun _ => rfl) rfl ?_
    refine gx_ag (v := .inl (σ 7)) (cb := fun c => Nat.beq c 0) rfl (fun _ => rfl) g127 rfl rfl k29 (by first | decide | omega) rfl ?_
    refine ex_go (S := (82, l33, [.inl (σ 7)], t127, n, 0)) rfl (fun _ => rfl) rfl ?_
    refine gx_sto (i := 4) (d := 0) rfl (fun _ => rfl) rfl rfl (fun l56 hl56 ml56 => ?_)
    have l56_0 : en_ld l56 0 = some (gx_r 383) := ml56 0 _ l33_0 rfl
    have l56_1 : en_ld l56 1 = some (.inl 0) := ml56 1 _ l33_1 rfl
    have l56_2 : en_ld l56 2 = some (.inl e) := ml56 2 _ l33_2 rfl
    have l56_3 : en_ld l56 3 = some (.inl 0) := ml56 3 _ l33_3 rfl
    refine gx_ld (i := 0) (d := 2) (v := gx_r 383) rfl (fun _ => rfl) l56_0 rfl rfl ?_
    refine gx_ref (c := 399) rfl g127 rfl rfl rfl rfl ?_
    refine gx_ld (i := 1) (d := 0) (v := .inl 0) rfl (fun _ => rfl) l56_1 rfl rfl ?_
    refine ex_go (S := (91, l56, [.inl 7, .inl 0, gx_r 399], t127, n, 0)) rfl (fun _ => rfl) rfl ?_
    refine ex_go (S := (92, l56, [.inl 7, gx_r 399], t127, n, 0)) rfl (fun _ => rfl) rfl ?_
    refine gx_ld (i := 3) (d := 0) (v := .inl 0) rfl (fun _ => rfl) l56_3 rfl rfl ?_
    refine ex_go (S := (94, l56, [.inl 7, gx_r 399], t127, n, 0)) rfl (fun _ => rfl) rfl ?_
    refine ex_go (S := (95, l56, [.inl 7, gx_r 399, .inl 7, gx_r 399], t127, n, 0)) rfl (fun _ => rfl) rfl ?_
    refine gx_ag (v := .inl (σ 7)) (cb := fun c => Nat.beq c 0) rfl (fun _ => rfl) g127 rfl rfl k29 (by first | decide | omega) rfl ?_
    refine gx_ld (i := 4) (d := 0) (v := .inl (σ 7)) rfl (fun _ => rfl) hl56 rfl rfl ?_
    refine gx_isub rfl (by first | decide | omega) (by first | decide | omega) rfl ?_
    refine gx_ap rfl (fun _ => rfl) g127 rfl rfl rfl (show 7 < 1035 from by omega) rfl (ai_in_h (by first | decide | omega) (by first | decide | omega) (by first | decide | omega)) rfl (fun t157 g157 k157 e157 => ?_)
    have k58 : ai_hv t157 399 0 = some (.inl (σ 0)) := (e157 399 0 (by first | decide | omega)).trans k28
    have k59 : ai_hv t157 399 11 = some (.inl (σ 11)) := (e157 399 11 (by first | decide | omega)).trans k30
    have k60 : ai_hv t157 399 13 = some (.inl (σ 13)) := (e157 399 13 (by first | decide | omega)).trans k31
    have k61 : ai_hv t157 399 15 = some (.inl 0) := (e157 399 15 (by first | decide | omega)).trans k32
    refine gx_ld (i := 2) (d := 0) (v := .inl e) rfl (fun _ => rfl) l56_2 rfl rfl ?_
    refine gx_ld (i := 4) (d := 0) (v := .inl (σ 7)) rfl (fun _ => rfl) hl56 rfl rfl ?_
    refine ex_iadd rfl (by first | decide | omega) rfl ?_
    refine gx_sto (i := 2) (d := 0) rfl (fun _ => rfl) rfl rfl (fun l62 hl62 ml62 => ?_)
    have l62_0 : en_ld l62 0 = some (gx_r 383) := ml62 0 _ l56_0 rfl
    have l62_1 : en_ld l62 1 = some (.inl 0) := ml62 1 _ l56_1 rfl
    have l62_3 : en_ld l62 3 = some (.inl 0) := ml62 3 _ l56_3 rfl
    have l62_4 : en_ld l62 4 = some (.inl (σ 7)) := ml62 4 _ hl56 rfl
    refine gx_ld (i := 0) (d := 2) (v := gx_r 383) rfl (fun _ => rfl) l62_0 rfl rfl ?_
    refine gx_ref (c := 399) rfl g157 rfl rfl rfl rfl ?_
    refine gx_ld (i := 1) (d := 0) (v := .inl 0) rfl (fun _ => rfl) l62_1 rfl rfl ?_
    refine ex_go (S := (112, l62, [.inl 13, .inl 0, gx_r 399], t157, n, 0)) rfl (fun _ => rfl) rfl ?_
    refine ex_go (S := (113, l62, [.inl 13, gx_r 399], t157, n, 0)) rfl (fun _ => rfl) rfl ?_
    refine gx_ld (i := 3) (d := 0) (v := .inl 0) rfl (fun _ => rfl) l62_3 rfl rfl ?_
    refine ex_go (S := (115, l62, [.inl 13, gx_r 399], t157, n, 0)) rfl (fun _ => rfl) rfl ?_
    refine gx_ld (i := 0) (d := 2) (v := gx_r 383) rfl (fun _ => rfl) l62_0 rfl rfl ?_
    refine gx_ref (c := 399) rfl g157 rfl rfl rfl rfl ?_
    refine gx_ld (i := 1) (d := 0) (v := .inl 0) rfl (fun _ => rfl) l62_1 rfl rfl ?_
    refine ex_go (S := (122, l62, [.inl 11, .inl 0, gx_r 399, .inl 13, gx_r 399], t157, n, 0)) rfl (fun _ => rfl) rfl ?_
    refine ex_go (S := (123, l62, [.inl 11, gx_r 399, .inl 13, gx_r 399], t157, n, 0)) rfl (fun _ => rfl) rfl ?_
    refine gx_ld (i := 3) (d := 0) (v := .inl 0) rfl (fun _ => rfl) l62_3 rfl rfl ?_
    refine ex_go (S := (125, l62, [.inl 11, gx_r 399, .inl 13, gx_r 399], t157, n, 0)) rfl (fun _ => rfl) rfl ?_
    refine gx_ag (v := .inl (σ 11)) (cb := fun c => Nat.beq c 0) rfl (fun _ => rfl) g157 rfl rfl k59 (by first | decide | omega) rfl ?_
    refine ex_go (S := (127, l62, [.inl 1, .inl (σ 11), .inl 13, gx_r 399], t157, n, 0)) rfl (fun _ => rfl) rfl ?_
    by_cases hc63 : σ 11 ≠ 1
    · refine gx_2t (c := .ne) rfl (by first | decide | omega) (by first | decide | omega) hc63 rfl ?_
      refine ex_go (S := (149, l62, [.inl 0, .inl 13, gx_r 399], t157, n, 0)) rfl (fun _ => rfl) rfl ?_
      refine gx_ap rfl (fun _ => rfl) g157 rfl rfl rfl (show 13 < 1035 from by omega) rfl (ai_in_h (by first | decide | omega) (by first | decide | omega) (by first | decide | omega)) rfl (fun t164 g164 k164 e164 => ?_)
      have k65 : ai_hv t164 399 0 = some (.inl (σ 0)) := (e164 399 0 (by first | decide | omega)).trans k58
      have k66 : ai_hv t164 399 11 = some (.inl (σ 11)) := (e164 399 11 (by first | decide | omega)).trans k59
      have k67 : ai_hv t164 399 15 = some (.inl 0) := (e164 399 15 (by first | decide | omega)).trans k61
      have k68 : ai_hv t164 399 7 = some (.inl ((σ 7) - (σ 7))) := (e164 399 7 (by first | decide | omega)).trans k157
      refine gx_incS (i := 3) (a := 0) (x := 1) rfl (fun _ => rfl) l62_3 (by first | decide | omega) rfl (fun l69 hl69 ml69 => ?_)
      have l69_0 : en_ld l69 0 = some (gx_r 383) := ml69 0 _ l62_0 rfl
      have l69_1 : en_ld l69 1 = some (.inl 0) := ml69 1 _ l62_1 rfl
      have l69_4 : en_ld l69 4 = some (.inl (σ 7)) := ml69 4 _ l62_4 rfl
      have l69_2 : en_ld l69 2 = some (.inl (e + (σ 7))) := ml69 2 _ hl62 rfl
      refine ex_go (S := (4, l69, [], t164, n, 0)) rfl (fun _ => rfl) rfl ?_
      have hm9 : meal w L σ 0 = σ 7 := by omega
      exact hQ _ t164 g164 (fun c i h => (e164 c i (by first | decide | omega)).trans ((e157 c i (by first | decide | omega)).trans ((e127 c i (by first | decide | omega)).trans (e122 c i (by first | decide | omega))))) k67 (by rw [hm9]; exact k68) (by rw [if_neg (by first | decide | omega)]; exact k164) l69_0 l69_1 (by rw [hm9]; exact l69_2) hl69
    · refine gx_2f (c := .ne) rfl (by first | decide | omega) (by first | decide | omega) hc63 rfl ?_
      refine gx_ld (i := 0) (d := 2) (v := gx_r 383) rfl (fun _ => rfl) l62_0 rfl rfl ?_
      refine gx_ld (i := 0) (d := 2) (v := gx_r 383) rfl (fun _ => rfl) l62_0 rfl rfl ?_
      refine gx_ref (c := 399) rfl g157 rfl rfl rfl rfl ?_
      refine gx_ld (i := 1) (d := 0) (v := .inl 0) rfl (fun _ => rfl) l62_1 rfl rfl ?_
      refine ex_go (S := (138, l62, [.inl 13, .inl 0, gx_r 399, gx_r 383, .inl 13, gx_r 399], t157, n, 0)) rfl (fun _ => rfl) rfl ?_
      refine ex_go (S := (139, l62, [.inl 13, gx_r 399, gx_r 383, .inl 13, gx_r 399], t157, n, 0)) rfl (fun _ => rfl) rfl ?_
      refine gx_ld (i := 3) (d := 0) (v := .inl 0) rfl (fun _ => rfl) l62_3 rfl rfl ?_
      refine ex_go (S := (141, l62, [.inl 13, gx_r 399, gx_r 383, .inl 13, gx_r 399], t157, n, 0)) rfl (fun _ => rfl) rfl ?_
      refine gx_ag (v := .inl (σ 13)) (cb := fun c => Nat.beq c 0) rfl (fun _ => rfl) g157 rfl rfl k60 (by first | decide | omega) rfl ?_
      obtain ⟨_, r70, rfl⟩ := sr_flowsTo (d + 1) n (p := (σ 13)) g157 (RW_keep hR (fun i hi => (e157 389 i (by first | decide | omega)).trans ((e127 389 i (by first | decide | omega)).trans (e122 389 i (by first | decide | omega)))) (fun c i hc _ => (e157 c i (by first | decide | omega)).trans ((e127 c i (by first | decide | omega)).trans (e122 c i (by first | decide | omega))))) (by first | decide | omega)
      have hfl := nb_lt (O := w 0 0) (D := w 0 1) (p := σ 13) (s := w 1 (σ 13)) (by first | decide | omega) hR.2.1.1 hR.2.1.2.1
      have hfl : fto w (σ 13) < 64 := hfl
      refine gx_call1 rfl rfl g157 rfl rfl r70 rfl ?_
      show en_ex _ _ _ _ (145, l62, [.inl (fto w (σ 13)), .inl 13, gx_r 399], t157, n, 0) _
      refine ex_go (S := (149, l62, [.inl (fto w (σ 13)), .inl 13, gx_r 399], t157, n, 0)) rfl (fun _ => rfl) rfl ?_
      refine gx_ap rfl (fun _ => rfl) g157 rfl rfl rfl (show 13 < 1035 from by omega) rfl (ai_in_h (by first | decide | omega) (by first | decide | omega) (by first | decide | omega)) rfl (fun t171 g171 k171 e171 => ?_)
      have k72 : ai_hv t171 399 0 = some (.inl (σ 0)) := (e171 399 0 (by first | decide | omega)).trans k58
      have k73 : ai_hv t171 399 11 = some (.inl (σ 11)) := (e171 399 11 (by first | decide | omega)).trans k59
      have k74 : ai_hv t171 399 15 = some (.inl 0) := (e171 399 15 (by first | decide | omega)).trans k61
      have k75 : ai_hv t171 399 7 = some (.inl ((σ 7) - (σ 7))) := (e171 399 7 (by first | decide | omega)).trans k157
      refine gx_incS (i := 3) (a := 0) (x := 1) rfl (fun _ => rfl) l62_3 (by first | decide | omega) rfl (fun l76 hl76 ml76 => ?_)
      have l76_0 : en_ld l76 0 = some (gx_r 383) := ml76 0 _ l62_0 rfl
      have l76_1 : en_ld l76 1 = some (.inl 0) := ml76 1 _ l62_1 rfl
      have l76_4 : en_ld l76 4 = some (.inl (σ 7)) := ml76 4 _ l62_4 rfl
      have l76_2 : en_ld l76 2 = some (.inl (e + (σ 7))) := ml76 2 _ hl62 rfl
      refine ex_go (S := (4, l76, [], t171, n, 0)) rfl (fun _ => rfl) rfl ?_
      have hm9 : meal w L σ 0 = σ 7 := by omega
      exact hQ _ t171 g171 (fun c i h => (e171 c i (by first | decide | omega)).trans ((e157 c i (by first | decide | omega)).trans ((e127 c i (by first | decide | omega)).trans (e122 c i (by first | decide | omega))))) k74 (by rw [hm9]; exact k75) (by rw [if_pos (by first | decide | omega)]; exact k171) l76_0 l76_1 (by rw [hm9]; exact l76_2) hl76
theorem sr_pc0_1 (d n : Nat) {t0 : en_H} {w : Nat → Nat → Nat} {L : List Nat} {σ : Nat → Nat} {e : Nat} {cl : en_L} {Q : en_O → Prop} (g0 : ai_HG ah_G t0) (hR : RW t0 w L) (hc : 1 < w 0 4) (k0 : ai_hv t0 399 0 = some (.inl (σ 0))) (k7 : ai_hv t0 399 8 = some (.inl (σ 8))) (k11 : ai_hv t0 399 12 = some (.inl (σ 12))) (k13 : ai_hv t0 399 14 = some (.inl (σ 14))) (h0 : σ 0 < 4294967296) (h7 : σ 8 ≤ 19998) (h11 : σ 12 ≤ 1) (h13 : σ 14 ≤ 63) (he : e ≤ 1000) (l0 : en_ld cl 0 = some (gx_r 383)) (l1 : en_ld cl 1 = some (.inl 0)) (l2 : en_ld cl 2 = some (.inl e)) (l3 : en_ld cl 3 = some (.inl 1)) (hQ : ∀ cl' t', ai_HG ah_G t' → (∀ c i, ¬ ((c = 399 ∧ (i = 16 ∨ i = 8 ∨ i = 14)) ∨ (c = 397 ∧ i < 3) ∨ c = 398) → ai_hv t' c i = ai_hv t0 c i) → ai_hv t' 399 16 = some (.inl 0) → ai_hv t' 399 8 = some (.inl (σ 8 - meal w L σ 1)) → ai_hv t' 399 14 = some (.inl (if σ 12 = 1 then fto w (σ 14) else 0)) → en_ld cl' 0 = some (gx_r 383) → en_ld cl' 1 = some (.inl 0) → en_ld cl' 2 = some (.inl (e + meal w L σ 1)) → en_ld cl' 3 = some (.inl 2) → en_ex none (en_u (d + 4)) (en_code 116) (fun _ => false) (4, cl', [], t', n, 0) Q) : en_ex none (en_u (d + 4)) (en_code 116) (fun _ => false) (4, cl, [], t0, n, 0) Q := by
  have kK := hR.1 4 (by first | decide | omega)
  have hK := hR.2.1.2.2.2.2.1
  have hea := eat_le (L := L) (me := w 2 1) (ti := σ 0) (ou := σ 12)
  have hml : meal w L σ 1 = min (eat L (w 2 1) (σ 0) (σ 12)) (σ 8) := rfl
  refine gx_ld (i := 3) (d := 0) (v := .inl 1) rfl (fun _ => rfl) l3 rfl rfl ?_
  refine gx_ld (i := 0) (d := 2) (v := gx_r 383) rfl (fun _ => rfl) l0 rfl rfl ?_
  obtain ⟨_, r21, rfl⟩ := sr_crews (d + 3) n g0 (kK)
  refine gx_call1 rfl rfl g0 rfl rfl r21 rfl ?_
  show en_ex _ _ _ _ (9, cl, [.inl (w 0 4), .inl 1], t0, n, 0) _
  refine gx_2f (c := .ge) rfl (by first | decide | omega) (by first | decide | omega) (show ¬ (w 0 4 ≤ 1) from by omega) rfl ?_
  refine gx_ld (i := 0) (d := 2) (v := gx_r 383) rfl (fun _ => rfl) l0 rfl rfl ?_
  refine gx_ref (c := 399) rfl g0 rfl rfl rfl rfl ?_
  refine gx_ld (i := 1) (d := 0) (v := .inl 0) rfl (fun _ => rfl) l1 rfl rfl ?_
  refine ex_go (S := (19, cl, [.inl 15, .inl 0, gx_r 399], t0, n, 0)) rfl (fun _ => rfl) rfl ?_
  refine ex_go (S := (20, cl, [.inl 15, gx_r 399], t0, n, 0)) rfl (fun _ => rfl) rfl ?_
  refine gx_ld (i := 3) (d := 0) (v := .inl 1) rfl (fun _ => rfl) l3 rfl rfl ?_
  refine ex_go (S := (22, cl, [.inl 16, gx_r 399], t0, n, 0)) rfl (fun _ => rfl) rfl ?_
  refine ex_go (S := (23, cl, [.inl 0, .inl 16, gx_r 399], t0, n, 0)) rfl (fun _ => rfl) rfl ?_
  refine gx_ap rfl (fun _ => rfl) g0 rfl rfl rfl (show 16 < 1035 from by omega) rfl (ai_in_h (by first | decide | omega) (by first | decide | omega) (by first | decide | omega)) rfl (fun t122 g122 k122 e122 => ?_)
  have k23 : ai_hv t122 399 0 = some (.inl (σ 0)) := (e122 399 0 (by first | decide | omega)).trans k0
  have k24 : ai_hv t122 399 8 = some (.inl (σ 8)) := (e122 399 8 (by first | decide | omega)).trans k7
  have k25 : ai_hv t122 399 12 = some (.inl (σ 12)) := (e122 399 12 (by first | decide | omega)).trans k11
  have k26 : ai_hv t122 399 14 = some (.inl (σ 14)) := (e122 399 14 (by first | decide | omega)).trans k13
  refine gx_ld (i := 0) (d := 2) (v := gx_r 383) rfl (fun _ => rfl) l0 rfl rfl ?_
  refine gx_ld (i := 3) (d := 0) (v := .inl 1) rfl (fun _ => rfl) l3 rfl rfl ?_
  refine gx_ld (i := 0) (d := 2) (v := gx_r 383) rfl (fun _ => rfl) l0 rfl rfl ?_
  refine gx_ref (c := 399) rfl g122 rfl rfl rfl rfl ?_
  refine gx_ld (i := 1) (d := 0) (v := .inl 0) rfl (fun _ => rfl) l1 rfl rfl ?_
  refine ex_go (S := (32, cl, [.inl 0, .inl 0, gx_r 399, .inl 1, gx_r 383], t122, n, 0)) rfl (fun _ => rfl) rfl ?_
  refine ex_go (S := (33, cl, [.inl 0, gx_r 399, .inl 1, gx_r 383], t122, n, 0)) rfl (fun _ => rfl) rfl ?_
  refine gx_ag (v := .inl (σ 0)) (cb := fun c => Nat.beq c 0) rfl (fun _ => rfl) g122 rfl rfl k23 (by first | decide | omega) rfl ?_
  refine gx_ld (i := 0) (d := 2) (v := gx_r 383) rfl (fun _ => rfl) l0 rfl rfl ?_
  refine gx_ref (c := 399) rfl g122 rfl rfl rfl rfl ?_
  refine gx_ld (i := 1) (d := 0) (v := .inl 0) rfl (fun _ => rfl) l1 rfl rfl ?_
  refine ex_go (S := (41, cl, [.inl 11, .inl 0, gx_r 399, .inl (σ 0), .inl 1, gx_r 383], t122, n, 0)) rfl (fun _ => rfl) rfl ?_
  refine ex_go (S := (42, cl, [.inl 11, gx_r 399, .inl (σ 0), .inl 1, gx_r 383], t122, n, 0)) rfl (fun _ => rfl) rfl ?_
  refine gx_ld (i := 3) (d := 0) (v := .inl 1) rfl (fun _ => rfl) l3 rfl rfl ?_
  refine ex_go (S := (44, cl, [.inl 12, gx_r 399, .inl (σ 0), .inl 1, gx_r 383], t122, n, 0)) rfl (fun _ => rfl) rfl ?_
  refine gx_ag (v := .inl (σ 12)) (cb := fun c => Nat.beq c 0) rfl (fun _ => rfl) g122 rfl rfl k25 (by first | decide | omega) rfl ?_
  obtain ⟨_, r127, t127, rfl, g127, e127⟩ := sr_eats d n (c := 1) (ti := σ 0) (ou := σ 12) g122 (RW_keep hR (fun i hi => e122 389 i (by first | decide | omega)) (fun c i hc _ => e122 c i (by first | decide | omega))) hc h0 (by first | decide | omega)
  refine gx_call1 rfl rfl g122 rfl rfl r127 rfl ?_
  have k28 : ai_hv t127 399 0 = some (.inl (σ 0)) := (e127 399 0 (by first | decide | omega)).trans k23
  have k29 : ai_hv t127 399 8 = some (.inl (σ 8)) := (e127 399 8 (by first | decide | omega)).trans k24
  have k30 : ai_hv t127 399 12 = some (.inl (σ 12)) := (e127 399 12 (by first | decide | omega)).trans k25
  have k31 : ai_hv t127 399 14 = some (.inl (σ 14)) := (e127 399 14 (by first | decide | omega)).trans k26
  have k32 : ai_hv t127 399 16 = some (.inl 0) := (e127 399 16 (by first | decide | omega)).trans k122
  show en_ex _ _ _ _ (48, cl, [.inl (eat L (w 2 1) (σ 0) (σ 12))], t127, n, 0) _
  refine gx_sto (i := 4) (d := 0) rfl (fun _ => rfl) rfl rfl (fun l33 hl33 ml33 => ?_)
  have l33_0 : en_ld l33 0 = some (gx_r 383) := ml33 0 _ l0 rfl
  have l33_1 : en_ld l33 1 = some (.inl 0) := ml33 1 _ l1 rfl
  have l33_2 : en_ld l33 2 = some (.inl e) := ml33 2 _ l2 rfl
  have l33_3 : en_ld l33 3 = some (.inl 1) := ml33 3 _ l3 rfl
  refine gx_ld (i := 4) (d := 0) (v := .inl (eat L (w 2 1) (σ 0) (σ 12))) rfl (fun _ => rfl) hl33 rfl rfl ?_
  refine gx_ld (i := 0) (d := 2) (v := gx_r 383) rfl (fun _ => rfl) l33_0 rfl rfl ?_
  refine gx_ref (c := 399) rfl g127 rfl rfl rfl rfl ?_
  refine gx_ld (i := 1) (d := 0) (v := .inl 0) rfl (fun _ => rfl) l33_1 rfl rfl ?_
  refine ex_go (S := (59, l33, [.inl 7, .inl 0, gx_r 399, .inl (eat L (w 2 1) (σ 0) (σ 12))], t127, n, 0)) rfl (fun _ => rfl) rfl ?_
  refine ex_go (S := (60, l33, [.inl 7, gx_r 399, .inl (eat L (w 2 1) (σ 0) (σ 12))], t127, n, 0)) rfl (fun _ => rfl) rfl ?_
  refine gx_ld (i := 3) (d := 0) (v := .inl 1) rfl (fun _ => rfl) l33_3 rfl rfl ?_
  refine ex_go (S := (62, l33, [.inl 8, gx_r 399, .inl (eat L (w 2 1) (σ 0) (σ 12))], t127, n, 0)) rfl (fun _ => rfl) rfl ?_
  refine gx_ag (v := .inl (σ 8)) (cb := fun c => Nat.beq c 0) rfl (fun _ => rfl) g127 rfl rfl k29 (by first | decide | omega) rfl ?_
  by_cases hc34 : eat L (w 2 1) (σ 0) (σ 12) ≤ σ 8
  · refine gx_2t (c := .le) rfl (by first | decide | omega) (by first | decide | omega) hc34 rfl ?_
    refine gx_ld (i := 4) (d := 0) (v := .inl (eat L (w 2 1) (σ 0) (σ 12))) rfl (fun _ => rfl) hl33 rfl rfl ?_
    refine gx_sto (i := 4) (d := 0) rfl (fun _ => rfl) rfl rfl (fun l35 hl35 ml35 => ?_)
    have l35_0 : en_ld l35 0 = some (gx_r 383) := ml35 0 _ l33_0 rfl
    have l35_1 : en_ld l35 1 = some (.inl 0) := ml35 1 _ l33_1 rfl
    have l35_2 : en_ld l35 2 = some (.inl e) := ml35 2 _ l33_2 rfl
    have l35_3 : en_ld l35 3 = some (.inl 1) := ml35 3 _ l33_3 rfl
    refine gx_ld (i := 0) (d := 2) (v := gx_r 383) rfl (fun _ => rfl) l35_0 rfl rfl ?_
    refine gx_ref (c := 399) rfl g127 rfl rfl rfl rfl ?_
    refine gx_ld (i := 1) (d := 0) (v := .inl 0) rfl (fun _ => rfl) l35_1 rfl rfl ?_
    refine ex_go (S := (91, l35, [.inl 7, .inl 0, gx_r 399], t127, n, 0)) rfl (fun _ => rfl) rfl ?_
    refine ex_go (S := (92, l35, [.inl 7, gx_r 399], t127, n, 0)) rfl (fun _ => rfl) rfl ?_
    refine gx_ld (i := 3) (d := 0) (v := .inl 1) rfl (fun _ => rfl) l35_3 rfl rfl ?_
    refine ex_go (S := (94, l35, [.inl 8, gx_r 399], t127, n, 0)) rfl (fun _ => rfl) rfl ?_
    refine ex_go (S := (95, l35, [.inl 8, gx_r 399, .inl 8, gx_r 399], t127, n, 0)) rfl (fun _ => rfl) rfl ?_
    refine gx_ag (v := .inl (σ 8)) (cb := fun c => Nat.beq c 0) rfl (fun _ => rfl) g127 rfl rfl k29 (by first | decide | omega) rfl ?_
    refine gx_ld (i := 4) (d := 0) (v := .inl (eat L (w 2 1) (σ 0) (σ 12))) rfl (fun _ => rfl) hl35 rfl rfl ?_
    refine gx_isub rfl (by first | decide | omega) (by first | decide | omega) rfl ?_
    refine gx_ap rfl (fun _ => rfl) g127 rfl rfl rfl (show 8 < 1035 from by omega) rfl (ai_in_h (by first | decide | omega) (by first | decide | omega) (by first | decide | omega)) rfl (fun t136 g136 k136 e136 => ?_)
    have k37 : ai_hv t136 399 0 = some (.inl (σ 0)) := (e136 399 0 (by first | decide | omega)).trans k28
    have k38 : ai_hv t136 399 12 = some (.inl (σ 12)) := (e136 399 12 (by first | decide | omega)).trans k30
    have k39 : ai_hv t136 399 14 = some (.inl (σ 14)) := (e136 399 14 (by first | decide | omega)).trans k31
    have k40 : ai_hv t136 399 16 = some (.inl 0) := (e136 399 16 (by first | decide | omega)).trans k32
    refine gx_ld (i := 2) (d := 0) (v := .inl e) rfl (fun _ => rfl) l35_2 rfl rfl ?_
    refine gx_ld (i := 4) (d := 0) (v := .inl (eat L (w 2 1) (σ 0) (σ 12))) rfl (fun _ => rfl) hl35 rfl rfl ?_
    refine ex_iadd rfl (by first | decide | omega) rfl ?_
    refine gx_sto (i := 2) (d := 0) rfl (fun _ => rfl) rfl rfl (fun l41 hl41 ml41 => ?_)
    have l41_0 : en_ld l41 0 = some (gx_r 383) := ml41 0 _ l35_0 rfl
    have l41_1 : en_ld l41 1 = some (.inl 0) := ml41 1 _ l35_1 rfl
    have l41_3 : en_ld l41 3 = some (.inl 1) := ml41 3 _ l35_3 rfl
    have l41_4 : en_ld l41 4 = some (.inl (eat L (w 2 1) (σ 0) (σ 12))) := ml41 4 _ hl35 rfl
    refine gx_ld (i := 0) (d := 2) (v := gx_r 383) rfl (fun _ => rfl) l41_0 rfl rfl ?_
    refine gx_ref (c := 399) rfl g136 rfl rfl rfl rfl ?_
    refine gx_ld (i := 1) (d := 0) (v := .inl 0) rfl (fun _ => rfl) l41_1 rfl rfl ?_
    refine ex_go (S := (112, l41, [.inl 13, .inl 0, gx_r 399], t136, n, 0)) rfl (fun _ => rfl) rfl ?_
    refine ex_go (S := (113, l41, [.inl 13, gx_r 399], t136, n, 0)) rfl (fun _ => rfl) rfl ?_
    refine gx_ld (i := 3) (d := 0) (v := .inl 1) rfl (fun _ => rfl) l41_3 rfl rfl ?_
    refine ex_go (S := (115, l41, [.inl 14, gx_r 399], t136, n, 0)) rfl (fun _ => rfl) rfl ?_
    refine gx_ld (i := 0) (d := 2) (v := gx_r 383) rfl (fun _ => rfl) l41_0 rfl rfl ?_
    refine gx_ref (c := 399) rfl g136 rfl rfl rfl rfl ?_
    refine gx_ld (i := 1) (d := 0) (v := .inl 0) rfl (fun _ => rfl) l41_1 rfl rfl ?_
    refine ex_go (S := (122, l41, [.inl 11, .inl 0, gx_r 399, .inl 14, gx_r 399], t136, n, 0)) rfl (fun _ => rfl) rfl ?_
    refine ex_go (S := (123, l41, [.inl 11, gx_r 399, .inl 14, gx_r 399], t136, n, 0)) rfl (fun _ => rfl) rfl ?_
    refine gx_ld (i := 3) (d := 0) (v := .inl 1) rfl (fun _ => rfl) l41_3 rfl rfl ?_
    refine ex_go (S := (125, l41, [.inl 12, gx_r 399, .inl 14, gx_r 399], t136, n, 0)) rfl (fun _ => rfl) rfl ?_
    refine gx_ag (v := .inl (σ 12)) (cb := fun c => Nat.beq c 0) rfl (fun _ => rfl) g136 rfl rfl k38 (by first | decide | omega) rfl ?_
    refine ex_go (S := (127, l41, [.inl 1, .inl (σ 12), .inl 14, gx_r 399], t136, n, 0)) rfl (fun _ => rfl) rfl ?_
    by_cases hc42 : σ 12 ≠ 1
    · refine gx_2t (c := .ne) rfl (by first | decide | omega) (by first | decide | omega) hc42 rfl ?_
      refine ex_go (S := (149, l41, [.inl 0, .inl 14, gx_r 399], t136, n, 0)) rfl (fun _ => rfl) rfl ?_
      refine gx_ap rfl (fun _ => rfl) g136 rfl rfl rfl (show 14 < 1035 from by omega) rfl (ai_in_h (by first | decide | omega) (by first | decide | omega) (by first | decide | omega)) rfl (fun t143 g143 k143 e143 => ?_)
      have k44 : ai_hv t143 399 0 = some (.inl (σ 0)) := (e143 399 0 (by first | decide | omega)).trans k37
      have k45 : ai_hv t143 399 12 = some (.inl (σ 12)) := (e143 399 12 (by first | decide | omega)).trans k38
      have k46 : ai_hv t143 399 16 = some (.inl 0) := (e143 399 16 (by first | decide | omega)).trans k40
      have k47 : ai_hv t143 399 8 = some (.inl ((σ 8) - (eat L (w 2 1) (σ 0) (σ 12)))) := (e143 399 8 (by first | decide | omega)).trans k136
      refine gx_incS (i := 3) (a := 1) (x := 1) rfl (fun _ => rfl) l41_3 (by first | decide | omega) rfl (fun l48 hl48 ml48 => ?_)
      have l48_0 : en_ld l48 0 = some (gx_r 383) := ml48 0 _ l41_0 rfl
      have l48_1 : en_ld l48 1 = some (.inl 0) := ml48 1 _ l41_1 rfl
      have l48_4 : en_ld l48 4 = some (.inl (eat L (w 2 1) (σ 0) (σ 12))) := ml48 4 _ l41_4 rfl
      have l48_2 : en_ld l48 2 = some (.inl (e + (eat L (w 2 1) (σ 0) (σ 12)))) := ml48 2 _ hl41 rfl
      refine ex_go (S := (4, l48, [], t143, n, 0)) rfl (fun _ => rfl) rfl ?_
      have hm9 : meal w L σ 1 = eat L (w 2 1) (σ 0) (σ 12) := by omega
      exact hQ _ t143 g143 (fun c i h => (e143 c i (by first | decide | omega)).trans ((e136 c i (by first | decide | omega)).trans ((e127 c i (by first | decide | omega)).trans (e122 c i (by first | decide | omega))))) k46 (by rw [hm9]; exact k47) (by rw [if_neg (by first | decide | omega)]; exact k143) l48_0 l48_1 (by rw [hm9]; exact l48_2) hl48
    · refine gx_2f (c := .ne) rfl (by first | decide | omega) (by first | decide | omega) hc42 rfl ?_
      refine gx_ld (i := 0) (d := 2) (v := gx_r 383) rfl (fun _ => rfl) l41_0 rfl rfl ?_
      refine gx_ld (i := 0) (d := 2) (v := gx_r 383) rfl (fun _ => rfl) l41_0 rfl rfl ?_
      refine gx_ref (c := 399) rfl g136 rfl rfl rfl rfl ?_
      refine gx_ld (i := 1) (d := 0) (v := .inl 0) rfl (fun _ => rfl) l41_1 rfl rfl ?_
      refine ex_go (S := (138, l41, [.inl 13, .inl 0, gx_r 399, gx_r 383, .inl 14, gx_r 399], t136, n, 0)) rfl (fun _ => rfl) rfl ?_
      refine ex_go (S := (139, l41, [.inl 13, gx_r 399, gx_r 383, .inl 14, gx_r 399], t136, n, 0)) rfl (fun _ => rfl) rfl ?_
      refine gx_ld (i := 3) (d := 0) (v := .inl 1) rfl (fun _ => rfl) l41_3 rfl rfl ?_
      refine ex_go (S := (141, l41, [.inl 14, gx_r 399, gx_r 383, .inl 14, gx_r 399], t136, n, 0)) rfl (fun _ => rfl) rfl ?_
      refine gx_ag (v := .inl (σ 14)) (cb := fun c => Nat.beq c 0) rfl (fun _ => rfl) g136 rfl rfl k39 (by first | decide | omega) rfl ?_
      obtain ⟨_, r49, rfl⟩ := sr_flowsTo (d + 1) n (p := (σ 14)) g136 (RW_keep hR (fun i hi => (e136 389 i (by first | decide | omega)).trans ((e127 389 i (by first | decide | omega)).trans (e122 389 i (by first | decide | omega)))) (fun c i hc _ => (e136 c i (by first | decide | omega)).trans ((e127 c i (by first | decide | omega)).trans (e122 c i (by first | decide | omega))))) (by first | decide | omega)
      have hfl := nb_lt (O := w 0 0) (D := w 0 1) (p := σ 14) (s := w 1 (σ 14)) (by first | decide | omega) hR.2.1.1 hR.2.1.2.1
      have hfl : fto w (σ 14) < 64 := hfl
      refine gx_call1 rfl rfl g136 rfl rfl r49 rfl ?_
      show en_ex _ _ _ _ (145, l41, [.inl (fto w (σ 14)), .inl 14, gx_r 399], t136, n, 0) _
      refine ex_go (S := (149, l41, [.inl (fto w (σ 14)), .inl 14, gx_r 399], t136, n, 0)) rfl (fun _ => rfl) rfl ?_
      refine gx_ap rfl (fun _ => rfl) g136 rfl rfl rfl (show 14 < 1035 from by omega) rfl (ai_in_h (by first | decide | omega) (by first | decide | omega) (by first | decide | omega)) rfl (fun t150 g150 k150 e150 => ?_)
      have k51 : ai_hv t150 399 0 = some (.inl (σ 0)) := (e150 399 0 (by first | decide | omega)).trans k37
      have k52 : ai_hv t150 399 12 = some (.inl (σ 12)) := (e150 399 12 (by first | decide | omega)).trans k38
      have k53 : ai_hv t150 399 16 = some (.inl 0) := (e150 399 16 (by first | decide | omega)).trans k40
      have k54 : ai_hv t150 399 8 = some (.inl ((σ 8) - (eat L (w 2 1) (σ 0) (σ 12)))) := (e150 399 8 (by first | decide | omega)).trans k136
      refine gx_incS (i := 3) (a := 1) (x := 1) rfl (fun _ => rfl) l41_3 (by first | decide | omega) rfl (fun l55 hl55 ml55 => ?_)
      have l55_0 : en_ld l55 0 = some (gx_r 383) := ml55 0 _ l41_0 rfl
      have l55_1 : en_ld l55 1 = some (.inl 0) := ml55 1 _ l41_1 rfl
      have l55_4 : en_ld l55 4 = some (.inl (eat L (w 2 1) (σ 0) (σ 12))) := ml55 4 _ l41_4 rfl
      have l55_2 : en_ld l55 2 = some (.inl (e + (eat L (w 2 1) (σ 0) (σ 12)))) := ml55 2 _ hl41 rfl
      refine ex_go (S := (4, l55, [], t150, n, 0)) rfl (fun _ => rfl) rfl ?_
      have hm9 : meal w L σ 1 = eat L (w 2 1) (σ 0) (σ 12) := by omega
      exact hQ _ t150 g150 (fun c i h => (e150 c i (by first | decide | omega)).trans ((e136 c i (by first | decide | omega)).trans ((e127 c i (by first | decide | omega)).trans (e122 c i (by first | decide | omega))))) k53 (by rw [hm9]; exact k54) (by rw [if_pos (by first | decide | omega)]; exact k150) l55_0 l55_1 (by rw [hm9]; exact l55_2) hl55
  · refine gx_2f (c := .le) rfl (by first | decide | omega) (by first | decide | omega) hc34 rfl ?_
    refine gx_ld (i := 0) (d := 2) (v := gx_r 383) rfl (fun _ => rfl) l33_0 rfl rfl ?_
    refine gx_ref (c := 399) rfl g127 rfl rfl rfl rfl ?_
    refine gx_ld (i := 1) (d := 0) (v := .inl 0) rfl (fun _ => rfl) l33_1 rfl rfl ?_
    refine ex_go (S := (73, l33, [.inl 7, .inl 0, gx_r 399], t127, n, 0)) rfl (fun _ => rfl) rfl ?_
    refine ex_go (S := (74, l33, [.inl 7, gx_r 399], t127, n, 0)) rfl (fun _ => rfl) rfl ?_
    refine gx_ld (i := 3) (d := 0) (v := .inl 1) rfl (fun _ => rfl) l33_3 rfl rfl ?_
    refine ex_go (S := (76, l33, [.inl 8, gx_r 399], t127, n, 0)) rfl (fun _ => rfl) rfl ?_
    refine gx_ag (v := .inl (σ 8)) (cb := fun c => Nat.beq c 0) rfl (fun _ => rfl) g127 rfl rfl k29 (by first | decide | omega) rfl ?_
    refine ex_go (S := (82, l33, [.inl (σ 8)], t127, n, 0)) rfl (fun _ => rfl) rfl ?_
    refine gx_sto (i := 4) (d := 0) rfl (fun _ => rfl) rfl rfl (fun l56 hl56 ml56 => ?_)
    have l56_0 : en_ld l56 0 = some (gx_r 383) := ml56 0 _ l33_0 rfl
    have l56_1 : en_ld l56 1 = some (.inl 0) := ml56 1 _ l33_1 rfl
    have l56_2 : en_ld l56 2 = some (.inl e) := ml56 2 _ l33_2 rfl
    have l56_3 : en_ld l56 3 = some (.inl 1) := ml56 3 _ l33_3 rfl
    refine gx_ld (i := 0) (d := 2) (v := gx_r 383) rfl (fun _ => rfl) l56_0 rfl rfl ?_
    refine gx_ref (c := 399) rfl g127 rfl rfl rfl rfl ?_
    refine gx_ld (i := 1) (d := 0) (v := .inl 0) rfl (fun _ => rfl) l56_1 rfl rfl ?_
    refine ex_go (S := (91, l56, [.inl 7, .inl 0, gx_r 399], t127, n, 0)) rfl (fun _ => rfl) rfl ?_
    refine ex_go (S := (92, l56, [.inl 7, gx_r 399], t127, n, 0)) rfl (fun _ => rfl) rfl ?_
    refine gx_ld (i := 3) (d := 0) (v := .inl 1) rfl (fun _ => rfl) l56_3 rfl rfl ?_
    refine ex_go (S := (94, l56, [.inl 8, gx_r 399], t127, n, 0)) rfl (fun _ => rfl) rfl ?_
    refine ex_go (S := (95, l56, [.inl 8, gx_r 399, .inl 8, gx_r 399], t127, n, 0)) rfl (fun _ => rfl) rfl ?_
    refine gx_ag (v := .inl (σ 8)) (cb := fun c => Nat.beq c 0) rfl (fun _ => rfl) g127 rfl rfl k29 (by first | decide | omega) rfl ?_
    refine gx_ld (i := 4) (d := 0) (v := .inl (σ 8)) rfl (fun _ => rfl) hl56 rfl rfl ?_
    refine gx_isub rfl (by first | decide | omega) (by first | decide | omega) rfl ?_
    refine gx_ap rfl (fun _ => rfl) g127 rfl rfl rfl (show 8 < 1035 from by omega) rfl (ai_in_h (by first | decide | omega) (by first | decide | omega) (by first | decide | omega)) rfl (fun t157 g157 k157 e157 => ?_)
    have k58 : ai_hv t157 399 0 = some (.inl (σ 0)) := (e157 399 0 (by first | decide | omega)).trans k28
    have k59 : ai_hv t157 399 12 = some (.inl (σ 12)) := (e157 399 12 (by first | decide | omega)).trans k30
    have k60 : ai_hv t157 399 14 = some (.inl (σ 14)) := (e157 399 14 (by first | decide | omega)).trans k31
    have k61 : ai_hv t157 399 16 = some (.inl 0) := (e157 399 16 (by first | decide | omega)).trans k32
    refine gx_ld (i := 2) (d := 0) (v := .inl e) rfl (fun _ => rfl) l56_2 rfl rfl ?_
    refine gx_ld (i := 4) (d := 0) (v := .inl (σ 8)) rfl (fun _ => rfl) hl56 rfl rfl ?_
    refine ex_iadd rfl (by first | decide | omega) rfl ?_
    refine gx_sto (i := 2) (d := 0) rfl (fun _ => rfl) rfl rfl (fun l62 hl62 ml62 => ?_)
    have l62_0 : en_ld l62 0 = some (gx_r 383) := ml62 0 _ l56_0 rfl
    have l62_1 : en_ld l62 1 = some (.inl 0) := ml62 1 _ l56_1 rfl
    have l62_3 : en_ld l62 3 = some (.inl 1) := ml62 3 _ l56_3 rfl
    have l62_4 : en_ld l62 4 = some (.inl (σ 8)) := ml62 4 _ hl56 rfl
    refine gx_ld (i := 0) (d := 2) (v := gx_r 383) rfl (fun _ => rfl) l62_0 rfl rfl ?_
    refine gx_ref (c := 399) rfl g157 rfl rfl rfl rfl ?_
    refine gx_ld (i := 1) (d := 0) (v := .inl 0) rfl (fun _ => rfl) l62_1 rfl rfl ?_
    refine ex_go (S := (112, l62, [.inl 13, .inl 0, gx_r 399], t157, n, 0)) rfl (fun _ => rfl) rfl ?_
    refine ex_go (S := (113, l62, [.inl 13, gx_r 399], t157, n, 0)) rfl (fun _ => rfl) rfl ?_
    refine gx_ld (i := 3) (d := 0) (v := .inl 1) rfl (fun _ => rfl) l62_3 rfl rfl ?_
    refine ex_go (S := (115, l62, [.inl 14, gx_r 399], t157, n, 0)) rfl (fun _ => rfl) rfl ?_
    refine gx_ld (i := 0) (d := 2) (v := gx_r 383) rfl (fun _ => rfl) l62_0 rfl rfl ?_
    refine gx_ref (c := 399) rfl g157 rfl rfl rfl rfl ?_
    refine gx_ld (i := 1) (d := 0) (v := .inl 0) rfl (fun _ => rfl) l62_1 rfl rfl ?_
    refine ex_go (S := (122, l62, [.inl 11, .inl 0, gx_r 399, .inl 14, gx_r 399], t157, n, 0)) rfl (fun _ => rfl) rfl ?_
    refine ex_go (S := (123, l62, [.inl 11, gx_r 399, .inl 14, gx_r 399], t157, n, 0)) rfl (fun _ => rfl) rfl ?_
    refine gx_ld (i := 3) (d := 0) (v := .inl 1) rfl (fun _ => rfl) l62_3 rfl rfl ?_
    refine ex_go (S := (125, l62, [.inl 12, gx_r 399, .inl 14, gx_r 399], t157, n, 0)) rfl (fun _ => rfl) rfl ?_
    refine gx_ag (v := .inl (σ 12)) (cb := fun c => Nat.beq c 0) rfl (fun _ => rfl) g157 rfl rfl k59 (by first | decide | omega) rfl ?_
    refine ex_go (S := (127, l62, [.inl 1, .inl (σ 12), .inl 14, gx_r 399], t157, n, 0)) rfl (fun _ => rfl) rfl ?_
    by_cases hc63 : σ 12 ≠ 1
    · refine gx_2t (c := .ne) rfl (by first | decide | omega) (by first | decide | omega) hc63 rfl ?_
      refine ex_go (S := (149, l62, [.inl 0, .inl 14, gx_r 399], t157, n, 0)) rfl (fun _ => rfl) rfl ?_
      refine gx_ap rfl (fun _ => rfl) g157 rfl rfl rfl (show 14 < 1035 from by omega) rfl (ai_in_h (by first | decide | omega) (by first | decide | omega) (by first | decide | omega)) rfl (fun t164 g164 k164 e164 => ?_)
      have k65 : ai_hv t164 399 0 = some (.inl (σ 0)) := (e164 399 0 (by first | decide | omega)).trans k58
      have k66 : ai_hv t164 399 12 = some (.inl (σ 12)) := (e164 399 12 (by first | decide | omega)).trans k59
      have k67 : ai_hv t164 399 16 = some (.inl 0) := (e164 399 16 (by first | decide | omega)).trans k61
      have k68 : ai_hv t164 399 8 = some (.inl ((σ 8) - (σ 8))) := (e164 399 8 (by first | decide | omega)).trans k157
      refine gx_incS (i := 3) (a := 1) (x := 1) rfl (fun _ => rfl) l62_3 (by first | decide | omega) rfl (fun l69 hl69 ml69 => ?_)
      have l69_0 : en_ld l69 0 = some (gx_r 383) := ml69 0 _ l62_0 rfl
      have l69_1 : en_ld l69 1 = some (.inl 0) := ml69 1 _ l62_1 rfl
      have l69_4 : en_ld l69 4 = some (.inl (σ 8)) := ml69 4 _ l62_4 rfl
      have l69_2 : en_ld l69 2 = some (.inl (e + (σ 8))) := ml69 2 _ hl62 rfl
      refine ex_go (S := (4, l69, [], t164, n, 0)) rfl (fun _ => rfl) rfl ?_
      have hm9 : meal w L σ 1 = σ 8 := by omega
      exact hQ _ t164 g164 (fun c i h => (e164 c i (by first | decide | omega)).trans ((e157 c i (by first | decide | omega)).trans ((e127 c i (by first | decide | omega)).trans (e122 c i (by first | decide | omega))))) k67 (by rw [hm9]; exact k68) (by rw [if_neg (by first | decide | omega)]; exact k164) l69_0 l69_1 (by rw [hm9]; exact l69_2) hl69
    · refine gx_2f (c := .ne) rfl (by first | decide | omega) (by first | decide | omega) hc63 rfl ?_
      refine gx_ld (i := 0) (d := 2) (v := gx_r 383) rfl (fun _ => rfl) l62_0 rfl rfl ?_
      refine gx_ld (i := 0) (d := 2) (v := gx_r 383) rfl (fun _ => rfl) l62_0 rfl rfl ?_
      refine gx_ref (c := 399) rfl g157 rfl rfl rfl rfl ?_
      refine gx_ld (i := 1) (d := 0) (v := .inl 0) rfl (fun _ => rfl) l62_1 rfl rfl ?_
      refine ex_go (S := (138, l62, [.inl 13, .inl 0, gx_r 399, gx_r 383, .inl 14, gx_r 399], t157, n, 0)) rfl (fun _ => rfl) rfl ?_
      refine ex_go (S := (139, l62, [.inl 13, gx_r 399, gx_r 383, .inl 14, gx_r 399], t157, n, 0)) rfl (fun _ => rfl) rfl ?_
      refine gx_ld (i := 3) (d := 0) (v := .inl 1) rfl (fun _ => rfl) l62_3 rfl rfl ?_
      refine ex_go (S := (141, l62, [.inl 14, gx_r 399, gx_r 383, .inl 14, gx_r 399], t157, n, 0)) rfl (fun _ => rfl) rfl ?_
      refine gx_ag (v := .inl (σ 14)) (cb := fun c => Nat.beq c 0) rfl (fun _ => rfl) g157 rfl rfl k60 (by first | decide | omega) rfl ?_
      obtain ⟨_, r70, rfl⟩ := sr_flowsTo (d + 1) n (p := (σ 14)) g157 (RW_keep hR (fun i hi => (e157 389 i (by first | decide | omega)).trans ((e127 389 i (by first | decide | omega)).trans (e122 389 i (by first | decide | omega)))) (fun c i hc _ => (e157 c i (by first | decide | omega)).trans ((e127 c i (by first | decide | omega)).trans (e122 c i (by first | decide | omega))))) (by first | decide | omega)
      have hfl := nb_lt (O := w 0 0) (D := w 0 1) (p := σ 14) (s := w 1 (σ 14)) (by first | decide | omega) hR.2.1.1 hR.2.1.2.1
      have hfl : fto w (σ 14) < 64 := hfl
      refine gx_call1 rfl rfl g157 rfl rfl r70 rfl ?_
      show en_ex _ _ _ _ (145, l62, [.inl (fto w (σ 14)), .inl 14, gx_r 399], t157, n, 0) _
      refine ex_go (S := (149, l62, [.inl (fto w (σ 14)), .inl 14, gx_r 399], t157, n, 0)) rfl (fun _ => rfl) rfl ?_
      refine gx_ap rfl (fun _ => rfl) g157 rfl rfl rfl (show 14 < 1035 from by omega) rfl (ai_in_h (by first | decide | omega) (by first | decide | omega) (by first | decide | omega)) rfl (fun t171 g171 k171 e171 => ?_)
      have k72 : ai_hv t171 399 0 = some (.inl (σ 0)) := (e171 399 0 (by first | decide | omega)).trans k58
      have k73 : ai_hv t171 399 12 = some (.inl (σ 12)) := (e171 399 12 (by first | decide | omega)).trans k59
      have k74 : ai_hv t171 399 16 = some (.inl 0) := (e171 399 16 (by first | decide | omega)).trans k61
      have k75 : ai_hv t171 399 8 = some (.inl ((σ 8) - (σ 8))) := (e171 399 8 (by first | decide | omega)).trans k157
      refine gx_incS (i := 3) (a := 1) (x := 1) rfl (fun _ => rfl) l62_3 (by first | decide | omega) rfl (fun l76 hl76 ml76 => ?_)
      have l76_0 : en_ld l76 0 = some (gx_r 383) := ml76 0 _ l62_0 rfl
      have l76_1 : en_ld l76 1 = some (.inl 0) := ml76 1 _ l62_1 rfl
      have l76_4 : en_ld l76 4 = some (.inl (σ 8)) := ml76 4 _ l62_4 rfl
      have l76_2 : en_ld l76 2 = some (.inl (e + (σ 8))) := ml76 2 _ hl62 rfl
      refine ex_go (S := (4, l76, [], t171, n, 0)) rfl (fun _ => rfl) rfl ?_
      have hm9 : meal w L σ 1 = σ 8 := by omega
      exact hQ _ t171 g171 (fun c i h => (e171 c i (by first | decide | omega)).trans ((e157 c i (by first | decide | omega)).trans ((e127 c i (by first | decide | omega)).trans (e122 c i (by first | decide | omega))))) k74 (by rw [hm9]; exact k75) (by rw [if_pos (by first | decide | omega)]; exact k171) l76_0 l76_1 (by rw [hm9]; exact l76_2) hl76
theorem sr_pt0 (d n : Nat) {tb : en_H} {w : Nat → Nat → Nat} {L : List Nat} {P : Nat → Nat} {e : Nat} {Q : en_O → Prop} (hR : RW tb w L) (hP : ∀ i, i < 6 → P i ≤ 63) (hQ : ∀ cl t1, ai_HG ah_G t1 → (∀ c i, ¬ (c = 399 ∧ 1 ≤ i ∧ i ≤ 6) → ai_hv t1 c i = ai_hv tb c i) → (∀ i, i < 6 → ai_hv t1 399 (1 + i) = some (.inl (if i < w 0 2 then fto w (P i) else P i))) → en_ld cl 0 = some (gx_r 383) → en_ld cl 1 = some (.inl 0) → en_ld cl 2 = some (.inl e) → en_ex none (en_u (d + 4)) (en_code 116) (fun _ => false) (196, cl, [], t1, n, 0) Q) : ∀ j k cl t0, k + j = w 0 2 → ai_HG ah_G t0 → (∀ c i, ¬ (c = 399 ∧ 1 ≤ i ∧ i ≤ 6) → ai_hv t0 c i = ai_hv tb c i) → (∀ i, i < 6 → ai_hv t0 399 (1 + i) = some (.inl (if i < k then fto w (P i) else P i))) → en_ld cl 0 = some (gx_r 383) → en_ld cl 1 = some (.inl 0) → en_ld cl 2 = some (.inl e) → en_ld cl 3 = some (.inl k) → en_ex none (en_u (d + 4)) (en_code 116) (fun _ => false) (158, cl, [], t0, n, 0) Q := by
  have hT := hR.2.1.2.2.1
  intro j
  induction j with
  | zero =>
    intro k cl t0 hk g0 e0 i0 l0 l1 l2 l3
    have hk : k = w 0 2 := by omega
    have kT := (e0 389 2 (by first | decide | omega)).trans (hR.1 2 (by first | decide | omega))
    refine gx_ld (i := 3) (d := 0) (v := .inl k) rfl (fun _ => rfl) l3 rfl rfl ?_
    refine gx_ld (i := 0) (d := 2) (v := gx_r 383) rfl (fun _ => rfl) l0 rfl rfl ?_
    obtain ⟨_, r21, rfl⟩ := sr_things (d + 3) n g0 kT
    refine gx_call1 rfl rfl g0 rfl rfl r21 rfl ?_
    show en_ex _ _ _ _ (163, cl, [.inl (w 0 2), .inl k], t0, n, 0) _
    refine gx_2t (c := .ge) rfl (by first | decide | omega) (by first | decide | omega) (show w 0 2 ≤ k from by omega) rfl ?_
    rw [hk] at i0
    exact hQ _ t0 g0 e0 i0 l0 l1 l2
  | succ j ih =>
    intro k cl t0 hk g0 e0 i0 l0 l1 l2 l3
    have kT := (e0 389 2 (by first | decide | omega)).trans (hR.1 2 (by first | decide | omega))
    have kp := i0 k (by first | decide | omega)
    rw [if_neg (by first | decide | omega)] at kp
    have hp := hP k (by first | decide | omega)
    have hfl := nb_lt (O := w 0 0) (D := w 0 1) (p := P k) (s := w 1 (P k)) (by first | decide | omega) hR.2.1.1 hR.2.1.2.1
    have hfl : fto w (P k) < 64 := hfl
    refine gx_ld (i := 3) (d := 0) (v := .inl k) rfl (fun _ => rfl) l3 rfl rfl ?_
    refine gx_ld (i := 0) (d := 2) (v := gx_r 383) rfl (fun _ => rfl) l0 rfl rfl ?_
    obtain ⟨_, r21, rfl⟩ := sr_things (d + 3) n g0 kT
    refine gx_call1 rfl rfl g0 rfl rfl r21 rfl ?_
    show en_ex _ _ _ _ (163, cl, [.inl (w 0 2), .inl k], t0, n, 0) _
    refine gx_2f (c := .ge) rfl (by first | decide | omega) (by first | decide | omega) (show ¬ (w 0 2 ≤ k) from by omega) rfl ?_
    refine gx_ld (i := 0) (d := 2) (v := gx_r 383) rfl (fun _ => rfl) l0 rfl rfl ?_
    refine gx_ref (c := 399) rfl g0 rfl rfl rfl rfl ?_
    refine gx_ld (i := 1) (d := 0) (v := .inl 0) rfl (fun _ => rfl) l1 rfl rfl ?_
    refine ex_go (S := (172, cl, [.inl 1, .inl 0, gx_r 399], t0, n, 0)) rfl (fun _ => rfl) rfl ?_
    refine ex_go (S := (173, cl, [.inl 1, gx_r 399], t0, n, 0)) rfl (fun _ => rfl) rfl ?_
    refine gx_ld (i := 3) (d := 0) (v := .inl k) rfl (fun _ => rfl) l3 rfl rfl ?_
    refine ex_iadd rfl (by first | decide | omega) rfl ?_
    refine gx_ld (i := 0) (d := 2) (v := gx_r 383) rfl (fun _ => rfl) l0 rfl rfl ?_
    refine gx_ld (i := 0) (d := 2) (v := gx_r 383) rfl (fun _ => rfl) l0 rfl rfl ?_
    refine gx_ref (c := 399) rfl g0 rfl rfl rfl rfl ?_
    refine gx_ld (i := 1) (d := 0) (v := .inl 0) rfl (fun _ => rfl) l1 rfl rfl ?_
    refine ex_go (S := (182, cl, [.inl 1, .inl 0, gx_r 399, gx_r 383, .inl (1 + k), gx_r 399], t0, n, 0)) rfl (fun _ => rfl) rfl ?_
    refine ex_go (S := (183, cl, [.inl 1, gx_r 399, gx_r 383, .inl (1 + k), gx_r 399], t0, n, 0)) rfl (fun _ => rfl) rfl ?_
    refine gx_ld (i := 3) (d := 0) (v := .inl k) rfl (fun _ => rfl) l3 rfl rfl ?_
    refine ex_iadd rfl (by first | decide | omega) rfl ?_
    refine gx_ag (v := .inl (P k)) (cb := fun c => Nat.beq c 0) rfl (fun _ => rfl) g0 rfl rfl kp (by first | decide | omega) rfl ?_
    obtain ⟨_, r22, rfl⟩ := sr_flowsTo (d + 1) n (p := P k) g0 (RW_keep hR (fun i hi => e0 389 i (by first | decide | omega)) (fun c i hc _ => e0 c i (by first | decide | omega))) (by first | decide | omega)
    refine gx_call1 rfl rfl g0 rfl rfl r22 rfl ?_
    show en_ex _ _ _ _ (189, cl, [.inl (fto w (P k)), .inl (1 + k), gx_r 399], t0, n, 0) _
    refine gx_ap rfl (fun _ => rfl) g0 rfl rfl rfl (show 1 + k < 1035 from by omega) (gx_at (rs := ah_399.2.2.2) (b := 1) (st := 1) (lo := 2147483648) (hi := 2147483711) (m := 6) (by decide +kernel) k (by first | decide | omega) (by first | decide | omega)) (ai_in_h (by first | decide | omega) (by first | decide | omega) (by first | decide | omega)) rfl (fun t123 g123 k123 e123 => ?_)
    refine gx_incS (i := 3) (a := k) (x := 1) rfl (fun _ => rfl) l3 (by first | decide | omega) rfl (fun l24 hl24 ml24 => ?_)
    have l24_0 : en_ld l24 0 = some (gx_r 383) := ml24 0 _ l0 rfl
    have l24_1 : en_ld l24 1 = some (.inl 0) := ml24 1 _ l1 rfl
    have l24_2 : en_ld l24 2 = some (.inl e) := ml24 2 _ l2 rfl
    refine ex_go (S := (158, l24, [], t123, n, 0)) rfl (fun _ => rfl) rfl ?_
    refine ih (k + 1) _ t123 (by first | decide | omega) g123 (fun c i h => (e123 c i (by first | decide | omega)).trans (e0 c i h)) (fun i hi => ?_) l24_0 l24_1 l24_2 hl24
    by_cases e9 : i = k
    · subst e9
      rw [if_pos (by first | decide | omega)]
      exact k123
    · refine (e123 399 (1 + i) (by first | decide | omega)).trans ((i0 i hi).trans ?_)
      by_cases c9 : i < k
      · rw [if_pos c9, if_pos (by first | decide | omega)]
      · rw [if_neg c9, if_neg (by first | decide | omega)]
theorem sr_bd0 {t : en_H} {σ : Nat → Nat} (g : ai_HG ah_G t) (h : ∀ j, j < 17 → ai_hv t 399 (0 + j) = some (.inl (σ j))) : sbd σ := by
  refine ⟨fun i hi => ?_, ⟨?_, ?_⟩, ⟨?_, ?_⟩, ⟨?_, ?_⟩, ⟨?_, ?_⟩, ?_, ?_, ?_⟩
  · obtain ⟨m, k, -, h2⟩ := gx_inb (c := 399) (i := 0 + (1 + i)) (lo := 0) (hi := 63) g rfl (show 0 + (1 + i) < 1035 by omega) (gx_at (rs := ah_399.2.2.2) (b := 1) (st := 1) (lo := 2147483648) (hi := 2147483711) (m := 6) (by decide +kernel) i hi (by first | decide | omega)) (by decide) (by decide) rfl
    have e9 : σ (1 + i) = m := Sum.inl.inj (Option.some.inj ((h (1 + i) (by first | decide | omega)).symm.trans k))
    omega
  · obtain ⟨m, k, -, h2⟩ := gx_in (c := 399) (i := 7) (lo := 0) (hi := 19998) g rfl rfl rfl rfl
    have e9 : σ 7 = m := Sum.inl.inj (Option.some.inj ((h 7 (by first | decide | omega)).symm.trans k))
    omega
  · obtain ⟨m, k, -, h2⟩ := gx_in (c := 399) (i := 8) (lo := 0) (hi := 19998) g rfl rfl rfl rfl
    have e9 : σ 8 = m := Sum.inl.inj (Option.some.inj ((h 8 (by first | decide | omega)).symm.trans k))
    omega
  · obtain ⟨m, k, -, h2⟩ := gx_in (c := 399) (i := 11) (lo := 0) (hi := 1) g rfl rfl rfl rfl
    have e9 : σ 11 = m := Sum.inl.inj (Option.some.inj ((h 11 (by first | decide | omega)).symm.trans k))
    omega
  · obtain ⟨m, k, -, h2⟩ := gx_in (c := 399) (i := 12) (lo := 0) (hi := 1) g rfl rfl rfl rfl
    have e9 : σ 12 = m := Sum.inl.inj (Option.some.inj ((h 12 (by first | decide | omega)).symm.trans k))
    omega
  · obtain ⟨m, k, -, h2⟩ := gx_in (c := 399) (i := 13) (lo := 0) (hi := 63) g rfl rfl rfl rfl
    have e9 : σ 13 = m := Sum.inl.inj (Option.some.inj ((h 13 (by first | decide | omega)).symm.trans k))
    omega
  · obtain ⟨m, k, -, h2⟩ := gx_in (c := 399) (i := 14) (lo := 0) (hi := 63) g rfl rfl rfl rfl
    have e9 : σ 14 = m := Sum.inl.inj (Option.some.inj ((h 14 (by first | decide | omega)).symm.trans k))
    omega
  · obtain ⟨m, k, -, h2⟩ := gx_in (c := 399) (i := 15) (lo := 0) (hi := 1) g rfl rfl rfl rfl
    have e9 : σ 15 = m := Sum.inl.inj (Option.some.inj ((h 15 (by first | decide | omega)).symm.trans k))
    omega
  · obtain ⟨m, k, -, h2⟩ := gx_in (c := 399) (i := 16) (lo := 0) (hi := 1) g rfl rfl rfl rfl
    have e9 : σ 16 = m := Sum.inl.inj (Option.some.inj ((h 16 (by first | decide | omega)).symm.trans k))
    omega
  · obtain ⟨m, k, h2⟩ := gx_any (c := 399) (i := 0) g rfl rfl rfl
    have e9 : σ 0 = m := Sum.inl.inj (Option.some.inj ((h 0 (by first | decide | omega)).symm.trans k))
    omega
  · obtain ⟨m, k, h2⟩ := gx_any (c := 399) (i := 9) g rfl rfl rfl
    have e9 : σ 9 = m := Sum.inl.inj (Option.some.inj ((h 9 (by first | decide | omega)).symm.trans k))
    omega
  · obtain ⟨m, k, h2⟩ := gx_any (c := 399) (i := 10) g rfl rfl rfl
    have e9 : σ 10 = m := Sum.inl.inj (Option.some.inj ((h 10 (by first | decide | omega)).symm.trans k))
    omega
theorem sr_passes0 (d n : Nat) {t0 : en_H} {w : Nat → Nat → Nat} {L : List Nat} {σ : Nat → Nat} (g0 : ai_HG ah_G t0) (hR : RW t0 w L) (hσ : ∀ j, j < 17 → ai_hv t0 399 (0 + j) = some (.inl (σ j))) : ∃ r, en_u (d + 5) 116 [gx_r 383, .inl 0] t0 n = some r ∧ ∃ t', r = (some (.inl (eaten w L σ)), t', n, 0) ∧ ai_HG ah_G t' ∧ (∀ c i, ¬ ((c = 399 ∧ 0 ≤ i ∧ i < 17) ∨ (c = 397 ∧ i < 3) ∨ c = 398) → ai_hv t' c i = ai_hv t0 c i) ∧ ∀ j, j < 17 → ai_hv t' 399 (0 + j) = some (.inl (stp w L σ j)) := by
  obtain ⟨hb1, ⟨hb7, hb8⟩, ⟨hb11, hb12⟩, ⟨hb13, hb14⟩, -, hb0, -, -⟩ := sr_bd0 g0 hσ
  have kK := hR.1 4 (by first | decide | omega)
  have kT := hR.1 2 (by first | decide | omega)
  have hm0 := meal_le (w := w) (L := L) (σ := σ) (c := 0)
  have hm1 := meal_le (w := w) (L := L) (σ := σ) (c := 1)
  have q0 : ai_hv t0 399 0 = some (.inl (σ 0)) := hσ 0 (by first | decide | omega)
  have q7 : ai_hv t0 399 7 = some (.inl (σ 7)) := hσ 7 (by first | decide | omega)
  have q8 : ai_hv t0 399 8 = some (.inl (σ 8)) := hσ 8 (by first | decide | omega)
  have q9 : ai_hv t0 399 9 = some (.inl (σ 9)) := hσ 9 (by first | decide | omega)
  have q10 : ai_hv t0 399 10 = some (.inl (σ 10)) := hσ 10 (by first | decide | omega)
  have q11 : ai_hv t0 399 11 = some (.inl (σ 11)) := hσ 11 (by first | decide | omega)
  have q12 : ai_hv t0 399 12 = some (.inl (σ 12)) := hσ 12 (by first | decide | omega)
  have q13 : ai_hv t0 399 13 = some (.inl (σ 13)) := hσ 13 (by first | decide | omega)
  have q14 : ai_hv t0 399 14 = some (.inl (σ 14)) := hσ 14 (by first | decide | omega)
  have q15 : ai_hv t0 399 15 = some (.inl (σ 15)) := hσ 15 (by first | decide | omega)
  have q16 : ai_hv t0 399 16 = some (.inl (σ 16)) := hσ 16 (by first | decide | omega)
  have hK := hR.2.1.2.2.2.2.1
  rcases (show w 0 4 = 0 ∨ w 0 4 = 1 ∨ w 0 4 = 2 by omega) with hK9 | hK9 | hK9
  · refine en_u_ex (d := d + 4) rfl ?_
    show en_ex _ _ _ _ (0, [(0, gx_r 383), (1, .inl 0)], [], t0, n, 0) _
    refine ex_go (S := (1, [(0, gx_r 383), (1, .inl 0)], [.inl 0], t0, n, 0)) rfl (fun _ => rfl) rfl ?_
    refine ex_go (S := (2, [(2, .inl 0), (0, gx_r 383), (1, .inl 0)], [], t0, n, 0)) rfl (fun _ => rfl) rfl ?_
    refine ex_go (S := (3, [(2, .inl 0), (0, gx_r 383), (1, .inl 0)], [.inl 0], t0, n, 0)) rfl (fun _ => rfl) rfl ?_
    refine ex_go (S := (4, [(3, .inl 0), (2, .inl 0), (0, gx_r 383), (1, .inl 0)], [], t0, n, 0)) rfl (fun _ => rfl) rfl ?_
    refine ex_go (S := (5, [(3, .inl 0), (2, .inl 0), (0, gx_r 383), (1, .inl 0)], [.inl 0], t0, n, 0)) rfl (fun _ => rfl) rfl ?_
    refine ex_go (S := (6, [(3, .inl 0), (2, .inl 0), (0, gx_r 383), (1, .inl 0)], [gx_r 383, .inl 0], t0, n, 0)) rfl (fun _ => rfl) rfl ?_
    obtain ⟨_, r21, rfl⟩ := sr_crews (d + 3) n g0 (by have h9 := kK; rw [hK9] at h9; exact h9)
    refine gx_call1 rfl rfl g0 rfl rfl r21 rfl ?_
    show en_ex _ _ _ _ (9, [(3, .inl 0), (2, .inl 0), (0, gx_r 383), (1, .inl 0)], [.inl 0, .inl 0], t0, n, 0) _
    refine ex_go (S := (156, [(3, .inl 0), (2, .inl 0), (0, gx_r 383), (1, .inl 0)], [], t0, n, 0)) rfl (fun _ => rfl) rfl ?_
    refine ex_go (S := (157, [(3, .inl 0), (2, .inl 0), (0, gx_r 383), (1, .inl 0)], [.inl 0], t0, n, 0)) rfl (fun _ => rfl) rfl ?_
    refine ex_go (S := (158, [(3, .inl 0), (2, .inl 0), (0, gx_r 383), (1, .inl 0)], [], t0, n, 0)) rfl (fun _ => rfl) rfl ?_
    refine sr_pt0 d n (tb := t0) (w := w) (L := L) (P := fun i => σ (1 + i)) (e := 0) hR hb1 (fun cl122 t122 g122 e122 i122 l1220 l1221 l1222 => ?_) (w 0 2) 0 _ _ (by first | decide | omega) g0 (fun _ _ _ => rfl) (fun i hi => ?_) rfl rfl rfl rfl
    · have k23 : ai_hv t122 399 0 = some (.inl (σ 0)) := (e122 399 0 (by first | decide | omega)).trans q0
      have k24 : ai_hv t122 399 7 = some (.inl (σ 7)) := (e122 399 7 (by first | decide | omega)).trans q7
      have k25 : ai_hv t122 399 8 = some (.inl (σ 8)) := (e122 399 8 (by first | decide | omega)).trans q8
      have k26 : ai_hv t122 399 9 = some (.inl (σ 9)) := (e122 399 9 (by first | decide | omega)).trans q9
      have k27 : ai_hv t122 399 10 = some (.inl (σ 10)) := (e122 399 10 (by first | decide | omega)).trans q10
      have k28 : ai_hv t122 399 11 = some (.inl (σ 11)) := (e122 399 11 (by first | decide | omega)).trans q11
      have k29 : ai_hv t122 399 12 = some (.inl (σ 12)) := (e122 399 12 (by first | decide | omega)).trans q12
      have k30 : ai_hv t122 399 13 = some (.inl (σ 13)) := (e122 399 13 (by first | decide | omega)).trans q13
      have k31 : ai_hv t122 399 14 = some (.inl (σ 14)) := (e122 399 14 (by first | decide | omega)).trans q14
      have k32 : ai_hv t122 399 15 = some (.inl (σ 15)) := (e122 399 15 (by first | decide | omega)).trans q15
      have k33 : ai_hv t122 399 16 = some (.inl (σ 16)) := (e122 399 16 (by first | decide | omega)).trans q16
      refine gx_ld (i := 0) (d := 2) (v := gx_r 383) rfl (fun _ => rfl) l1220 rfl rfl ?_
      refine gx_ref (c := 399) rfl g122 rfl rfl rfl rfl ?_
      refine gx_ld (i := 1) (d := 0) (v := .inl 0) rfl (fun _ => rfl) l1221 rfl rfl ?_
      refine ex_go (S := (202, cl122, [.inl 0, .inl 0, gx_r 399], t122, n, 0)) rfl (fun _ => rfl) rfl ?_
      refine ex_go (S := (203, cl122, [.inl 0, gx_r 399], t122, n, 0)) rfl (fun _ => rfl) rfl ?_
      refine ex_go (S := (204, cl122, [.inl 0, gx_r 399, .inl 0, gx_r 399], t122, n, 0)) rfl (fun _ => rfl) rfl ?_
      refine gx_ag (v := .inl (σ 0)) (cb := fun c => Nat.beq c 0) rfl (fun _ => rfl) g122 rfl rfl k23 (by first | decide | omega) rfl ?_
      refine ex_go (S := (206, cl122, [.inl 1, .inl (σ 0), .inl 0, gx_r 399], t122, n, 0)) rfl (fun _ => rfl) rfl ?_
      have hw34 : en_wrap ((σ 0) + 1) < 4294967296 := wrap_lt
      refine gs_iaddx rfl rfl ?_
      refine gx_ap rfl (fun _ => rfl) g122 rfl rfl rfl (show 0 < 1035 from by omega) rfl (gx_full (by first | decide | omega)) rfl (fun t135 g135 k135 e135 => ?_)
      have k36 : ai_hv t135 399 7 = some (.inl (σ 7)) := (e135 399 7 (by first | decide | omega)).trans k24
      have k37 : ai_hv t135 399 8 = some (.inl (σ 8)) := (e135 399 8 (by first | decide | omega)).trans k25
      have k38 : ai_hv t135 399 9 = some (.inl (σ 9)) := (e135 399 9 (by first | decide | omega)).trans k26
      have k39 : ai_hv t135 399 10 = some (.inl (σ 10)) := (e135 399 10 (by first | decide | omega)).trans k27
      have k40 : ai_hv t135 399 11 = some (.inl (σ 11)) := (e135 399 11 (by first | decide | omega)).trans k28
      have k41 : ai_hv t135 399 12 = some (.inl (σ 12)) := (e135 399 12 (by first | decide | omega)).trans k29
      have k42 : ai_hv t135 399 13 = some (.inl (σ 13)) := (e135 399 13 (by first | decide | omega)).trans k30
      have k43 : ai_hv t135 399 14 = some (.inl (σ 14)) := (e135 399 14 (by first | decide | omega)).trans k31
      have k44 : ai_hv t135 399 15 = some (.inl (σ 15)) := (e135 399 15 (by first | decide | omega)).trans k32
      have k45 : ai_hv t135 399 16 = some (.inl (σ 16)) := (e135 399 16 (by first | decide | omega)).trans k33
      refine gx_ld (i := 2) (d := 0) (v := .inl 0) rfl (fun _ => rfl) l1222 rfl rfl ?_
      refine ex_ret (r := (some (.inl 0), t135, n, 0)) rfl (fun _ => rfl) ?_
      have he9 : eaten w L σ = 0 := by unfold eaten; rw [hK9]; rfl
      refine ⟨_, rfl, t135, by rw [he9], g135, (fun c i h => (e135 c i (by first | decide | omega)).trans (e122 c i (by first | decide | omega))), fun j hj => ?_⟩
      rcases (show j = 0 ∨ (1 ≤ j ∧ j ≤ 6) ∨ j = 7 ∨ j = 8 ∨ j = 9 ∨ j = 10 ∨ j = 11 ∨ j = 12 ∨ j = 13 ∨ j = 14 ∨ j = 15 ∨ j = 16 by omega) with rfl | hj6 | rfl | rfl | rfl | rfl | rfl | rfl | rfl | rfl | rfl | rfl
      · rw [stp_0]; exact k135
      · obtain ⟨i, rfl, hi⟩ : ∃ i, j = 1 + i ∧ i < 6 := ⟨j - 1, by omega, by omega⟩
        rw [stp_pl hi, show 0 + (1 + i) = 1 + i by omega]
        exact (e135 399 (1 + i) (by first | decide | omega)).trans (i122 i hi)
      · rw [show (7 : Nat) = 7 + 0 from rfl, stp_bi (by decide), if_neg (by first | decide | omega)]; exact k36
      · rw [show (8 : Nat) = 7 + 1 from rfl, stp_bi (by decide), if_neg (by first | decide | omega)]; exact k37
      · rw [stp_mid (by decide) (by decide)]; exact k38
      · rw [stp_mid (by decide) (by decide)]; exact k39
      · rw [stp_mid (by decide) (by decide)]; exact k40
      · rw [stp_mid (by decide) (by decide)]; exact k41
      · rw [show (13 : Nat) = 13 + 0 from rfl, stp_sl (by decide), if_neg (by first | decide | omega)]; exact k42
      · rw [show (14 : Nat) = 13 + 1 from rfl, stp_sl (by decide), if_neg (by first | decide | omega)]; exact k43
      · rw [show (15 : Nat) = 15 + 0 from rfl, stp_ha (by decide), if_neg (by first | decide | omega)]; exact k44
      · rw [show (16 : Nat) = 15 + 1 from rfl, stp_ha (by decide), if_neg (by first | decide | omega)]; exact k45
    · rw [if_neg (Nat.not_lt_zero i)]
      exact (show ai_hv t0 399 (1 + i) = some (.inl (σ (1 + i))) from by have h9 := hσ (1 + i) (by first | decide | omega); rw [show 0 + (1 + i) = 1 + i by omega] at h9; exact h9)
  · refine en_u_ex (d := d + 4) rfl ?_
    show en_ex _ _ _ _ (0, [(0, gx_r 383), (1, .inl 0)], [], t0, n, 0) _
    refine ex_go (S := (1, [(0, gx_r 383), (1, .inl 0)], [.inl 0], t0, n, 0)) rfl (fun _ => rfl) rfl ?_
    refine ex_go (S := (2, [(2, .inl 0), (0, gx_r 383), (1, .inl 0)], [], t0, n, 0)) rfl (fun _ => rfl) rfl ?_
    refine ex_go (S := (3, [(2, .inl 0), (0, gx_r 383), (1, .inl 0)], [.inl 0], t0, n, 0)) rfl (fun _ => rfl) rfl ?_
    refine ex_go (S := (4, [(3, .inl 0), (2, .inl 0), (0, gx_r 383), (1, .inl 0)], [], t0, n, 0)) rfl (fun _ => rfl) rfl ?_
    refine sr_pc0_0 d n (σ := σ) (e := 0) g0 hR (by first | decide | omega) q0 q7 q11 q13 hb0 hb7 hb11 hb13 (by first | decide | omega) rfl rfl rfl rfl (fun cl121 t121 g121 e121 a121 b121 c121 l1210 l1211 l1212 l1213 => ?_)
    have k22 : ai_hv t121 399 0 = some (.inl (σ 0)) := (e121 399 0 (by first | decide | omega)).trans q0
    have k23 : ai_hv t121 399 8 = some (.inl (σ 8)) := (e121 399 8 (by first | decide | omega)).trans q8
    have k24 : ai_hv t121 399 9 = some (.inl (σ 9)) := (e121 399 9 (by first | decide | omega)).trans q9
    have k25 : ai_hv t121 399 10 = some (.inl (σ 10)) := (e121 399 10 (by first | decide | omega)).trans q10
    have k26 : ai_hv t121 399 11 = some (.inl (σ 11)) := (e121 399 11 (by first | decide | omega)).trans q11
    have k27 : ai_hv t121 399 12 = some (.inl (σ 12)) := (e121 399 12 (by first | decide | omega)).trans q12
    have k28 : ai_hv t121 399 14 = some (.inl (σ 14)) := (e121 399 14 (by first | decide | omega)).trans q14
    have k29 : ai_hv t121 399 16 = some (.inl (σ 16)) := (e121 399 16 (by first | decide | omega)).trans q16
    refine gx_ld (i := 3) (d := 0) (v := .inl 1) rfl (fun _ => rfl) l1213 rfl rfl ?_
    refine gx_ld (i := 0) (d := 2) (v := gx_r 383) rfl (fun _ => rfl) l1210 rfl rfl ?_
    obtain ⟨_, r30, rfl⟩ := sr_crews (d + 3) n g121 (by have h9 := (e121 389 4 (by first | decide | omega)).trans (kK); rw [hK9] at h9; exact h9)
    refine gx_call1 rfl rfl g121 rfl rfl r30 rfl ?_
    show en_ex _ _ _ _ (9, cl121, [.inl 1, .inl 1], t121, n, 0) _
    refine ex_go (S := (156, cl121, [], t121, n, 0)) rfl (fun _ => rfl) rfl ?_
    refine ex_go (S := (157, cl121, [.inl 0], t121, n, 0)) rfl (fun _ => rfl) rfl ?_
    refine gx_sto (i := 3) (d := 0) rfl (fun _ => rfl) rfl rfl (fun l31 hl31 ml31 => ?_)
    have l31_0 : en_ld l31 0 = some (gx_r 383) := ml31 0 _ l1210 rfl
    have l31_1 : en_ld l31 1 = some (.inl 0) := ml31 1 _ l1211 rfl
    have l31_2 : en_ld l31 2 = some (.inl (0 + meal w L σ 0)) := ml31 2 _ l1212 rfl
    refine sr_pt0 d n (tb := t121) (w := w) (L := L) (P := fun i => σ (1 + i)) (e := 0 + meal w L σ 0) (RW_keep hR (fun i hi => e121 389 i (by first | decide | omega)) (fun c i hc _ => e121 c i (by first | decide | omega))) hb1 (fun cl132 t132 g132 e132 i132 l1320 l1321 l1322 => ?_) (w 0 2) 0 _ _ (by first | decide | omega) g121 (fun _ _ _ => rfl) (fun i hi => ?_) l31_0 l31_1 l31_2 hl31
    · have k33 : ai_hv t132 399 0 = some (.inl (σ 0)) := (e132 399 0 (by first | decide | omega)).trans k22
      have k34 : ai_hv t132 399 8 = some (.inl (σ 8)) := (e132 399 8 (by first | decide | omega)).trans k23
      have k35 : ai_hv t132 399 9 = some (.inl (σ 9)) := (e132 399 9 (by first | decide | omega)).trans k24
      have k36 : ai_hv t132 399 10 = some (.inl (σ 10)) := (e132 399 10 (by first | decide | omega)).trans k25
      have k37 : ai_hv t132 399 11 = some (.inl (σ 11)) := (e132 399 11 (by first | decide | omega)).trans k26
      have k38 : ai_hv t132 399 12 = some (.inl (σ 12)) := (e132 399 12 (by first | decide | omega)).trans k27
      have k39 : ai_hv t132 399 14 = some (.inl (σ 14)) := (e132 399 14 (by first | decide | omega)).trans k28
      have k40 : ai_hv t132 399 16 = some (.inl (σ 16)) := (e132 399 16 (by first | decide | omega)).trans k29
      have k41 : ai_hv t132 399 15 = some (.inl 0) := (e132 399 15 (by first | decide | omega)).trans a121
      have k42 : ai_hv t132 399 7 = some (.inl (σ 7 - meal w L σ 0)) := (e132 399 7 (by first | decide | omega)).trans b121
      have k43 : ai_hv t132 399 13 = some (.inl (if σ 11 = 1 then fto w (σ 13) else 0)) := (e132 399 13 (by first | decide | omega)).trans c121
      refine gx_ld (i := 0) (d := 2) (v := gx_r 383) rfl (fun _ => rfl) l1320 rfl rfl ?_
      refine gx_ref (c := 399) rfl g132 rfl rfl rfl rfl ?_
      refine gx_ld (i := 1) (d := 0) (v := .inl 0) rfl (fun _ => rfl) l1321 rfl rfl ?_
      refine ex_go (S := (202, cl132, [.inl 0, .inl 0, gx_r 399], t132, n, 0)) rfl (fun _ => rfl) rfl ?_
      refine ex_go (S := (203, cl132, [.inl 0, gx_r 399], t132, n, 0)) rfl (fun _ => rfl) rfl ?_
      refine ex_go (S := (204, cl132, [.inl 0, gx_r 399, .inl 0, gx_r 399], t132, n, 0)) rfl (fun _ => rfl) rfl ?_
      refine gx_ag (v := .inl (σ 0)) (cb := fun c => Nat.beq c 0) rfl (fun _ => rfl) g132 rfl rfl k33 (by first | decide | omega) rfl ?_
      refine ex_go (S := (206, cl132, [.inl 1, .inl (σ 0), .inl 0, gx_r 399], t132, n, 0)) rfl (fun _ => rfl) rfl ?_
      have hw44 : en_wrap ((σ 0) + 1) < 4294967296 := wrap_lt
      refine gs_iaddx rfl rfl ?_
      refine gx_ap rfl (fun _ => rfl) g132 rfl rfl rfl (show 0 < 1035 from by omega) rfl (gx_full (by first | decide | omega)) rfl (fun t145 g145 k145 e145 => ?_)
      have k46 : ai_hv t145 399 8 = some (.inl (σ 8)) := (e145 399 8 (by first | decide | omega)).trans k34
      have k47 : ai_hv t145 399 9 = some (.inl (σ 9)) := (e145 399 9 (by first | decide | omega)).trans k35
      have k48 : ai_hv t145 399 10 = some (.inl (σ 10)) := (e145 399 10 (by first | decide | omega)).trans k36
      have k49 : ai_hv t145 399 11 = some (.inl (σ 11)) := (e145 399 11 (by first | decide | omega)).trans k37
      have k50 : ai_hv t145 399 12 = some (.inl (σ 12)) := (e145 399 12 (by first | decide | omega)).trans k38
      have k51 : ai_hv t145 399 14 = some (.inl (σ 14)) := (e145 399 14 (by first | decide | omega)).trans k39
      have k52 : ai_hv t145 399 16 = some (.inl (σ 16)) := (e145 399 16 (by first | decide | omega)).trans k40
      have k53 : ai_hv t145 399 15 = some (.inl 0) := (e145 399 15 (by first | decide | omega)).trans k41
      have k54 : ai_hv t145 399 7 = some (.inl (σ 7 - meal w L σ 0)) := (e145 399 7 (by first | decide | omega)).trans k42
      have k55 : ai_hv t145 399 13 = some (.inl (if σ 11 = 1 then fto w (σ 13) else 0)) := (e145 399 13 (by first | decide | omega)).trans k43
      refine gx_ld (i := 2) (d := 0) (v := .inl (0 + meal w L σ 0)) rfl (fun _ => rfl) l1322 rfl rfl ?_
      refine ex_ret (r := (some (.inl (0 + meal w L σ 0)), t145, n, 0)) rfl (fun _ => rfl) ?_
      have he9 : eaten w L σ = 0 + meal w L σ 0 := by unfold eaten; rw [hK9]; rw [if_pos (by decide), if_neg (by decide)]; omega
      refine ⟨_, rfl, t145, by rw [he9], g145, (fun c i h => (e145 c i (by first | decide | omega)).trans ((e132 c i (by first | decide | omega)).trans (e121 c i (by first | decide | omega)))), fun j hj => ?_⟩
      rcases (show j = 0 ∨ (1 ≤ j ∧ j ≤ 6) ∨ j = 7 ∨ j = 8 ∨ j = 9 ∨ j = 10 ∨ j = 11 ∨ j = 12 ∨ j = 13 ∨ j = 14 ∨ j = 15 ∨ j = 16 by omega) with rfl | hj6 | rfl | rfl | rfl | rfl | rfl | rfl | rfl | rfl | rfl | rfl
      · rw [stp_0]; exact k145
      · obtain ⟨i, rfl, hi⟩ : ∃ i, j = 1 + i ∧ i < 6 := ⟨j - 1, by omega, by omega⟩
        rw [stp_pl hi, show 0 + (1 + i) = 1 + i by omega]
        exact (e145 399 (1 + i) (by first | decide | omega)).trans (i132 i hi)
      · rw [show (7 : Nat) = 7 + 0 from rfl, stp_bi (by decide), if_pos (by first | decide | omega)]; exact k54
      · rw [show (8 : Nat) = 7 + 1 from rfl, stp_bi (by decide), if_neg (by first | decide | omega)]; exact k46
      · rw [stp_mid (by decide) (by decide)]; exact k47
      · rw [stp_mid (by decide) (by decide)]; exact k48
      · rw [stp_mid (by decide) (by decide)]; exact k49
      · rw [stp_mid (by decide) (by decide)]; exact k50
      · rw [show (13 : Nat) = 13 + 0 from rfl, stp_sl (by decide), if_pos (by first | decide | omega)]; exact k55
      · rw [show (14 : Nat) = 13 + 1 from rfl, stp_sl (by decide), if_neg (by first | decide | omega)]; exact k51
      · rw [show (15 : Nat) = 15 + 0 from rfl, stp_ha (by decide), if_pos (by first | decide | omega)]; exact k53
      · rw [show (16 : Nat) = 15 + 1 from rfl, stp_ha (by decide), if_neg (by first | decide | omega)]; exact k52
    · rw [if_neg (Nat.not_lt_zero i)]
      exact (e121 399 (1 + i) (by first | decide | omega)).trans (show ai_hv t0 399 (1 + i) = some (.inl (σ (1 + i))) from by have h9 := hσ (1 + i) (by first | decide | omega); rw [show 0 + (1 + i) = 1 + i by omega] at h9; exact h9)
  · refine en_u_ex (d := d + 4) rfl ?_
    show en_ex _ _ _ _ (0, [(0, gx_r 383), (1, .inl 0)], [], t0, n, 0) _
    refine ex_go (S := (1, [(0, gx_r 383), (1, .inl 0)], [.inl 0], t0, n, 0)) rfl (fun _ => rfl) rfl ?_
    refine ex_go (S := (2, [(2, .inl 0), (0, gx_r 383), (1, .inl 0)], [], t0, n, 0)) rfl (fun _ => rfl) rfl ?_
    refine ex_go (S := (3, [(2, .inl 0), (0, gx_r 383), (1, .inl 0)], [.inl 0], t0, n, 0)) rfl (fun _ => rfl) rfl ?_
    refine ex_go (S := (4, [(3, .inl 0), (2, .inl 0), (0, gx_r 383), (1, .inl 0)], [], t0, n, 0)) rfl (fun _ => rfl) rfl ?_
    refine sr_pc0_0 d n (σ := σ) (e := 0) g0 hR (by first | decide | omega) q0 q7 q11 q13 hb0 hb7 hb11 hb13 (by first | decide | omega) rfl rfl rfl rfl (fun cl121 t121 g121 e121 a121 b121 c121 l1210 l1211 l1212 l1213 => ?_)
    have k22 : ai_hv t121 399 0 = some (.inl (σ 0)) := (e121 399 0 (by first | decide | omega)).trans q0
    have k23 : ai_hv t121 399 8 = some (.inl (σ 8)) := (e121 399 8 (by first | decide | omega)).trans q8
    have k24 : ai_hv t121 399 9 = some (.inl (σ 9)) := (e121 399 9 (by first | decide | omega)).trans q9
    have k25 : ai_hv t121 399 10 = some (.inl (σ 10)) := (e121 399 10 (by first | decide | omega)).trans q10
    have k26 : ai_hv t121 399 11 = some (.inl (σ 11)) := (e121 399 11 (by first | decide | omega)).trans q11
    have k27 : ai_hv t121 399 12 = some (.inl (σ 12)) := (e121 399 12 (by first | decide | omega)).trans q12
    have k28 : ai_hv t121 399 14 = some (.inl (σ 14)) := (e121 399 14 (by first | decide | omega)).trans q14
    have k29 : ai_hv t121 399 16 = some (.inl (σ 16)) := (e121 399 16 (by first | decide | omega)).trans q16
    refine sr_pc0_1 d n (σ := σ) (e := 0 + meal w L σ 0) g121 (RW_keep hR (fun i hi => e121 389 i (by first | decide | omega)) (fun c i hc _ => e121 c i (by first | decide | omega))) (by first | decide | omega) k22 k23 k27 k28 hb0 hb8 hb12 hb14 (by first | decide | omega) l1210 l1211 l1212 l1213 (fun cl130 t130 g130 e130 a130 b130 c130 l1300 l1301 l1302 l1303 => ?_)
    have k31 : ai_hv t130 399 0 = some (.inl (σ 0)) := (e130 399 0 (by first | decide | omega)).trans k22
    have k32 : ai_hv t130 399 9 = some (.inl (σ 9)) := (e130 399 9 (by first | decide | omega)).trans k24
    have k33 : ai_hv t130 399 10 = some (.inl (σ 10)) := (e130 399 10 (by first | decide | omega)).trans k25
    have k34 : ai_hv t130 399 11 = some (.inl (σ 11)) := (e130 399 11 (by first | decide | omega)).trans k26
    have k35 : ai_hv t130 399 12 = some (.inl (σ 12)) := (e130 399 12 (by first | decide | omega)).trans k27
    have k36 : ai_hv t130 399 15 = some (.inl 0) := (e130 399 15 (by first | decide | omega)).trans a121
    have k37 : ai_hv t130 399 7 = some (.inl (σ 7 - meal w L σ 0)) := (e130 399 7 (by first | decide | omega)).trans b121
    have k38 : ai_hv t130 399 13 = some (.inl (if σ 11 = 1 then fto w (σ 13) else 0)) := (e130 399 13 (by first | decide | omega)).trans c121
    refine gx_ld (i := 3) (d := 0) (v := .inl 2) rfl (fun _ => rfl) l1303 rfl rfl ?_
    refine gx_ld (i := 0) (d := 2) (v := gx_r 383) rfl (fun _ => rfl) l1300 rfl rfl ?_
    obtain ⟨_, r39, rfl⟩ := sr_crews (d + 3) n g130 (by have h9 := (e130 389 4 (by first | decide | omega)).trans ((e121 389 4 (by first | decide | omega)).trans (kK)); rw [hK9] at h9; exact h9)
    refine gx_call1 rfl rfl g130 rfl rfl r39 rfl ?_
    show en_ex _ _ _ _ (9, cl130, [.inl 2, .inl 2], t130, n, 0) _
    refine ex_go (S := (156, cl130, [], t130, n, 0)) rfl (fun _ => rfl) rfl ?_
    refine ex_go (S := (157, cl130, [.inl 0], t130, n, 0)) rfl (fun _ => rfl) rfl ?_
    refine gx_sto (i := 3) (d := 0) rfl (fun _ => rfl) rfl rfl (fun l40 hl40 ml40 => ?_)
    have l40_0 : en_ld l40 0 = some (gx_r 383) := ml40 0 _ l1300 rfl
    have l40_1 : en_ld l40 1 = some (.inl 0) := ml40 1 _ l1301 rfl
    have l40_2 : en_ld l40 2 = some (.inl ((0 + meal w L σ 0) + meal w L σ 1)) := ml40 2 _ l1302 rfl
    refine sr_pt0 d n (tb := t130) (w := w) (L := L) (P := fun i => σ (1 + i)) (e := (0 + meal w L σ 0) + meal w L σ 1) (RW_keep hR (fun i hi => (e130 389 i (by first | decide | omega)).trans (e121 389 i (by first | decide | omega))) (fun c i hc _ => (e130 c i (by first | decide | omega)).trans (e121 c i (by first | decide | omega)))) hb1 (fun cl141 t141 g141 e141 i141 l1410 l1411 l1412 => ?_) (w 0 2) 0 _ _ (by first | decide | omega) g130 (fun _ _ _ => rfl) (fun i hi => ?_) l40_0 l40_1 l40_2 hl40
    · have k42 : ai_hv t141 399 0 = some (.inl (σ 0)) := (e141 399 0 (by first | decide | omega)).trans k31
      have k43 : ai_hv t141 399 9 = some (.inl (σ 9)) := (e141 399 9 (by first | decide | omega)).trans k32
      have k44 : ai_hv t141 399 10 = some (.inl (σ 10)) := (e141 399 10 (by first | decide | omega)).trans k33
      have k45 : ai_hv t141 399 11 = some (.inl (σ 11)) := (e141 399 11 (by first | decide | omega)).trans k34
      have k46 : ai_hv t141 399 12 = some (.inl (σ 12)) := (e141 399 12 (by first | decide | omega)).trans k35
      have k47 : ai_hv t141 399 15 = some (.inl 0) := (e141 399 15 (by first | decide | omega)).trans k36
      have k48 : ai_hv t141 399 7 = some (.inl (σ 7 - meal w L σ 0)) := (e141 399 7 (by first | decide | omega)).trans k37
      have k49 : ai_hv t141 399 13 = some (.inl (if σ 11 = 1 then fto w (σ 13) else 0)) := (e141 399 13 (by first | decide | omega)).trans k38
      have k50 : ai_hv t141 399 16 = some (.inl 0) := (e141 399 16 (by first | decide | omega)).trans a130
      have k51 : ai_hv t141 399 8 = some (.inl (σ 8 - meal w L σ 1)) := (e141 399 8 (by first | decide | omega)).trans b130
      have k52 : ai_hv t141 399 14 = some (.inl (if σ 12 = 1 then fto w (σ 14) else 0)) := (e141 399 14 (by first | decide | omega)).trans c130
      refine gx_ld (i := 0) (d := 2) (v := gx_r 383) rfl (fun _ => rfl) l1410 rfl rfl ?_
      refine gx_ref (c := 399) rfl g141 rfl rfl rfl rfl ?_
      refine gx_ld (i := 1) (d := 0) (v := .inl 0) rfl (fun _ => rfl) l1411 rfl rfl ?_
      refine ex_go (S := (202, cl141, [.inl 0, .inl 0, gx_r 399], t141, n, 0)) rfl (fun _ => rfl) rfl ?_
      refine ex_go (S := (203, cl141, [.inl 0, gx_r 399], t141, n, 0)) rfl (fun _ => rfl) rfl ?_
      refine ex_go (S := (204, cl141, [.inl 0, gx_r 399, .inl 0, gx_r 399], t141, n, 0)) rfl (fun _ => rfl) rfl ?_
      refine gx_ag (v := .inl (σ 0)) (cb := fun c => Nat.beq c 0) rfl (fun _ => rfl) g141 rfl rfl k42 (by first | decide | omega) rfl ?_
      refine ex_go (S := (206, cl141, [.inl 1, .inl (σ 0), .inl 0, gx_r 399], t141, n, 0)) rfl (fun _ => rfl) rfl ?_
      have hw53 : en_wrap ((σ 0) + 1) < 4294967296 := wrap_lt
      refine gs_iaddx rfl rfl ?_
      refine gx_ap rfl (fun _ => rfl) g141 rfl rfl rfl (show 0 < 1035 from by omega) rfl (gx_full (by first | decide | omega)) rfl (fun t154 g154 k154 e154 => ?_)
      have k55 : ai_hv t154 399 9 = some (.inl (σ 9)) := (e154 399 9 (by first | decide | omega)).trans k43
      have k56 : ai_hv t154 399 10 = some (.inl (σ 10)) := (e154 399 10 (by first | decide | omega)).trans k44
      have k57 : ai_hv t154 399 11 = some (.inl (σ 11)) := (e154 399 11 (by first | decide | omega)).trans k45
      have k58 : ai_hv t154 399 12 = some (.inl (σ 12)) := (e154 399 12 (by first | decide | omega)).trans k46
      have k59 : ai_hv t154 399 15 = some (.inl 0) := (e154 399 15 (by first | decide | omega)).trans k47
      have k60 : ai_hv t154 399 7 = some (.inl (σ 7 - meal w L σ 0)) := (e154 399 7 (by first | decide | omega)).trans k48
      have k61 : ai_hv t154 399 13 = some (.inl (if σ 11 = 1 then fto w (σ 13) else 0)) := (e154 399 13 (by first | decide | omega)).trans k49
      have k62 : ai_hv t154 399 16 = some (.inl 0) := (e154 399 16 (by first | decide | omega)).trans k50
      have k63 : ai_hv t154 399 8 = some (.inl (σ 8 - meal w L σ 1)) := (e154 399 8 (by first | decide | omega)).trans k51
      have k64 : ai_hv t154 399 14 = some (.inl (if σ 12 = 1 then fto w (σ 14) else 0)) := (e154 399 14 (by first | decide | omega)).trans k52
      refine gx_ld (i := 2) (d := 0) (v := .inl ((0 + meal w L σ 0) + meal w L σ 1)) rfl (fun _ => rfl) l1412 rfl rfl ?_
      refine ex_ret (r := (some (.inl ((0 + meal w L σ 0) + meal w L σ 1)), t154, n, 0)) rfl (fun _ => rfl) ?_
      have he9 : eaten w L σ = (0 + meal w L σ 0) + meal w L σ 1 := by unfold eaten; rw [hK9]; rw [if_pos (by decide), if_pos (by decide)]; omega
      refine ⟨_, rfl, t154, by rw [he9], g154, (fun c i h => (e154 c i (by first | decide | omega)).trans ((e141 c i (by first | decide | omega)).trans ((e130 c i (by first | decide | omega)).trans (e121 c i (by first | decide | omega))))), fun j hj => ?_⟩
      rcases (show j = 0 ∨ (1 ≤ j ∧ j ≤ 6) ∨ j = 7 ∨ j = 8 ∨ j = 9 ∨ j = 10 ∨ j = 11 ∨ j = 12 ∨ j = 13 ∨ j = 14 ∨ j = 15 ∨ j = 16 by omega) with rfl | hj6 | rfl | rfl | rfl | rfl | rfl | rfl | rfl | rfl | rfl | rfl
      · rw [stp_0]; exact k154
      · obtain ⟨i, rfl, hi⟩ : ∃ i, j = 1 + i ∧ i < 6 := ⟨j - 1, by omega, by omega⟩
        rw [stp_pl hi, show 0 + (1 + i) = 1 + i by omega]
        exact (e154 399 (1 + i) (by first | decide | omega)).trans (i141 i hi)
      · rw [show (7 : Nat) = 7 + 0 from rfl, stp_bi (by decide), if_pos (by first | decide | omega)]; exact k60
      · rw [show (8 : Nat) = 7 + 1 from rfl, stp_bi (by decide), if_pos (by first | decide | omega)]; exact k63
      · rw [stp_mid (by decide) (by decide)]; exact k55
      · rw [stp_mid (by decide) (by decide)]; exact k56
      · rw [stp_mid (by decide) (by decide)]; exact k57
      · rw [stp_mid (by decide) (by decide)]; exact k58
      · rw [show (13 : Nat) = 13 + 0 from rfl, stp_sl (by decide), if_pos (by first | decide | omega)]; exact k61
      · rw [show (14 : Nat) = 13 + 1 from rfl, stp_sl (by decide), if_pos (by first | decide | omega)]; exact k64
      · rw [show (15 : Nat) = 15 + 0 from rfl, stp_ha (by decide), if_pos (by first | decide | omega)]; exact k59
      · rw [show (16 : Nat) = 15 + 1 from rfl, stp_ha (by decide), if_pos (by first | decide | omega)]; exact k62
    · rw [if_neg (Nat.not_lt_zero i)]
      exact ((e130 399 (1 + i) (by first | decide | omega)).trans (e121 399 (1 + i) (by first | decide | omega))).trans (show ai_hv t0 399 (1 + i) = some (.inl (σ (1 + i))) from by have h9 := hσ (1 + i) (by first | decide | omega); rw [show 0 + (1 + i) = 1 + i by omega] at h9; exact h9)
end SSA
