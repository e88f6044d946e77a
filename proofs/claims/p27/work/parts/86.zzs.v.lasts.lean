section SSV
/-- how long what is left lasts, e k being eaten at the step k -/
noncomputable def lstf (e : Nat → Nat) : Nat → Nat → Nat → Nat
  | 0, k, _ => k
  | f + 1, k, b => if b < e k then k else lstf e f (k + 1) (b - e k)
theorem lstf_lt {e : Nat → Nat} {f k b : Nat} (h : b < e k) : lstf e (f + 1) k b = k := by
  show (if b < e k then k else _) = _
  rw [if_pos h]
theorem lstf_ge {e : Nat → Nat} {f k b : Nat} (h : ¬ b < e k) : lstf e (f + 1) k b = lstf e f (k + 1) (b - e k) := by
  show (if b < e k then k else _) = _
  rw [if_neg h]
/-- what a crew eats at the step k from now -/
noncomputable def eatk (w : Nat → Nat → Nat) (L : List Nat) (σ : Nat → Nat) (c k : Nat) : Nat := eat L (w 2 c) (σ 0 + k) (σ (11 + c))
theorem eatk_le {w : Nat → Nat → Nat} {L : List Nat} {σ : Nat → Nat} {c k : Nat} : eatk w L σ c k ≤ 99 := eat_le
theorem ls_l191 (d n : Nat) {tb : en_H} {w : Nat → Nat → Nat} {L : List Nat} {σ : Nat → Nat} {c v0 : Nat} {Q : en_O → Prop} (hC : CW tb 191 w L) (hw : WS w) (hS : SC tb 8 (w 0 2) (w 0 4) σ) (k10 : ai_hv tb 0 10 = some (gx_r 191)) (hB : σ 0 ≤ 900000) (hc : c < w 0 4) (ho : σ (11 + c) ≤ 1) (hQ : ∀ t', ai_HG ah_G t' → (∀ c i, c ≠ 231 → ai_hv t' c i = ai_hv tb c i) → Q (.inl (some (.inl v0), t', n, 0))) : ∀ j k b cl t0, k + j = 200 → b ≤ 19998 → ai_HG ah_G t0 → (∀ c i, c ≠ 231 → ai_hv t0 c i = ai_hv tb c i) → lstf (eatk w L σ c) j k b = v0 → en_ld cl 0 = some (gx_r 0) → en_ld cl 1 = some (.inl c) → en_ld cl 2 = some (.inl b) → en_ld cl 3 = some (.inl k) → en_ex none (en_u (d + 4)) (en_code 68) (fun _ => false) (28, cl, [], t0, n, 0) Q := by
  intro j
  induction j with
  | zero =>
    intro k b cl t0 hk hb g0 e0 hv l0 l1 l2 l3
    have hk : k = 200 := by omega
    subst hk
    have hv : 200 = v0 := hv
    refine gx_ld (i := 3) (d := 0) (v := .inl 200) rfl (fun _ => rfl) l3 rfl rfl ?_
    refine ex_go (S := (32, cl, [.inl 200, .inl 200], t0, n, 0)) rfl (fun _ => rfl) rfl ?_
    refine ex_go (S := (71, cl, [], t0, n, 0)) rfl (fun _ => rfl) rfl ?_
    refine ex_go (S := (74, cl, [.inl 200], t0, n, 0)) rfl (fun _ => rfl) rfl ?_
    refine ex_ret (r := (some (.inl 200), t0, n, 0)) rfl (fun _ => rfl) ?_
    rw [hv]
    exact hQ _ g0 e0
  | succ j ih =>
    intro k b cl t0 hk hb g0 e0 hv l0 l1 l2 l3
    have hK := hw.1.2.2.2.2.1
    have hm9 := (hw.2.1 c hc).2.1
    have km := (hC.2.2.1 c hc).2.1
    have ko := (hS.2.2 c hc).2.2.1
    have kL := hC.2.2.2.2.2.1
    have hs := hC.2.2.2.2.2.2.1
    have hv9 := hC.2.2.2.2.2.2.2.1
    have hr9 := hC.2.2.2.2.2.2.2.2
    have he9 := eatk_le (w := w) (L := L) (σ := σ) (c := c) (k := k)
    refine gx_ld (i := 3) (d := 0) (v := .inl k) rfl (fun _ => rfl) l3 rfl rfl ?_
    refine ex_go (S := (32, cl, [.inl 200, .inl k], t0, n, 0)) rfl (fun _ => rfl) rfl ?_
    refine gx_2f (c := .ge) rfl (by first | decide | omega) (by first | decide | omega) (show ¬ (200 ≤ k) from by omega) rfl ?_
    refine gx_ld (i := 2) (d := 0) (v := .inl b) rfl (fun _ => rfl) l2 rfl rfl ?_
    refine gx_ld (i := 0) (d := 2) (v := gx_r 0) rfl (fun _ => rfl) l0 rfl rfl ?_
    refine gxo_ref (a := 0) (c := 8) rfl g0 rfl rfl rfl rfl rfl ?_
    refine gx_ld (i := 0) (d := 2) (v := gx_r 0) rfl (fun _ => rfl) l0 rfl rfl ?_
    refine gxo_get (a := 0) rfl g0 rfl rfl ((e0 0 10 (by first | decide | omega)).trans k10) rfl ?_
    refine gx_ld (i := 1) (d := 0) (v := .inl c) rfl (fun _ => rfl) l1 rfl rfl ?_
    refine gx_ld (i := 0) (d := 2) (v := gx_r 0) rfl (fun _ => rfl) l0 rfl rfl ?_
    refine gxo_ref (a := 0) (c := 8) rfl g0 rfl rfl rfl rfl rfl ?_
    refine gxo_get (a := 8) rfl g0 rfl rfl ((e0 8 0 (by first | decide | omega)).trans hS.1) rfl ?_
    refine gx_ld (i := 3) (d := 0) (v := .inl k) rfl (fun _ => rfl) l3 rfl rfl ?_
    refine ex_iadd rfl (by first | decide | omega) rfl ?_
    obtain ⟨_, r121, t121, rfl, g121, e121⟩ := sc_app8_191 (d + 1) n (L := L) (c := c) (me := w 2 c) (ti := σ 0 + k) (ou := σ (11 + c)) g0 (by first | decide | omega) ((e0 209 c (by first | decide | omega)).trans km) (by first | decide | omega) ((e0 12 c (by first | decide | omega)).trans ko) (by first | decide | omega) (by first | decide | omega) (CLs_keep kL (e0 230 2 (by first | decide | omega)) (fun j => e0 232 j (by first | decide | omega))) hs hv9 hr9
    refine gx_callo (a := 8) rfl rfl g0 rfl rfl rfl r121 rfl ?_
    have k22 : ai_hv t121 0 10 = some (gx_r 191) := (e121 0 10 (by first | decide | omega)).trans ((e0 0 10 (by first | decide | omega)).trans k10)
    have k23 : ai_hv t121 8 0 = some (.inl (σ 0)) := (e121 8 0 (by first | decide | omega)).trans ((e0 8 0 (by first | decide | omega)).trans hS.1)
    show en_ex _ _ _ _ (57, cl, [.inl (eatk w L σ c k), .inl b], t121, n, 0) _
    by_cases hlt : b < eatk w L σ c k
    · rw [lstf_lt hlt] at hv
      refine gx_isubn rfl (by first | decide | omega) (by first | decide | omega) rfl (fun z24 z24a z24b z24c => ?_)
      refine gx_sto (i := 2) (d := 0) rfl (fun _ => rfl) rfl rfl (fun l25 hl25 ml25 => ?_)
      have l25_0 : en_ld l25 0 = some (gx_r 0) := ml25 0 _ l0 rfl
      have l25_1 : en_ld l25 1 = some (.inl c) := ml25 1 _ l1 rfl
      have l25_3 : en_ld l25 3 = some (.inl k) := ml25 3 _ l3 rfl
      refine gx_ld (i := 2) (d := 0) (v := .inl z24) rfl (fun _ => rfl) hl25 rfl rfl ?_
      refine gx_negf (c := .ge) rfl (by first | decide | omega) (by first | decide | omega) rfl rfl ?_
      refine gx_ld (i := 3) (d := 0) (v := .inl k) rfl (fun _ => rfl) l25_3 rfl rfl ?_
      refine ex_ret (r := (some (.inl k), t121, n, 0)) rfl (fun _ => rfl) ?_
      rw [hv]
      exact hQ _ g121 (fun c i h => (e121 c i h).trans (e0 c i h))
    · rw [lstf_ge hlt] at hv
      refine gx_isub rfl (by first | decide | omega) (by first | decide | omega) rfl ?_
      refine gx_sto (i := 2) (d := 0) rfl (fun _ => rfl) rfl rfl (fun l26 hl26 ml26 => ?_)
      have l26_0 : en_ld l26 0 = some (gx_r 0) := ml26 0 _ l0 rfl
      have l26_1 : en_ld l26 1 = some (.inl c) := ml26 1 _ l1 rfl
      have l26_3 : en_ld l26 3 = some (.inl k) := ml26 3 _ l3 rfl
      refine gx_ld (i := 2) (d := 0) (v := .inl (b - (eatk w L σ c k))) rfl (fun _ => rfl) hl26 rfl rfl ?_
      refine gx_1t (c := .ge) rfl (by first | decide | omega) (show 0 ≤ b - (eatk w L σ c k) from by omega) rfl ?_
      refine gx_incS (i := 3) (a := k) (x := 1) rfl (fun _ => rfl) l26_3 (by first | decide | omega) rfl (fun l27 hl27 ml27 => ?_)
      have l27_0 : en_ld l27 0 = some (gx_r 0) := ml27 0 _ l26_0 rfl
      have l27_1 : en_ld l27 1 = some (.inl c) := ml27 1 _ l26_1 rfl
      have l27_2 : en_ld l27 2 = some (.inl (b - (eatk w L σ c k))) := ml27 2 _ hl26 rfl
      refine ex_go (S := (28, l27, [], t121, n, 0)) rfl (fun _ => rfl) rfl ?_
      exact ih (k + 1) _ _ _ (by first | decide | omega) (by first | decide | omega) g121 (fun c i h => (e121 c i h).trans (e0 c i h)) hv l27_0 l27_1 l27_2 hl27
theorem sc_lasts191 (d n : Nat) {t0 : en_H} {w : Nat → Nat → Nat} {L : List Nat} {σ : Nat → Nat} {c : Nat} (g0 : ai_HG ah_G t0) (hC : CW t0 191 w L) (hw : WS w) (hS : SC t0 8 (w 0 2) (w 0 4) σ) (k10 : ai_hv t0 0 10 = some (gx_r 191)) (hB : σ 0 ≤ 900000) (ho : ∀ c, c < w 0 4 → σ (11 + c) ≤ 1 ∧ σ (7 + c) ≤ 19998) (hc : c < 4294967296) : ∃ r, en_u (d + 5) 68 [gx_r 0, .inl c] t0 n = some r ∧ ∃ v t', r = (some (.inl v), t', n, 0) ∧ ai_HG ah_G t' ∧ (∀ c i, c ≠ 231 → ai_hv t' c i = ai_hv t0 c i) ∧ ((c < w 0 4) → v = lstf (eatk w L σ c) 200 0 (σ (7 + c))) ∧ (¬ c < w 0 4 → v = 4294967295) := by
  have hK := hw.1.2.2.2.2.1
  refine en_u_ex (d := d + 4) rfl ?_
  show en_ex _ _ _ _ (0, [(0, gx_r 0), (1, .inl c)], [], t0, n, 0) _
  refine ex_go (S := (1, [(0, gx_r 0), (1, .inl c)], [gx_r 0], t0, n, 0)) rfl (fun _ => rfl) rfl ?_
  refine gxo_get (a := 0) rfl g0 rfl rfl k10 rfl ?_
  refine gxo_ref (a := 191) (c := 206) rfl g0 rfl rfl rfl rfl rfl ?_
  refine ex_go (S := (8, [(0, gx_r 0), (1, .inl c)], [.inl c, gx_r 206], t0, n, 0)) rfl (fun _ => rfl) rfl ?_
  obtain ⟨_, r121, b121, rfl, hb121, hi121⟩ := pz_holds206 (d + 3) n (x := c) (K := w 0 4) g0 (by first | decide | omega) hC.1.2.2.2.2.2 (by first | decide | omega)
  refine gx_callo (a := 206) rfl rfl g0 rfl rfl rfl r121 rfl ?_
  show en_ex _ _ _ _ (11, [(0, gx_r 0), (1, .inl c)], [.inl b121], t0, n, 0) _
  by_cases hc22 : b121 ≠ 0
  · refine gx_1t (c := .ne) rfl (by first | decide | omega) hc22 rfl ?_
    refine ex_go (S := (17, [(0, gx_r 0), (1, .inl c)], [gx_r 0], t0, n, 0)) rfl (fun _ => rfl) rfl ?_
    refine gxo_ref (a := 0) (c := 8) rfl g0 rfl rfl rfl rfl rfl ?_
    refine gxo_ref (a := 8) (c := 10) rfl g0 rfl rfl rfl rfl rfl ?_
    refine ex_go (S := (24, [(0, gx_r 0), (1, .inl c)], [.inl c, gx_r 10], t0, n, 0)) rfl (fun _ => rfl) rfl ?_
    have k23 := (hS.2.2 c (by first | decide | omega)).1
    have hk23 := (ho c (by first | decide | omega)).2
    refine gx_ag (v := .inl (σ (7 + c))) (cb := fun c => Nat.beq c 0) rfl (fun _ => rfl) g0 rfl rfl k23 (by first | decide | omega) rfl ?_
    refine ex_go (S := (26, [(2, .inl (σ (7 + c))), (0, gx_r 0), (1, .inl c)], [], t0, n, 0)) rfl (fun _ => rfl) rfl ?_
    refine ex_go (S := (27, [(2, .inl (σ (7 + c))), (0, gx_r 0), (1, .inl c)], [.inl 0], t0, n, 0)) rfl (fun _ => rfl) rfl ?_
    refine ex_go (S := (28, [(3, .inl 0), (2, .inl (σ (7 + c))), (0, gx_r 0), (1, .inl c)], [], t0, n, 0)) rfl (fun _ => rfl) rfl ?_
    exact ls_l191 d n hC hw hS k10 hB (by first | decide | omega) (ho c (by first | decide | omega)).1 (fun t1 g1 e1 => ⟨_, rfl, _, _, rfl, g1, e1, (fun _ => rfl), (fun c9 => absurd (by first | decide | omega) c9)⟩) 200 0 _ _ _ (by first | decide | omega) (ho c (by first | decide | omega)).2 g0 (fun _ _ _ => rfl) rfl rfl rfl rfl rfl
  · refine gx_1f (c := .ne) rfl (by first | decide | omega) hc22 rfl ?_
    refine ex_go (S := (15, [(0, gx_r 0), (1, .inl c)], [.inl 4294967295], t0, n, 0)) rfl (fun _ => rfl) rfl ?_
    refine ex_ret (r := (some (.inl 4294967295), t0, n, 0)) rfl (fun _ => rfl) ?_
    exact ⟨_, rfl, _, _, rfl, g0, (fun _ _ _ => rfl), (fun c9 => absurd c9 (by first | decide | omega)), (fun _ => rfl)⟩
theorem ls_l257 (d n : Nat) {tb : en_H} {w : Nat → Nat → Nat} {L : List Nat} {σ : Nat → Nat} {c v0 : Nat} {Q : en_O → Prop} (hC : CW tb 257 w L) (hw : WS w) (hS : SC tb 8 (w 0 2) (w 0 4) σ) (k10 : ai_hv tb 0 10 = some (gx_r 257)) (hB : σ 0 ≤ 900000) (hc : c < w 0 4) (ho : σ (11 + c) ≤ 1) (hQ : ∀ t', ai_HG ah_G t' → (∀ c i, c ≠ 297 → ai_hv t' c i = ai_hv tb c i) → Q (.inl (some (.inl v0), t', n, 0))) : ∀ j k b cl t0, k + j = 200 → b ≤ 19998 → ai_HG ah_G t0 → (∀ c i, c ≠ 297 → ai_hv t0 c i = ai_hv tb c i) → lstf (eatk w L σ c) j k b = v0 → en_ld cl 0 = some (gx_r 0) → en_ld cl 1 = some (.inl c) → en_ld cl 2 = some (.inl b) → en_ld cl 3 = some (.inl k) → en_ex none (en_u (d + 4)) (en_code 68) (fun _ => false) (28, cl, [], t0, n, 0) Q := by
  intro j
  induction j with
  | zero =>
    intro k b cl t0 hk hb g0 e0 hv l0 l1 l2 l3
    have hk : k = 200 := by omega
    subst hk
    have hv : 200 = v0 := hv
    refine gx_ld (i := 3) (d := 0) (v := .inl 200) rfl (fun _ => rfl) l3 rfl rfl ?_
    refine ex_go (S := (32, cl, [.inl 200, .inl 200], t0, n, 0)) rfl (fun _ => rfl) rfl ?_
    refine ex_go (S := (71, cl, [], t0, n, 0)) rfl (fun _ => rfl) rfl ?_
    refine ex_go (S := (74, cl, [.inl 200], t0, n, 0)) rfl (fun _ => rfl) rfl ?_
    refine ex_ret (r := (some (.inl 200), t0, n, 0)) rfl (fun _ => rfl) ?_
    rw [hv]
    exact hQ _ g0 e0
  | succ j ih =>
    intro k b cl t0 hk hb g0 e0 hv l0 l1 l2 l3
    have hK := hw.1.2.2.2.2.1
    have hm9 := (hw.2.1 c hc).2.1
    have km := (hC.2.2.1 c hc).2.1
    have ko := (hS.2.2 c hc).2.2.1
    have kL := hC.2.2.2.2.2.1
    have hs := hC.2.2.2.2.2.2.1
    have hv9 := hC.2.2.2.2.2.2.2.1
    have hr9 := hC.2.2.2.2.2.2.2.2
    have he9 := eatk_le (w := w) (L := L) (σ := σ) (c := c) (k := k)
    refine gx_ld (i := 3) (d := 0) (v := .inl k) rfl (fun _ => rfl) l3 rfl rfl ?_
    refine ex_go (S := (32, cl, [.inl 200, .inl k], t0, n, 0)) rfl (fun _ => rfl) rfl ?_
    refine gx_2f (c := .ge) rfl (by first | decide | omega) (by first | decide | omega) (show ¬ (200 ≤ k) from by omega) rfl ?_
    refine gx_ld (i := 2) (d := 0) (v := .inl b) rfl (fun _ => rfl) l2 rfl rfl ?_
    refine gx_ld (i := 0) (d := 2) (v := gx_r 0) rfl (fun _ => rfl) l0 rfl rfl ?_
    refine gxo_ref (a := 0) (c := 8) rfl g0 rfl rfl rfl rfl rfl ?_
    refine gx_ld (i := 0) (d := 2) (v := gx_r 0) rfl (fun _ => rfl) l0 rfl rfl ?_
    refine gxo_get (a := 0) rfl g0 rfl rfl ((e0 0 10 (by first | decide | omega)).trans k10) rfl ?_
    refine gx_ld (i := 1) (d := 0) (v := .inl c) rfl (fun _ => rfl) l1 rfl rfl ?_
    refine gx_ld (i := 0) (d := 2) (v := gx_r 0) rfl (fun _ => rfl) l0 rfl rfl ?_
    refine gxo_ref (a := 0) (c := 8) rfl g0 rfl rfl rfl rfl rfl ?_
    refine gxo_get (a := 8) rfl g0 rfl rfl ((e0 8 0 (by first | decide | omega)).trans hS.1) rfl ?_
    refine gx_ld (i := 3) (d := 0) (v := .inl k) rfl (fun _ => rfl) l3 rfl rfl ?_
    refine ex_iadd rfl (by first | decide | omega) rfl ?_
    obtain ⟨_, r121, t121, rfl, g121, e121⟩ := sc_app8_257 (d + 1) n (L := L) (c := c) (me := w 2 c) (ti := σ 0 + k) (ou := σ (11 + c)) g0 (by first | decide | omega) ((e0 275 c (by first | decide | omega)).trans km) (by first | decide | omega) ((e0 12 c (by first | decide | omega)).trans ko) (by first | decide | omega) (by first | decide | omega) (CLs_keep kL (e0 296 2 (by first | decide | omega)) (fun j => e0 298 j (by first | decide | omega))) hs hv9 hr9
    refine gx_callo (a := 8) rfl rfl g0 rfl rfl rfl r121 rfl ?_
    have k22 : ai_hv t121 0 10 = some (gx_r 257) := (e121 0 10 (by first | decide | omega)).trans ((e0 0 10 (by first | decide | omega)).trans k10)
    have k23 : ai_hv t121 8 0 = some (.inl (σ 0)) := (e121 8 0 (by first | decide | omega)).trans ((e0 8 0 (by first | decide | omega)).trans hS.1)
    show en_ex _ _ _ _ (57, cl, [.inl (eatk w L σ c k), .inl b], t121, n, 0) _
    by_cases hlt : b < eatk w L σ c k
    · rw [lstf_lt hlt] at hv
      refine gx_isubn rfl (by first | decide | omega) (by first | decide | omega) rfl (fun z24 z24a z24b z24c => ?_)
      refine gx_sto (i := 2) (d := 0) rfl (fun _ => rfl) rfl rfl (fun l25 hl25 ml25 => ?_)
      have l25_0 : en_ld l25 0 = some (gx_r 0) := ml25 0 _ l0 rfl
      have l25_1 : en_ld l25 1 = some (.inl c) := ml25 1 _ l1 rfl
      have l25_3 : en_ld l25 3 = some (.inl k) := ml25 3 _ l3 rfl
      refine gx_ld (i := 2) (d := 0) (v := .inl z24) rfl (fun _ => rfl) hl25 rfl rfl ?_
      refine gx_negf (c := .ge) rfl (by first | decide | omega) (by first | decide | omega) rfl rfl ?_
      refine gx_ld (i := 3) (d := 0) (v := .inl k) rfl (fun _ => rfl) l25_3 rfl rfl ?_
      refine ex_ret (r := (some (.inl k), t121, n, 0)) rfl (fun _ => rfl) ?_
      rw [hv]
      exact hQ _ g121 (fun c i h => (e121 c i h).trans (e0 c i h))
    · rw [lstf_ge hlt] at hv
      refine gx_isub rfl (by first | decide | omega) (by first | decide | omega) rfl ?_
      refine gx_sto (i := 2) (d := 0) rfl (fun _ => rfl) rfl rfl (fun l26 hl26 ml26 => ?_)
      have l26_0 : en_ld l26 0 = some (gx_r 0) := ml26 0 _ l0 rfl
      have l26_1 : en_ld l26 1 = some (.inl c) := ml26 1 _ l1 rfl
      have l26_3 : en_ld l26 3 = some (.inl k) := ml26 3 _ l3 rfl
      refine gx_ld (i := 2) (d := 0) (v := .inl (b - (eatk w L σ c k))) rfl (fun _ => rfl) hl26 rfl rfl ?_
      refine gx_1t (c := .ge) rfl (by first | decide | omega) (show 0 ≤ b - (eatk w L σ c k) from by omega) rfl ?_
      refine gx_incS (i := 3) (a := k) (x := 1) rfl (fun _ => rfl) l26_3 (by first | decide | omega) rfl (fun l27 hl27 ml27 => ?_)
      have l27_0 : en_ld l27 0 = some (gx_r 0) := ml27 0 _ l26_0 rfl
      have l27_1 : en_ld l27 1 = some (.inl c) := ml27 1 _ l26_1 rfl
      have l27_2 : en_ld l27 2 = some (.inl (b - (eatk w L σ c k))) := ml27 2 _ hl26 rfl
      refine ex_go (S := (28, l27, [], t121, n, 0)) rfl (fun _ => rfl) rfl ?_
      exact ih (k + 1) _ _ _ (by first | decide | omega) (by first | decide | omega) g121 (fun c i h => (e121 c i h).trans (e0 c i h)) hv l27_0 l27_1 l27_2 hl27
theorem sc_lasts257 (d n : Nat) {t0 : en_H} {w : Nat → Nat → Nat} {L : List Nat} {σ : Nat → Nat} {c : Nat} (g0 : ai_HG ah_G t0) (hC : CW t0 257 w L) (hw : WS w) (hS : SC t0 8 (w 0 2) (w 0 4) σ) (k10 : ai_hv t0 0 10 = some (gx_r 257)) (hB : σ 0 ≤ 900000) (ho : ∀ c, c < w 0 4 → σ (11 + c) ≤ 1 ∧ σ (7 + c) ≤ 19998) (hc : c < 4294967296) : ∃ r, en_u (d + 5) 68 [gx_r 0, .inl c] t0 n = some r ∧ ∃ v t', r = (some (.inl v), t', n, 0) ∧ ai_HG ah_G t' ∧ (∀ c i, c ≠ 297 → ai_hv t' c i = ai_hv t0 c i) ∧ ((c < w 0 4) → v = lstf (eatk w L σ c) 200 0 (σ (7 + c))) ∧ (¬ c < w 0 4 → v = 4294967295) := by
  have hK := hw.1.2.2.2.2.1
  refine en_u_ex (d := d + 4) rfl ?_
  show en_ex _ _ _ _ (0, [(0, gx_r 0), (1, .inl c)], [], t0, n, 0) _
  refine ex_go (S := (1, [(0, gx_r 0), (1, .inl c)], [gx_r 0], t0, n, 0)) rfl (fun _ => rfl) rfl ?_
  refine gxo_get (a := 0) rfl g0 rfl rfl k10 rfl ?_
  refine gxo_ref (a := 257) (c := 272) rfl g0 rfl rfl rfl rfl rfl ?_
  refine ex_go (S := (8, [(0, gx_r 0), (1, .inl c)], [.inl c, gx_r 272], t0, n, 0)) rfl (fun _ => rfl) rfl ?_
  obtain ⟨_, r121, b121, rfl, hb121, hi121⟩ := pz_holds272 (d + 3) n (x := c) (K := w 0 4) g0 (by first | decide | omega) hC.1.2.2.2.2.2 (by first | decide | omega)
  refine gx_callo (a := 272) rfl rfl g0 rfl rfl rfl r121 rfl ?_
  show en_ex _ _ _ _ (11, [(0, gx_r 0), (1, .inl c)], [.inl b121], t0, n, 0) _
  by_cases hc22 : b121 ≠ 0
  · refine gx_1t (c := .ne) rfl (by first | decide | omega) hc22 rfl ?_
    refine ex_go (S := (17, [(0, gx_r 0), (1, .inl c)], [gx_r 0], t0, n, 0)) rfl (fun _ => rfl) rfl ?_
    refine gxo_ref (a := 0) (c := 8) rfl g0 rfl rfl rfl rfl rfl ?_
    refine gxo_ref (a := 8) (c := 10) rfl g0 rfl rfl rfl rfl rfl ?_
    refine ex_go (S := (24, [(0, gx_r 0), (1, .inl c)], [.inl c, gx_r 10], t0, n, 0)) rfl (fun _ => rfl) rfl ?_
    have k23 := (hS.2.2 c (by first | decide | omega)).1
    have hk23 := (ho c (by first | decide | omega)).2
    refine gx_ag (v := .inl (σ (7 + c))) (cb := fun c => Nat.beq c 0) rfl (fun _ => rfl) g0 rfl rfl k23 (by first | decide | omega) rfl ?_
    refine ex_go (S := (26, [(2, .inl (σ (7 + c))), (0, gx_r 0), (1, .inl c)], [], t0, n, 0)) rfl (fun _ => rfl) rfl ?_
    refine ex_go (S := (27, [(2, .inl (σ (7 + c))), (0, gx_r 0), (1, .inl c)], [.inl 0], t0, n, 0)) rfl (fun _ => rfl) rfl ?_
    refine ex_go (S := (28, [(3, .inl 0), (2, .inl (σ (7 + c))), (0, gx_r 0), (1, .inl c)], [], t0, n, 0)) rfl (fun _ => rfl) rfl ?_
    exact ls_l257 d n hC hw hS k10 hB (by first | decide | omega) (ho c (by first | decide | omega)).1 (fun t1 g1 e1 => ⟨_, rfl, _, _, rfl, g1, e1, (fun _ => rfl), (fun c9 => absurd (by first | decide | omega) c9)⟩) 200 0 _ _ _ (by first | decide | omega) (ho c (by first | decide | omega)).2 g0 (fun _ _ _ => rfl) rfl rfl rfl rfl rfl
  · refine gx_1f (c := .ne) rfl (by first | decide | omega) hc22 rfl ?_
    refine ex_go (S := (15, [(0, gx_r 0), (1, .inl c)], [.inl 4294967295], t0, n, 0)) rfl (fun _ => rfl) rfl ?_
    refine ex_ret (r := (some (.inl 4294967295), t0, n, 0)) rfl (fun _ => rfl) ?_
    exact ⟨_, rfl, _, _, rfl, g0, (fun _ _ _ => rfl), (fun c9 => absurd c9 (by first | decide | omega)), (fun _ => rfl)⟩
theorem lr_l (d n : Nat) {tb : en_H} {w : Nat → Nat → Nat} {L : List Nat} {σ : Nat → Nat} {c v0 : Nat} {Q : en_O → Prop} (hR : RW tb w L) (hS : blk tb 0 σ) (hB : σ 0 ≤ 900000) (hc : c < w 0 4) (ho : σ (11 + c) ≤ 1) (hQ : ∀ t', ai_HG ah_G t' → (∀ c i, ¬ ((c = 397 ∧ i < 3) ∨ c = 398) → ai_hv t' c i = ai_hv tb c i) → Q (.inl (some (.inl v0), t', n, 0))) : ∀ j k b cl t0, k + j = 200 → b ≤ 19998 → ai_HG ah_G t0 → (∀ c i, ¬ ((c = 397 ∧ i < 3) ∨ c = 398) → ai_hv t0 c i = ai_hv tb c i) → lstf (eatk w L σ c) j k b = v0 → en_ld cl 0 = some (gx_r 383) → en_ld cl 1 = some (.inl c) → en_ld cl 3 = some (.inl b) → en_ld cl 4 = some (.inl k) → en_ex none (en_u (d + 4)) (en_code 141) (fun _ => false) (5, cl, [], t0, n, 0) Q := by
  intro j
  induction j with
  | zero =>
    intro k b cl t0 hk hb g0 e0 hv l0 l1 l3 l4
    have hk : k = 200 := by omega
    subst hk
    have hv : 200 = v0 := hv
    refine gx_ld (i := 4) (d := 0) (v := .inl 200) rfl (fun _ => rfl) l4 rfl rfl ?_
    refine ex_go (S := (10, cl, [.inl 200, .inl 200], t0, n, 0)) rfl (fun _ => rfl) rfl ?_
    refine ex_go (S := (58, cl, [], t0, n, 0)) rfl (fun _ => rfl) rfl ?_
    refine ex_go (S := (61, cl, [.inl 200], t0, n, 0)) rfl (fun _ => rfl) rfl ?_
    refine ex_ret (r := (some (.inl 200), t0, n, 0)) rfl (fun _ => rfl) ?_
    rw [hv]
    exact hQ _ g0 e0
  | succ j ih =>
    intro k b cl t0 hk hb g0 e0 hv l0 l1 l3 l4
    have hK := hR.2.1.2.2.2.2.1
    have he9 := eatk_le (w := w) (L := L) (σ := σ) (c := c) (k := k)
    have k0 : ai_hv t0 399 0 = some (.inl (σ 0)) := (e0 399 0 (by first | decide | omega)).trans (hS 0 (by decide))
    have k11 : ai_hv t0 399 (11 + c) = some (.inl (σ (11 + c))) := by
      have h9 := hS (11 + c) (by first | decide | omega)
      rw [Nat.zero_add] at h9
      exact (e0 399 (11 + c) (by first | decide | omega)).trans h9
    refine gx_ld (i := 4) (d := 0) (v := .inl k) rfl (fun _ => rfl) l4 rfl rfl ?_
    refine ex_go (S := (10, cl, [.inl 200, .inl k], t0, n, 0)) rfl (fun _ => rfl) rfl ?_
    refine gx_2f (c := .ge) rfl (by first | decide | omega) (by first | decide | omega) (show ¬ (200 ≤ k) from by omega) rfl ?_
    refine gx_ld (i := 0) (d := 2) (v := gx_r 383) rfl (fun _ => rfl) l0 rfl rfl ?_
    refine gx_ld (i := 1) (d := 0) (v := .inl c) rfl (fun _ => rfl) l1 rfl rfl ?_
    refine gx_ld (i := 0) (d := 2) (v := gx_r 383) rfl (fun _ => rfl) l0 rfl rfl ?_
    refine gx_ref (c := 399) rfl g0 rfl rfl rfl rfl ?_
    refine ex_go (S := (20, cl, [.inl 0, gx_r 399, .inl c, gx_r 383], t0, n, 0)) rfl (fun _ => rfl) rfl ?_
    refine gx_ag (v := .inl (σ 0)) (cb := fun c => Nat.beq c 0) rfl (fun _ => rfl) g0 rfl rfl k0 (by first | decide | omega) rfl ?_
    refine gx_ld (i := 4) (d := 0) (v := .inl k) rfl (fun _ => rfl) l4 rfl rfl ?_
    refine ex_iadd rfl (by first | decide | omega) rfl ?_
    refine gx_ld (i := 0) (d := 2) (v := gx_r 383) rfl (fun _ => rfl) l0 rfl rfl ?_
    refine gx_ref (c := 399) rfl g0 rfl rfl rfl rfl ?_
    refine ex_go (S := (30, cl, [.inl 11, gx_r 399, .inl ((σ 0) + k), .inl c, gx_r 383], t0, n, 0)) rfl (fun _ => rfl) rfl ?_
    refine gx_ld (i := 1) (d := 0) (v := .inl c) rfl (fun _ => rfl) l1 rfl rfl ?_
    refine ex_iadd rfl (by first | decide | omega) rfl ?_
    refine gx_ag (v := .inl (σ (11 + c))) (cb := fun c => Nat.beq c 0) rfl (fun _ => rfl) g0 rfl rfl k11 (by first | decide | omega) rfl ?_
    obtain ⟨_, r121, t121, rfl, g121, e121⟩ := sr_eats d n (c := c) (ti := σ 0 + k) (ou := σ (11 + c)) g0 (RW_keep hR (fun i hi => e0 389 i (by first | decide | omega)) (fun c i hc _ => e0 c i (by first | decide | omega))) hc (by first | decide | omega) (by first | decide | omega)
    refine gx_call1 rfl rfl g0 rfl rfl r121 rfl ?_
    have k22 : ai_hv t121 399 0 = some (.inl (σ 0)) := (e121 399 0 (by first | decide | omega)).trans k0
    have k23 : ai_hv t121 399 (11 + c) = some (.inl (σ (11 + c))) := (e121 399 (11 + c) (by first | decide | omega)).trans k11
    show en_ex _ _ _ _ (36, cl, [.inl (eatk w L σ c k)], t121, n, 0) _
    refine gx_sto (i := 5) (d := 0) rfl (fun _ => rfl) rfl rfl (fun l24 hl24 ml24 => ?_)
    have l24_0 : en_ld l24 0 = some (gx_r 383) := ml24 0 _ l0 rfl
    have l24_1 : en_ld l24 1 = some (.inl c) := ml24 1 _ l1 rfl
    have l24_3 : en_ld l24 3 = some (.inl b) := ml24 3 _ l3 rfl
    have l24_4 : en_ld l24 4 = some (.inl k) := ml24 4 _ l4 rfl
    refine gx_ld (i := 5) (d := 0) (v := .inl (eatk w L σ c k)) rfl (fun _ => rfl) hl24 rfl rfl ?_
    refine gx_ld (i := 3) (d := 0) (v := .inl b) rfl (fun _ => rfl) l24_3 rfl rfl ?_
    by_cases hlt : b < eatk w L σ c k
    · rw [lstf_lt hlt] at hv
      refine gx_2f (c := .le) rfl (by first | decide | omega) (by first | decide | omega) (show ¬ (eatk w L σ c k ≤ b) from by omega) rfl ?_
      refine gx_ld (i := 4) (d := 0) (v := .inl k) rfl (fun _ => rfl) l24_4 rfl rfl ?_
      refine ex_ret (r := (some (.inl k), t121, n, 0)) rfl (fun _ => rfl) ?_
      rw [hv]
      exact hQ _ g121 (fun c i h => (e121 c i h).trans (e0 c i h))
    · rw [lstf_ge hlt] at hv
      refine gx_2t (c := .le) rfl (by first | decide | omega) (by first | decide | omega) (show eatk w L σ c k ≤ b from by omega) rfl ?_
      refine gx_ld (i := 3) (d := 0) (v := .inl b) rfl (fun _ => rfl) l24_3 rfl rfl ?_
      refine gx_ld (i := 5) (d := 0) (v := .inl (eatk w L σ c k)) rfl (fun _ => rfl) hl24 rfl rfl ?_
      refine gx_isub rfl (by first | decide | omega) (by first | decide | omega) rfl ?_
      refine gx_sto (i := 3) (d := 0) rfl (fun _ => rfl) rfl rfl (fun l25 hl25 ml25 => ?_)
      have l25_0 : en_ld l25 0 = some (gx_r 383) := ml25 0 _ l24_0 rfl
      have l25_1 : en_ld l25 1 = some (.inl c) := ml25 1 _ l24_1 rfl
      have l25_4 : en_ld l25 4 = some (.inl k) := ml25 4 _ l24_4 rfl
      have l25_5 : en_ld l25 5 = some (.inl (eatk w L σ c k)) := ml25 5 _ hl24 rfl
      refine gx_incS (i := 4) (a := k) (x := 1) rfl (fun _ => rfl) l25_4 (by first | decide | omega) rfl (fun l26 hl26 ml26 => ?_)
      have l26_0 : en_ld l26 0 = some (gx_r 383) := ml26 0 _ l25_0 rfl
      have l26_1 : en_ld l26 1 = some (.inl c) := ml26 1 _ l25_1 rfl
      have l26_5 : en_ld l26 5 = some (.inl (eatk w L σ c k)) := ml26 5 _ l25_5 rfl
      have l26_3 : en_ld l26 3 = some (.inl (b - (eatk w L σ c k))) := ml26 3 _ hl25 rfl
      refine ex_go (S := (5, l26, [], t121, n, 0)) rfl (fun _ => rfl) rfl ?_
      exact ih (k + 1) _ _ _ (by first | decide | omega) (by first | decide | omega) g121 (fun c i h => (e121 c i h).trans (e0 c i h)) hv l26_0 l26_1 l26_3 hl26
theorem sr_lastsWith (d n : Nat) {t0 : en_H} {w : Nat → Nat → Nat} {L : List Nat} {σ : Nat → Nat} {c b : Nat} (g0 : ai_HG ah_G t0) (hR : RW t0 w L) (hS : blk t0 0 σ) (hB : σ 0 ≤ 900000) (hc : c < w 0 4) (ho : σ (11 + c) ≤ 1) (hb : b ≤ 19998) : ∃ r, en_u (d + 5) 141 [gx_r 383, .inl c, .inl b] t0 n = some r ∧ ∃ t', r = (some (.inl (lstf (eatk w L σ c) 200 0 b)), t', n, 0) ∧ ai_HG ah_G t' ∧ (∀ c i, ¬ ((c = 397 ∧ i < 3) ∨ c = 398) → ai_hv t' c i = ai_hv t0 c i) := by
  refine en_u_ex (d := d + 4) rfl ?_
  show en_ex _ _ _ _ (0, [(0, gx_r 383), (1, .inl c), (2, .inl b)], [], t0, n, 0) _
  refine ex_go (S := (1, [(0, gx_r 383), (1, .inl c), (2, .inl b)], [.inl b], t0, n, 0)) rfl (fun _ => rfl) rfl ?_
  refine ex_go (S := (2, [(3, .inl b), (0, gx_r 383), (1, .inl c), (2, .inl b)], [], t0, n, 0)) rfl (fun _ => rfl) rfl ?_
  refine ex_go (S := (3, [(3, .inl b), (0, gx_r 383), (1, .inl c), (2, .inl b)], [.inl 0], t0, n, 0)) rfl (fun _ => rfl) rfl ?_
  refine ex_go (S := (5, [(4, .inl 0), (3, .inl b), (0, gx_r 383), (1, .inl c), (2, .inl b)], [], t0, n, 0)) rfl (fun _ => rfl) rfl ?_
  exact lr_l d n hR hS hB hc ho (fun t1 g1 e1 => ⟨_, rfl, _, rfl, g1, e1⟩) 200 0 _ _ _ (by first | decide | omega) hb g0 (fun _ _ _ => rfl) rfl rfl rfl rfl rfl
theorem sr_lasts (d n : Nat) {t0 : en_H} {w : Nat → Nat → Nat} {L : List Nat} {σ : Nat → Nat} {c : Nat} (g0 : ai_HG ah_G t0) (hR : RW t0 w L) (hS : blk t0 0 σ) (hB : σ 0 ≤ 900000) (ho : ∀ c, c < w 0 4 → σ (11 + c) ≤ 1 ∧ σ (7 + c) ≤ 19998) (hc : c < 4294967296) : ∃ r, en_u (d + 6) 69 [gx_r 383, .inl c] t0 n = some r ∧ ∃ v t', r = (some (.inl v), t', n, 0) ∧ ((c < w 0 4) → v = lstf (eatk w L σ c) 200 0 (σ (7 + c))) ∧ (¬ c < w 0 4 → v = 4294967295) := by
  have hK := hR.2.1.2.2.2.2.1
  refine en_u_ex (d := d + 5) rfl ?_
  show en_ex _ _ _ _ (0, [(0, gx_r 383), (1, .inl c)], [], t0, n, 0) _
  refine ex_go (S := (1, [(0, gx_r 383), (1, .inl c)], [gx_r 383], t0, n, 0)) rfl (fun _ => rfl) rfl ?_
  refine ex_go (S := (2, [(0, gx_r 383), (1, .inl c)], [.inl 0, gx_r 383], t0, n, 0)) rfl (fun _ => rfl) rfl ?_
  refine gx_put rfl g0 rfl rfl (ai_in_h (by first | decide | omega) (by first | decide | omega) (by first | decide | omega)) rfl (fun t121 g121 k121 e121 => ?_)
  refine ex_go (S := (6, [(0, gx_r 383), (1, .inl c)], [gx_r 383], t121, n, 0)) rfl (fun _ => rfl) rfl ?_
  refine ex_go (S := (7, [(0, gx_r 383), (1, .inl c)], [.inl c, gx_r 383], t121, n, 0)) rfl (fun _ => rfl) rfl ?_
  obtain ⟨_, r122, b122, rfl, hb122, hi122⟩ := sr_isCrew (d + 3) n (c := c) (K := w 0 4) g121 (by first | decide | omega) ((e121 389 4 (by first | decide | omega)).trans ((hR.1 4 (by first | decide | omega)))) (by first | decide | omega)
  refine gx_call1 rfl rfl g121 rfl rfl r122 rfl ?_
  show en_ex _ _ _ _ (10, [(0, gx_r 383), (1, .inl c)], [.inl b122], t121, n, 0) _
  by_cases hc23 : b122 = 0
  · refine gx_1t (c := .eq) rfl (by first | decide | omega) hc23 rfl ?_
    refine ex_go (S := (31, [(0, gx_r 383), (1, .inl c)], [.inl 4294967295], t121, n, 0)) rfl (fun _ => rfl) rfl ?_
    refine ex_ret (r := (some (.inl 4294967295), t121, n, 0)) rfl (fun _ => rfl) ?_
    exact ⟨_, rfl, _, _, rfl, (fun c9 => absurd c9 (by first | decide | omega)), (fun _ => rfl)⟩
  · refine gx_1f (c := .eq) rfl (by first | decide | omega) hc23 rfl ?_
    refine ex_go (S := (14, [(0, gx_r 383), (1, .inl c)], [gx_r 383], t121, n, 0)) rfl (fun _ => rfl) rfl ?_
    refine ex_go (S := (15, [(0, gx_r 383), (1, .inl c)], [.inl c, gx_r 383], t121, n, 0)) rfl (fun _ => rfl) rfl ?_
    refine ex_go (S := (16, [(0, gx_r 383), (1, .inl c)], [gx_r 383, .inl c, gx_r 383], t121, n, 0)) rfl (fun _ => rfl) rfl ?_
    refine gx_ref (c := 399) rfl g121 rfl rfl rfl rfl ?_
    refine ex_go (S := (21, [(0, gx_r 383), (1, .inl c)], [.inl 7, gx_r 399, .inl c, gx_r 383], t121, n, 0)) rfl (fun _ => rfl) rfl ?_
    refine ex_go (S := (22, [(0, gx_r 383), (1, .inl c)], [.inl c, .inl 7, gx_r 399, .inl c, gx_r 383], t121, n, 0)) rfl (fun _ => rfl) rfl ?_
    refine ex_iadd rfl (by first | decide | omega) rfl ?_
    have k24 : ai_hv t121 399 (7 + c) = some (.inl (σ (7 + c))) := by
      have h9 := hS (7 + c) (by first | decide | omega)
      rw [Nat.zero_add] at h9
      exact (e121 399 (7 + c) (by first | decide | omega)).trans (h9)
    have hk24 := (ho c (by first | decide | omega)).2
    refine gx_ag (v := .inl (σ (7 + c))) (cb := fun c => Nat.beq c 0) rfl (fun _ => rfl) g121 rfl rfl k24 (by first | decide | omega) rfl ?_
    obtain ⟨_, r125, t125, rfl, g125, e125⟩ := sr_lastsWith d n (σ := σ) (c := c) (b := σ (7 + c)) g121 (RW_keep hR (fun i hi => e121 389 i (by first | decide | omega)) (fun c i hc _ => e121 c i (by first | decide | omega))) (blk_keep hS (fun j hj => e121 399 _ (by first | decide | omega))) hB (by first | decide | omega) (ho c (by first | decide | omega)).1 (ho c (by first | decide | omega)).2
    refine gx_call1 rfl rfl g121 rfl rfl r125 rfl ?_
    have k26 : ai_hv t125 383 0 = some (.inl 0) := (e125 383 0 (by first | decide | omega)).trans k121
    have k27 : ai_hv t125 399 (7 + c) = some (.inl (σ (7 + c))) := (e125 399 (7 + c) (by first | decide | omega)).trans k24
    show en_ex _ _ _ _ (27, [(0, gx_r 383), (1, .inl c)], [.inl (lstf (eatk w L σ c) 200 0 (σ (7 + c)))], t125, n, 0) _
    refine ex_go (S := (31, [(0, gx_r 383), (1, .inl c)], [.inl (lstf (eatk w L σ c) 200 0 (σ (7 + c)))], t125, n, 0)) rfl (fun _ => rfl) rfl ?_
    refine ex_ret (r := (some (.inl (lstf (eatk w L σ c) 200 0 (σ (7 + c)))), t125, n, 0)) rfl (fun _ => rfl) ?_
    exact ⟨_, rfl, _, _, rfl, (fun _ => rfl), (fun c9 => absurd (by first | decide | omega) c9)⟩
theorem zs_lasts191 {n B x : Nat} {t : en_H} (g0 : ai_HG ah_G t) (hP : SPk 191 t) (hZ : ZS B t) (hB : B ≤ 900000) (hx : x < 4294967296) : zs_A 68 69 [gx_r 0, .inl x] [gx_r 383, .inl x] t n := by
  obtain ⟨k10, w, L, hR, hC, hX⟩ := hP
  obtain ⟨T, K, σ, u, τ, F, μ, q, v, ⟨hT, hK⟩, hS, hS', hB5, -⟩ := hZ
  have eT := wv_one hT (hR.1 2 (by decide))
  have eK := wv_one hK (hR.1 4 (by decide))
  subst eT eK
  have hw := WS_of hR
  have hK2 := hw.1.2.2.2.2.1
  obtain ⟨-, ⟨h7, h8⟩, ⟨h11, h12⟩, -⟩ := zs_sbd g0 hS.1
  have hσ := hB5.2.1
  have ho : ∀ c, c < w 0 4 → σ (11 + c) ≤ 1 ∧ σ (7 + c) ≤ 19998 := fun c hc => by
    rcases (show c = 0 ∨ c = 1 by omega) with rfl | rfl
    · exact ⟨h11, h7⟩
    · exact ⟨h12, h8⟩
  obtain ⟨_, r1, z1, t1, rfl, g1, e1, a1, a2⟩ := sc_lasts191 55 n g0 hC hw hS'.1 k10 (by first | decide | omega) ho hx
  obtain ⟨_, r2, z2, t2, rfl, b1, b2⟩ := sr_lasts 54 n g1 (RW_keep hR (fun i hi => e1 389 i (by first | decide | omega)) (fun c i hc _ => e1 c i (by first | decide | omega))) (blk_keep hS.1 (fun j hj => e1 399 _ (by first | decide | omega))) (by first | decide | omega) ho hx
  have e : z2 = z1 := by
    by_cases c : x < w 0 4
    · rw [a1 c, b1 c]
    · rw [a2 c, b2 c]
  subst e
  exact ⟨_, _, _, r1, r2⟩
theorem zs_lasts257 {n B x : Nat} {t : en_H} (g0 : ai_HG ah_G t) (hP : SPk 257 t) (hZ : ZS B t) (hB : B ≤ 900000) (hx : x < 4294967296) : zs_A 68 69 [gx_r 0, .inl x] [gx_r 383, .inl x] t n := by
  obtain ⟨k10, w, L, hR, hC, hX⟩ := hP
  obtain ⟨T, K, σ, u, τ, F, μ, q, v, ⟨hT, hK⟩, hS, hS', hB5, -⟩ := hZ
  have eT := wv_one hT (hR.1 2 (by decide))
  have eK := wv_one hK (hR.1 4 (by decide))
  subst eT eK
  have hw := WS_of hR
  have hK2 := hw.1.2.2.2.2.1
  obtain ⟨-, ⟨h7, h8⟩, ⟨h11, h12⟩, -⟩ := zs_sbd g0 hS.1
  have hσ := hB5.2.1
  have ho : ∀ c, c < w 0 4 → σ (11 + c) ≤ 1 ∧ σ (7 + c) ≤ 19998 := fun c hc => by
    rcases (show c = 0 ∨ c = 1 by omega) with rfl | rfl
    · exact ⟨h11, h7⟩
    · exact ⟨h12, h8⟩
  obtain ⟨_, r1, z1, t1, rfl, g1, e1, a1, a2⟩ := sc_lasts257 55 n g0 hC hw hS'.1 k10 (by first | decide | omega) ho hx
  obtain ⟨_, r2, z2, t2, rfl, b1, b2⟩ := sr_lasts 54 n g1 (RW_keep hR (fun i hi => e1 389 i (by first | decide | omega)) (fun c i hc _ => e1 c i (by first | decide | omega))) (blk_keep hS.1 (fun j hj => e1 399 _ (by first | decide | omega))) (by first | decide | omega) ho hx
  have e : z2 = z1 := by
    by_cases c : x < w 0 4
    · rw [a1 c, b1 c]
    · rw [a2 c, b2 c]
  subst e
  exact ⟨_, _, _, r1, r2⟩
end SSV
