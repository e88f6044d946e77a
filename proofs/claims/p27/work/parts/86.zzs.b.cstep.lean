section SSB
/-- what is told, as the class keeps it in the cell p -/
noncomputable def CW (t : en_H) (p : Nat) (w : Nat → Nat → Nat) (L : List Nat) : Prop := (ai_hv t p 0 = some (.inl (w 0 0)) ∧ ai_hv t p 1 = some (.inl (w 0 1)) ∧ ai_hv t p 2 = some (.inl (w 0 5)) ∧ ai_hv t (p + 3) 5 = some (.inl (w 0 2)) ∧ ai_hv t (p + 9) 5 = some (.inl (w 0 3)) ∧ ai_hv t (p + 15) 5 = some (.inl (w 0 4))) ∧ (∀ j, j < 64 → ai_hv t (p + 1) j = some (.inl (w 1 j)) ∧ ai_hv t (p + 2) j = some (.inl (fto w j))) ∧ (∀ c, c < w 0 4 → ai_hv t (p + 17) c = some (.inl (w 3 c)) ∧ ai_hv t (p + 18) c = some (.inl (w 2 c)) ∧ ai_hv t (p + 19) c = some (.inl (w 4 c))) ∧ (∀ i, i < w 0 2 → ai_hv t (p + 5) i = some (.inl (w 5 i)) ∧ ai_hv t (p + 6) i = some (.inl (w 6 i))) ∧ (∀ k, k < w 0 3 → ai_hv t (p + 11) k = some (.inl (w 7 k)) ∧ ai_hv t (p + 12) k = some (.inl (w 8 k)) ∧ ai_hv t (p + 13) k = some (.inl (w 9 k)) ∧ ai_hv t (p + 14) k = some (.inl (w 10 k))) ∧ CLs t (p + 39) L ∧ L.length ≤ 1000 ∧ (∀ z, z ∈ L → vo 7 z) ∧ hrun 25 L 0 = some 1
/-- the numbers of the told world are small -/
noncomputable def WS (w : Nat → Nat → Nat) : Prop := (w 0 0 ≤ 8 ∧ w 0 1 ≤ 8 ∧ w 0 2 ≤ 6 ∧ w 0 3 ≤ 6 ∧ w 0 4 ≤ 2 ∧ 1 ≤ w 0 5 ∧ w 0 5 ≤ 4) ∧ (∀ c, c < w 0 4 → w 3 c < w 0 2 ∧ w 2 c ≤ 30 ∧ w 4 c ≤ 9999) ∧ (∀ i, i < w 0 2 → w 5 i ≤ 3 ∧ w 6 i ≤ 63) ∧ ∀ k, k < w 0 3 → w 7 k ≤ 63 ∧ (1 ≤ w 8 k ∧ w 8 k ≤ 30) ∧ w 9 k ≤ 29 ∧ w 10 k ≤ 30
theorem WS_of {t : en_H} {w : Nat → Nat → Nat} {L : List Nat} (h : RW t w L) : WS w := by
  obtain ⟨h1, h2, h3, h4, h5, h6, h7⟩ := h
  refine ⟨h2, fun c hc => ?_, fun i hi => ?_, fun k hk => ?_⟩
  · obtain ⟨-, a2, -, a4, -, a6⟩ := h4 c hc
    exact ⟨a2, a4, a6⟩
  · obtain ⟨-, a2, x, y, -, -, a5, a6, a7⟩ := h5 i hi
    exact ⟨a2, by omega⟩
  · obtain ⟨-, a2, -, a4, -, a6, -, a8⟩ := h6 k hk
    exact ⟨a2, a4, a6, a8⟩
theorem fto_lt {w : Nat → Nat → Nat} {q : Nat} (h : WS w) (hq : q < 64) : fto w q < 64 := nb_lt hq h.1.1 h.1.2.1
theorem CW_keep {t t' : en_H} {p : Nat} {w : Nat → Nat → Nat} {L : List Nat} (h : CW t p w L) (e : ∀ c i, (c = p ∧ i ≤ 2) ∨ c = p + 1 ∨ c = p + 2 ∨ (p + 3 ≤ c ∧ c ≤ p + 38) ∨ (c = p + 39 ∧ i = 2) ∨ c = p + 41 → ai_hv t' c i = ai_hv t c i) : CW t' p w L := by
  obtain ⟨⟨a1, a2, a3, a4, a5, a6⟩, h2, h3, h4, h5, h6, h7⟩ := h
  refine ⟨⟨(e _ _ (by first | decide | omega)).trans a1, (e _ _ (by first | decide | omega)).trans a2, (e _ _ (by first | decide | omega)).trans a3, (e _ _ (by first | decide | omega)).trans a4, (e _ _ (by first | decide | omega)).trans a5, (e _ _ (by first | decide | omega)).trans a6⟩, fun j hj => ⟨(e _ _ (by first | decide | omega)).trans (h2 j hj).1, (e _ _ (by first | decide | omega)).trans (h2 j hj).2⟩, fun c hc => ?_, fun i hi => ⟨(e _ _ (by first | decide | omega)).trans (h4 i hi).1, (e _ _ (by first | decide | omega)).trans (h4 i hi).2⟩, fun k hk => ?_, CLs_keep h6 (e _ _ (by first | decide | omega)) (fun j => e _ _ (by first | decide | omega)), h7⟩
  · obtain ⟨b1, b2, b3⟩ := h3 c hc
    exact ⟨(e _ _ (by first | decide | omega)).trans b1, (e _ _ (by first | decide | omega)).trans b2, (e _ _ (by first | decide | omega)).trans b3⟩
  · obtain ⟨b1, b2, b3, b4⟩ := h5 k hk
    exact ⟨(e _ _ (by first | decide | omega)).trans b1, (e _ _ (by first | decide | omega)).trans b2, (e _ _ (by first | decide | omega)).trans b3, (e _ _ (by first | decide | omega)).trans b4⟩
/-- how all stands in the class's cell A; what is told alone counts -/
noncomputable def SC (t : en_H) (A T K : Nat) (σ : Nat → Nat) : Prop := ai_hv t A 0 = some (.inl (σ 0)) ∧ (∀ i, i < T → ai_hv t (A + 1) i = some (.inl (σ (1 + i)))) ∧ ∀ c, c < K → ai_hv t (A + 2) c = some (.inl (σ (7 + c))) ∧ ai_hv t (A + 3) c = some (.inl (σ (9 + c))) ∧ ai_hv t (A + 4) c = some (.inl (σ (11 + c))) ∧ ai_hv t (A + 5) c = some (.inl (σ (15 + c))) ∧ (σ (11 + c) = 1 → ai_hv t (A + 6) c = some (.inl (σ (13 + c))))
theorem SC_keep {t t' : en_H} {A T K : Nat} {σ : Nat → Nat} (h : SC t A T K σ) (e : ∀ c i, A ≤ c → c ≤ A + 6 → ai_hv t' c i = ai_hv t c i) : SC t' A T K σ := by
  obtain ⟨h1, h2, h3⟩ := h
  refine ⟨(e _ _ (by first | decide | omega) (by first | decide | omega)).trans h1, fun i hi => (e _ _ (by first | decide | omega) (by first | decide | omega)).trans (h2 i hi), fun c hc => ?_⟩
  obtain ⟨a1, a2, a3, a4, a5⟩ := h3 c hc
  exact ⟨(e _ _ (by first | decide | omega) (by first | decide | omega)).trans a1, (e _ _ (by first | decide | omega) (by first | decide | omega)).trans a2, (e _ _ (by first | decide | omega) (by first | decide | omega)).trans a3, (e _ _ (by first | decide | omega) (by first | decide | omega)).trans a4, fun z => (e _ _ (by first | decide | omega) (by first | decide | omega)).trans (a5 z)⟩
theorem sbd_stp {w : Nat → Nat → Nat} {L : List Nat} {σ : Nat → Nat} (hw : WS w) (h : sbd σ) : sbd (stp w L σ) := by
  obtain ⟨h1, ⟨h7, h8⟩, ⟨h11, h12⟩, ⟨h13, h14⟩, ⟨h15, h16⟩, h0, h9, h10⟩ := h
  have b7 : stp w L σ 7 = if 0 < w 0 4 then σ 7 - meal w L σ 0 else σ 7 := stp_bi (c := 0) (by decide)
  have b8 : stp w L σ 8 = if 1 < w 0 4 then σ 8 - meal w L σ 1 else σ 8 := stp_bi (c := 1) (by decide)
  have b13 : stp w L σ 13 = if 0 < w 0 4 then (if σ 11 = 1 then fto w (σ 13) else 0) else σ 13 := stp_sl (c := 0) (by decide)
  have b14 : stp w L σ 14 = if 1 < w 0 4 then (if σ 12 = 1 then fto w (σ 14) else 0) else σ 14 := stp_sl (c := 1) (by decide)
  have b15 : stp w L σ 15 = if 0 < w 0 4 then 0 else σ 15 := stp_ha (c := 0) (by decide)
  have b16 : stp w L σ 16 = if 1 < w 0 4 then 0 else σ 16 := stp_ha (c := 1) (by decide)
  have f13 := fto_lt (q := σ 13) hw (by first | decide | omega)
  have f14 := fto_lt (q := σ 14) hw (by first | decide | omega)
  refine ⟨fun i hi => ?_, ⟨?_, ?_⟩, ⟨?_, ?_⟩, ⟨?_, ?_⟩, ⟨?_, ?_⟩, ?_, ?_, ?_⟩
  · rw [stp_pl hi]
    have f := fto_lt (q := σ (1 + i)) hw (by have := h1 i hi; omega)
    have := h1 i hi
    split <;> omega
  · rw [b7]; split <;> omega
  · rw [b8]; split <;> omega
  · rw [stp_mid (by decide) (by decide)]; exact h11
  · rw [stp_mid (by decide) (by decide)]; exact h12
  · rw [b13]; split
    · split <;> omega
    · omega
  · rw [b14]; split
    · split <;> omega
    · omega
  · rw [b15]; split <;> omega
  · rw [b16]; split <;> omega
  · rw [stp_0]; exact wrap_lt
  · rw [stp_mid (by decide) (by decide)]; exact h9
  · rw [stp_mid (by decide) (by decide)]; exact h10
theorem sc_app8_191 (d n : Nat) {t0 : en_H} {L : List Nat} {c me ti ou : Nat} (g0 : ai_HG ah_G t0) (hc : c ≤ 1) (km : ai_hv t0 209 c = some (.inl me)) (hm : me < 2147483648) (ko : ai_hv t0 12 c = some (.inl ou)) (ho : ou ≤ 1) (hti : ti < 4294967296) (kL : CLs t0 230 L) (hs : L.length ≤ 1000) (hv : ∀ z, z ∈ L → vo 7 z) (hr : hrun 25 L 0 = some 1) : ∃ r, en_u (d + 3) 140 [gx_r 8, gx_r 191, .inl c, .inl ti] t0 n = some r ∧ ∃ t', r = (some (.inl (eat L me ti ou)), t', n, 0) ∧ ai_HG ah_G t' ∧ (∀ c i, c ≠ 231 → ai_hv t' c i = ai_hv t0 c i) := by
  have hc' : cco t0 230 0 L := cco_of (fun j hj => by rw [Nat.zero_add]; exact kL.2 j hj)
  rcases (show ou = 0 ∨ ou = 1 by omega) with rfl | rfl
  · refine en_u_ex (d := d + 2) rfl ?_
    show en_ex _ _ _ _ (0, [(0, gx_r 8), (1, gx_r 191), (2, .inl c), (3, .inl ti)], [], t0, n, 0) _
    refine ex_go (S := (1, [(0, gx_r 8), (1, gx_r 191), (2, .inl c), (3, .inl ti)], [gx_r 191], t0, n, 0)) rfl (fun _ => rfl) rfl ?_
    refine gxo_ref (a := 191) (c := 230) rfl g0 rfl rfl rfl rfl rfl ?_
    refine ex_go (S := (6, [(0, gx_r 8), (1, gx_r 191), (2, .inl c), (3, .inl ti)], [.inl 99, gx_r 230], t0, n, 0)) rfl (fun _ => rfl) rfl ?_
    refine ex_go (S := (7, [(0, gx_r 8), (1, gx_r 191), (2, .inl c), (3, .inl ti)], [gx_r 191, .inl 99, gx_r 230], t0, n, 0)) rfl (fun _ => rfl) rfl ?_
    refine gxo_ref (a := 191) (c := 206) rfl g0 rfl rfl rfl rfl rfl ?_
    refine gxo_ref (a := 206) (c := 209) rfl g0 rfl rfl rfl rfl rfl ?_
    refine ex_go (S := (14, [(0, gx_r 8), (1, gx_r 191), (2, .inl c), (3, .inl ti)], [.inl c, gx_r 209, .inl 99, gx_r 230], t0, n, 0)) rfl (fun _ => rfl) rfl ?_
    refine gx_ag (v := .inl me) (cb := fun c => Nat.beq c 0) rfl (fun _ => rfl) g0 rfl rfl km (by first | decide | omega) rfl ?_
    refine ex_go (S := (16, [(0, gx_r 8), (1, gx_r 191), (2, .inl c), (3, .inl ti)], [.inl ti, .inl me, .inl 99, gx_r 230], t0, n, 0)) rfl (fun _ => rfl) rfl ?_
    refine ex_go (S := (17, [(0, gx_r 8), (1, gx_r 191), (2, .inl c), (3, .inl ti)], [gx_r 8, .inl ti, .inl me, .inl 99, gx_r 230], t0, n, 0)) rfl (fun _ => rfl) rfl ?_
    refine gxo_ref (a := 8) (c := 12) rfl g0 rfl rfl rfl rfl rfl ?_
    refine ex_go (S := (21, [(0, gx_r 8), (1, gx_r 191), (2, .inl c), (3, .inl ti)], [.inl c, gx_r 12, .inl ti, .inl me, .inl 99, gx_r 230], t0, n, 0)) rfl (fun _ => rfl) rfl ?_
    refine gx_ag (v := .inl 0) (cb := fun c => Nat.beq c 2 || Nat.beq c 1) rfl (fun _ => rfl) g0 rfl rfl ko (by first | decide | omega) rfl ?_
    refine ex_go (S := (29, [(0, gx_r 8), (1, gx_r 191), (2, .inl c), (3, .inl ti)], [.inl ti, .inl me, .inl 99, gx_r 230], t0, n, 0)) rfl (fun _ => rfl) rfl ?_
    refine ex_go (S := (30, [(0, gx_r 8), (1, gx_r 191), (2, .inl c), (3, .inl ti)], [.inl 0, .inl ti, .inl me, .inl 99, gx_r 230], t0, n, 0)) rfl (fun _ => rfl) rfl ?_
    obtain ⟨_, r121, v121, t121, rfl, hv121, -, g121, e121⟩ := pc_value230 d n (mo := 99) (me := me) (ti := ti) (ou := 0) (L := L) g0 (by decide) (by first | decide | omega) hti (by decide) kL.1 hs hc' (fun z hz => ⟨_, hv z hz⟩) hr
    rw [eat_of hv121] at r121
    refine gx_callo (a := 230) rfl rfl g0 rfl rfl rfl r121 rfl ?_
    have k22 : ai_hv t121 209 c = some (.inl me) := (e121 209 c (by first | decide | omega)).trans km
    have k23 : ai_hv t121 12 c = some (.inl 0) := (e121 12 c (by first | decide | omega)).trans ko
    show en_ex _ _ _ _ (33, [(0, gx_r 8), (1, gx_r 191), (2, .inl c), (3, .inl ti)], [.inl (eat L me ti 0)], t121, n, 0) _
    refine ex_ret (r := (some (.inl (eat L me ti 0)), t121, n, 0)) rfl (fun _ => rfl) ?_
    exact ⟨_, rfl, t121, rfl, g121, e121⟩
  · refine en_u_ex (d := d + 2) rfl ?_
    show en_ex _ _ _ _ (0, [(0, gx_r 8), (1, gx_r 191), (2, .inl c), (3, .inl ti)], [], t0, n, 0) _
    refine ex_go (S := (1, [(0, gx_r 8), (1, gx_r 191), (2, .inl c), (3, .inl ti)], [gx_r 191], t0, n, 0)) rfl (fun _ => rfl) rfl ?_
    refine gxo_ref (a := 191) (c := 230) rfl g0 rfl rfl rfl rfl rfl ?_
    refine ex_go (S := (6, [(0, gx_r 8), (1, gx_r 191), (2, .inl c), (3, .inl ti)], [.inl 99, gx_r 230], t0, n, 0)) rfl (fun _ => rfl) rfl ?_
    refine ex_go (S := (7, [(0, gx_r 8), (1, gx_r 191), (2, .inl c), (3, .inl ti)], [gx_r 191, .inl 99, gx_r 230], t0, n, 0)) rfl (fun _ => rfl) rfl ?_
    refine gxo_ref (a := 191) (c := 206) rfl g0 rfl rfl rfl rfl rfl ?_
    refine gxo_ref (a := 206) (c := 209) rfl g0 rfl rfl rfl rfl rfl ?_
    refine ex_go (S := (14, [(0, gx_r 8), (1, gx_r 191), (2, .inl c), (3, .inl ti)], [.inl c, gx_r 209, .inl 99, gx_r 230], t0, n, 0)) rfl (fun _ => rfl) rfl ?_
    refine gx_ag (v := .inl me) (cb := fun c => Nat.beq c 0) rfl (fun _ => rfl) g0 rfl rfl km (by first | decide | omega) rfl ?_
    refine ex_go (S := (16, [(0, gx_r 8), (1, gx_r 191), (2, .inl c), (3, .inl ti)], [.inl ti, .inl me, .inl 99, gx_r 230], t0, n, 0)) rfl (fun _ => rfl) rfl ?_
    refine ex_go (S := (17, [(0, gx_r 8), (1, gx_r 191), (2, .inl c), (3, .inl ti)], [gx_r 8, .inl ti, .inl me, .inl 99, gx_r 230], t0, n, 0)) rfl (fun _ => rfl) rfl ?_
    refine gxo_ref (a := 8) (c := 12) rfl g0 rfl rfl rfl rfl rfl ?_
    refine ex_go (S := (21, [(0, gx_r 8), (1, gx_r 191), (2, .inl c), (3, .inl ti)], [.inl c, gx_r 12, .inl ti, .inl me, .inl 99, gx_r 230], t0, n, 0)) rfl (fun _ => rfl) rfl ?_
    refine gx_ag (v := .inl 1) (cb := fun c => Nat.beq c 2 || Nat.beq c 1) rfl (fun _ => rfl) g0 rfl rfl ko (by first | decide | omega) rfl ?_
    refine ex_go (S := (25, [(0, gx_r 8), (1, gx_r 191), (2, .inl c), (3, .inl ti)], [.inl ti, .inl me, .inl 99, gx_r 230], t0, n, 0)) rfl (fun _ => rfl) rfl ?_
    refine ex_go (S := (26, [(0, gx_r 8), (1, gx_r 191), (2, .inl c), (3, .inl ti)], [.inl 1, .inl ti, .inl me, .inl 99, gx_r 230], t0, n, 0)) rfl (fun _ => rfl) rfl ?_
    refine ex_go (S := (30, [(0, gx_r 8), (1, gx_r 191), (2, .inl c), (3, .inl ti)], [.inl 1, .inl ti, .inl me, .inl 99, gx_r 230], t0, n, 0)) rfl (fun _ => rfl) rfl ?_
    obtain ⟨_, r121, v121, t121, rfl, hv121, -, g121, e121⟩ := pc_value230 d n (mo := 99) (me := me) (ti := ti) (ou := 1) (L := L) g0 (by decide) (by first | decide | omega) hti (by decide) kL.1 hs hc' (fun z hz => ⟨_, hv z hz⟩) hr
    rw [eat_of hv121] at r121
    refine gx_callo (a := 230) rfl rfl g0 rfl rfl rfl r121 rfl ?_
    have k22 : ai_hv t121 209 c = some (.inl me) := (e121 209 c (by first | decide | omega)).trans km
    have k23 : ai_hv t121 12 c = some (.inl 1) := (e121 12 c (by first | decide | omega)).trans ko
    show en_ex _ _ _ _ (33, [(0, gx_r 8), (1, gx_r 191), (2, .inl c), (3, .inl ti)], [.inl (eat L me ti 1)], t121, n, 0) _
    refine ex_ret (r := (some (.inl (eat L me ti 1)), t121, n, 0)) rfl (fun _ => rfl) ?_
    exact ⟨_, rfl, t121, rfl, g121, e121⟩
theorem sc_pc8_191_0 (d n : Nat) {t0 : en_H} {w : Nat → Nat → Nat} {L : List Nat} {σ : Nat → Nat} {e : Nat} {cl : en_L} {Q : en_O → Prop} (g0 : ai_HG ah_G t0) (hC : CW t0 191 w L) (hw : WS w) (hb : sbd σ) (hc : 0 < w 0 4) (k0 : ai_hv t0 8 0 = some (.inl (σ 0))) (k7 : ai_hv t0 10 0 = some (.inl (σ 7))) (k11 : ai_hv t0 12 0 = some (.inl (σ 11))) (k13 : σ 11 = 1 → ai_hv t0 14 0 = some (.inl (σ 13))) (he : e ≤ 1000) (l0 : en_ld cl 0 = some (gx_r 8)) (l1 : en_ld cl 1 = some (gx_r 191)) (l2 : en_ld cl 2 = some (.inl e)) (l3 : en_ld cl 3 = some (.inl 0)) (hQ : ∀ cl' t', ai_HG ah_G t' → (∀ c i, ¬ (c = 231 ∨ ((c = 10 ∨ c = 13 ∨ c = 14) ∧ i = 0)) → ai_hv t' c i = ai_hv t0 c i) → ai_hv t' 13 0 = some (.inl 0) → ai_hv t' 10 0 = some (.inl (σ 7 - meal w L σ 0)) → (σ 11 = 1 → ai_hv t' 14 0 = some (.inl (fto w (σ 13)))) → en_ld cl' 0 = some (gx_r 8) → en_ld cl' 1 = some (gx_r 191) → en_ld cl' 2 = some (.inl (e + meal w L σ 0)) → en_ld cl' 3 = some (.inl 1) → en_ex none (en_u (d + 3)) (en_code 164) (fun _ => false) (4, cl', [], t', n, 0) Q) : en_ex none (en_u (d + 3)) (en_code 164) (fun _ => false) (4, cl, [], t0, n, 0) Q := by
  obtain ⟨⟨-, -, -, -, -, kK⟩, hnx, hcr, -, -, kL, hs, hv, hr⟩ := hC
  obtain ⟨hb1, ⟨hb7, hb8⟩, ⟨hb11, hb12⟩, ⟨hb13, hb14⟩, ⟨hb15, hb16⟩, hb0, -, -⟩ := hb
  obtain ⟨-, km, -⟩ := hcr 0 hc
  obtain ⟨-, hm, -⟩ := hw.2.1 0 hc
  have hea := eat_le (L := L) (me := w 2 0) (ti := σ 0) (ou := σ 11)
  have hml : meal w L σ 0 = min (eat L (w 2 0) (σ 0) (σ 11)) (σ 7) := rfl
  have hK := hw.1.2.2.2.2.1
  have hfl := fto_lt (q := σ 13) hw (by first | decide | omega)
  refine gx_ld (i := 3) (d := 0) (v := .inl 0) rfl (fun _ => rfl) l3 rfl rfl ?_
  refine gx_ld (i := 1) (d := 2) (v := gx_r 191) rfl (fun _ => rfl) l1 rfl rfl ?_
  refine gxo_ref (a := 191) (c := 206) rfl g0 rfl rfl rfl rfl rfl ?_
  refine gxo_get (a := 206) rfl g0 rfl rfl kK rfl ?_
  refine gx_2f (c := .ge) rfl (by first | decide | omega) (by first | decide | omega) (show ¬ (w 0 4 ≤ 0) from by omega) rfl ?_
  refine gx_ld (i := 0) (d := 2) (v := gx_r 8) rfl (fun _ => rfl) l0 rfl rfl ?_
  refine gxo_ref (a := 8) (c := 13) rfl g0 rfl rfl rfl rfl rfl ?_
  refine gx_ld (i := 3) (d := 0) (v := .inl 0) rfl (fun _ => rfl) l3 rfl rfl ?_
  refine ex_go (S := (21, cl, [.inl 0, .inl 0, gx_r 13], t0, n, 0)) rfl (fun _ => rfl) rfl ?_
  refine gx_apv (d := 2) rfl (fun _ => rfl) g0 rfl rfl rfl (show 0 < 2 from by omega) rfl (ai_in_h (by first | decide | omega) (by first | decide | omega) (by first | decide | omega)) rfl (fun t121 g121 k121 e121 => ?_)
  have k22 : ai_hv t121 8 0 = some (.inl (σ 0)) := (e121 8 0 (by first | decide | omega)).trans k0
  have k23 : ai_hv t121 10 0 = some (.inl (σ 7)) := (e121 10 0 (by first | decide | omega)).trans k7
  have k24 : ai_hv t121 12 0 = some (.inl (σ 11)) := (e121 12 0 (by first | decide | omega)).trans k11
  have k25 : ai_hv t121 206 5 = some (.inl (w 0 4)) := (e121 206 5 (by first | decide | omega)).trans kK
  refine gx_ld (i := 0) (d := 2) (v := gx_r 8) rfl (fun _ => rfl) l0 rfl rfl ?_
  refine gxo_ref (a := 8) (c := 10) rfl g121 rfl rfl rfl rfl rfl ?_
  refine gx_ld (i := 3) (d := 0) (v := .inl 0) rfl (fun _ => rfl) l3 rfl rfl ?_
  refine gx_ag (v := .inl (σ 7)) (cb := fun c => Nat.beq c 0) rfl (fun _ => rfl) g121 rfl rfl k23 (by first | decide | omega) rfl ?_
  refine gx_ld (i := 0) (d := 2) (v := gx_r 8) rfl (fun _ => rfl) l0 rfl rfl ?_
  refine gx_ld (i := 1) (d := 2) (v := gx_r 191) rfl (fun _ => rfl) l1 rfl rfl ?_
  refine gx_ld (i := 3) (d := 0) (v := .inl 0) rfl (fun _ => rfl) l3 rfl rfl ?_
  refine gx_ld (i := 0) (d := 2) (v := gx_r 8) rfl (fun _ => rfl) l0 rfl rfl ?_
  refine gxo_get (a := 8) rfl g121 rfl rfl k22 rfl ?_
  obtain ⟨_, r126, t126, rfl, g126, e126⟩ := sc_app8_191 d n (L := L) (c := 0) (me := w 2 0) (ti := σ 0) (ou := σ 11) g121 (by decide) ((e121 209 0 (by first | decide | omega)).trans (km)) (by first | decide | omega) ((e121 12 0 (by first | decide | omega)).trans (k11)) (by first | decide | omega) hb0 (CLs_keep kL (e121 230 2 (by first | decide | omega)) (fun j => e121 232 j (by first | decide | omega))) hs hv hr
  refine gx_callo (a := 8) rfl rfl g121 rfl rfl rfl r126 rfl ?_
  have k27 : ai_hv t126 8 0 = some (.inl (σ 0)) := (e126 8 0 (by first | decide | omega)).trans k22
  have k28 : ai_hv t126 10 0 = some (.inl (σ 7)) := (e126 10 0 (by first | decide | omega)).trans k23
  have k29 : ai_hv t126 12 0 = some (.inl (σ 11)) := (e126 12 0 (by first | decide | omega)).trans k24
  have k30 : ai_hv t126 206 5 = some (.inl (w 0 4)) := (e126 206 5 (by first | decide | omega)).trans k25
  have k31 : ai_hv t126 13 0 = some (.inl 0) := (e126 13 0 (by first | decide | omega)).trans k121
  show en_ex _ _ _ _ (38, cl, [.inl (eat L (w 2 0) (σ 0) (σ 11)), .inl (σ 7)], t126, n, 0) _
  refine gx_inn rfl rfl rfl (zk_min (by first | decide | omega) (by first | decide | omega)) rfl rfl ?_
  refine gx_sto (i := 4) (d := 0) rfl (fun _ => rfl) rfl rfl (fun l32 hl32 ml32 => ?_)
  have l32_0 : en_ld l32 0 = some (gx_r 8) := ml32 0 _ l0 rfl
  have l32_1 : en_ld l32 1 = some (gx_r 191) := ml32 1 _ l1 rfl
  have l32_2 : en_ld l32 2 = some (.inl e) := ml32 2 _ l2 rfl
  have l32_3 : en_ld l32 3 = some (.inl 0) := ml32 3 _ l3 rfl
  refine gx_ld (i := 0) (d := 2) (v := gx_r 8) rfl (fun _ => rfl) l32_0 rfl rfl ?_
  refine gxo_ref (a := 8) (c := 10) rfl g126 rfl rfl rfl rfl rfl ?_
  refine gx_ld (i := 3) (d := 0) (v := .inl 0) rfl (fun _ => rfl) l32_3 rfl rfl ?_
  refine ex_go (S := (49, l32, [.inl 0, gx_r 10, .inl 0, gx_r 10], t126, n, 0)) rfl (fun _ => rfl) rfl ?_
  refine gx_ag (v := .inl (σ 7)) (cb := fun c => Nat.beq c 0) rfl (fun _ => rfl) g126 rfl rfl k28 (by first | decide | omega) rfl ?_
  refine gx_ld (i := 4) (d := 0) (v := .inl (min (σ 7) (eat L (w 2 0) (σ 0) (σ 11)))) rfl (fun _ => rfl) hl32 rfl rfl ?_
  refine gx_isub rfl (by first | decide | omega) (by first | decide | omega) rfl ?_
  refine gx_ap rfl (fun _ => rfl) g126 rfl rfl rfl (show 0 < 2 from by omega) rfl (gx_full (by first | decide | omega)) rfl (fun t133 g133 k133 e133 => ?_)
  have k34 : ai_hv t133 8 0 = some (.inl (σ 0)) := (e133 8 0 (by first | decide | omega)).trans k27
  have k35 : ai_hv t133 12 0 = some (.inl (σ 11)) := (e133 12 0 (by first | decide | omega)).trans k29
  have k36 : ai_hv t133 206 5 = some (.inl (w 0 4)) := (e133 206 5 (by first | decide | omega)).trans k30
  have k37 : ai_hv t133 13 0 = some (.inl 0) := (e133 13 0 (by first | decide | omega)).trans k31
  refine gx_ld (i := 2) (d := 0) (v := .inl e) rfl (fun _ => rfl) l32_2 rfl rfl ?_
  refine gx_ld (i := 4) (d := 0) (v := .inl (min (σ 7) (eat L (w 2 0) (σ 0) (σ 11)))) rfl (fun _ => rfl) hl32 rfl rfl ?_
  refine ex_iadd rfl (by first | decide | omega) rfl ?_
  refine gx_sto (i := 2) (d := 0) rfl (fun _ => rfl) rfl rfl (fun l38 hl38 ml38 => ?_)
  have l38_0 : en_ld l38 0 = some (gx_r 8) := ml38 0 _ l32_0 rfl
  have l38_1 : en_ld l38 1 = some (gx_r 191) := ml38 1 _ l32_1 rfl
  have l38_3 : en_ld l38 3 = some (.inl 0) := ml38 3 _ l32_3 rfl
  have l38_4 : en_ld l38 4 = some (.inl (min (σ 7) (eat L (w 2 0) (σ 0) (σ 11)))) := ml38 4 _ hl32 rfl
  refine gx_ld (i := 0) (d := 2) (v := gx_r 8) rfl (fun _ => rfl) l38_0 rfl rfl ?_
  refine gxo_ref (a := 8) (c := 12) rfl g133 rfl rfl rfl rfl rfl ?_
  refine gx_ld (i := 3) (d := 0) (v := .inl 0) rfl (fun _ => rfl) l38_3 rfl rfl ?_
  refine gx_ag (v := .inl (σ 11)) (cb := fun c => Nat.beq c 2 || Nat.beq c 1) rfl (fun _ => rfl) g133 rfl rfl k35 (by first | decide | omega) rfl ?_
  by_cases hc39 : σ 11 = 0
  · refine gx_1t (c := .eq) rfl (by first | decide | omega) hc39 rfl ?_
    refine gx_incS (i := 3) (a := 0) (x := 1) rfl (fun _ => rfl) l38_3 (by first | decide | omega) rfl (fun l40 hl40 ml40 => ?_)
    have l40_0 : en_ld l40 0 = some (gx_r 8) := ml40 0 _ l38_0 rfl
    have l40_1 : en_ld l40 1 = some (gx_r 191) := ml40 1 _ l38_1 rfl
    have l40_4 : en_ld l40 4 = some (.inl (min (σ 7) (eat L (w 2 0) (σ 0) (σ 11)))) := ml40 4 _ l38_4 rfl
    have l40_2 : en_ld l40 2 = some (.inl (e + (min (σ 7) (eat L (w 2 0) (σ 0) (σ 11))))) := ml40 2 _ hl38 rfl
    refine ex_go (S := (4, l40, [], t133, n, 0)) rfl (fun _ => rfl) rfl ?_
    have hm9 : meal w L σ 0 = min (σ 7) (eat L (w 2 0) (σ 0) (σ 11)) := by omega
    exact hQ _ t133 g133 (fun c i h => (e133 c i (by first | decide | omega)).trans ((e126 c i (by first | decide | omega)).trans (e121 c i (by first | decide | omega)))) k37 (by rw [hm9]; exact k133) (fun z => absurd z (by first | decide | omega)) l40_0 l40_1 (by rw [hm9]; exact l40_2) hl40
  · refine gx_1f (c := .eq) rfl (by first | decide | omega) hc39 rfl ?_
    refine gx_ld (i := 0) (d := 2) (v := gx_r 8) rfl (fun _ => rfl) l38_0 rfl rfl ?_
    refine gxo_ref (a := 8) (c := 14) rfl g133 rfl rfl rfl rfl rfl ?_
    refine gx_ld (i := 3) (d := 0) (v := .inl 0) rfl (fun _ => rfl) l38_3 rfl rfl ?_
    refine gx_ld (i := 1) (d := 2) (v := gx_r 191) rfl (fun _ => rfl) l38_1 rfl rfl ?_
    refine gxo_ref (a := 191) (c := 193) rfl g133 rfl rfl rfl rfl rfl ?_
    refine gx_ld (i := 0) (d := 2) (v := gx_r 8) rfl (fun _ => rfl) l38_0 rfl rfl ?_
    refine gxo_ref (a := 8) (c := 14) rfl g133 rfl rfl rfl rfl rfl ?_
    refine gx_ld (i := 3) (d := 0) (v := .inl 0) rfl (fun _ => rfl) l38_3 rfl rfl ?_
    have k41 := ((e133 14 0 (by first | decide | omega)).trans ((e126 14 0 (by first | decide | omega)).trans (e121 14 0 (by first | decide | omega)))).trans (k13 (by first | decide | omega))
    refine gx_ag (v := .inl (σ 13)) (cb := fun c => Nat.beq c 0) rfl (fun _ => rfl) g133 rfl rfl k41 (by first | decide | omega) rfl ?_
    have k42 := ((e133 193 (σ 13) (by first | decide | omega)).trans ((e126 193 (σ 13) (by first | decide | omega)).trans (e121 193 (σ 13) (by first | decide | omega)))).trans (hnx (σ 13) (by first | decide | omega)).2
    refine gx_ag (v := .inl (fto w (σ 13))) (cb := fun c => Nat.beq c 0) rfl (fun _ => rfl) g133 rfl rfl k42 (by first | decide | omega) rfl ?_
    refine gx_ap rfl (fun _ => rfl) g133 rfl rfl rfl (show 0 < 2 from by omega) rfl (ai_in_h (by first | decide | omega) (by first | decide | omega) (by first | decide | omega)) rfl (fun t143 g143 k143 e143 => ?_)
    have k44 : ai_hv t143 8 0 = some (.inl (σ 0)) := (e143 8 0 (by first | decide | omega)).trans k34
    have k45 : ai_hv t143 12 0 = some (.inl (σ 11)) := (e143 12 0 (by first | decide | omega)).trans k35
    have k46 : ai_hv t143 206 5 = some (.inl (w 0 4)) := (e143 206 5 (by first | decide | omega)).trans k36
    have k47 : ai_hv t143 13 0 = some (.inl 0) := (e143 13 0 (by first | decide | omega)).trans k37
    have k48 : ai_hv t143 10 0 = some (.inl ((σ 7) - (min (σ 7) (eat L (w 2 0) (σ 0) (σ 11))))) := (e143 10 0 (by first | decide | omega)).trans k133
    have k49 : ai_hv t143 193 (σ 13) = some (.inl (fto w (σ 13))) := (e143 193 (σ 13) (by first | decide | omega)).trans k42
    refine gx_incS (i := 3) (a := 0) (x := 1) rfl (fun _ => rfl) l38_3 (by first | decide | omega) rfl (fun l50 hl50 ml50 => ?_)
    have l50_0 : en_ld l50 0 = some (gx_r 8) := ml50 0 _ l38_0 rfl
    have l50_1 : en_ld l50 1 = some (gx_r 191) := ml50 1 _ l38_1 rfl
    have l50_4 : en_ld l50 4 = some (.inl (min (σ 7) (eat L (w 2 0) (σ 0) (σ 11)))) := ml50 4 _ l38_4 rfl
    have l50_2 : en_ld l50 2 = some (.inl (e + (min (σ 7) (eat L (w 2 0) (σ 0) (σ 11))))) := ml50 2 _ hl38 rfl
    refine ex_go (S := (4, l50, [], t143, n, 0)) rfl (fun _ => rfl) rfl ?_
    have hm9 : meal w L σ 0 = min (σ 7) (eat L (w 2 0) (σ 0) (σ 11)) := by omega
    exact hQ _ t143 g143 (fun c i h => (e143 c i (by first | decide | omega)).trans ((e133 c i (by first | decide | omega)).trans ((e126 c i (by first | decide | omega)).trans (e121 c i (by first | decide | omega))))) k47 (by rw [hm9]; exact k48) (fun _ => k143) l50_0 l50_1 (by rw [hm9]; exact l50_2) hl50
theorem sc_pc8_191_1 (d n : Nat) {t0 : en_H} {w : Nat → Nat → Nat} {L : List Nat} {σ : Nat → Nat} {e : Nat} {cl : en_L} {Q : en_O → Prop} (g0 : ai_HG ah_G t0) (hC : CW t0 191 w L) (hw : WS w) (hb : sbd σ) (hc : 1 < w 0 4) (k0 : ai_hv t0 8 0 = some (.inl (σ 0))) (k7 : ai_hv t0 10 1 = some (.inl (σ 8))) (k11 : ai_hv t0 12 1 = some (.inl (σ 12))) (k13 : σ 12 = 1 → ai_hv t0 14 1 = some (.inl (σ 14))) (he : e ≤ 1000) (l0 : en_ld cl 0 = some (gx_r 8)) (l1 : en_ld cl 1 = some (gx_r 191)) (l2 : en_ld cl 2 = some (.inl e)) (l3 : en_ld cl 3 = some (.inl 1)) (hQ : ∀ cl' t', ai_HG ah_G t' → (∀ c i, ¬ (c = 231 ∨ ((c = 10 ∨ c = 13 ∨ c = 14) ∧ i = 1)) → ai_hv t' c i = ai_hv t0 c i) → ai_hv t' 13 1 = some (.inl 0) → ai_hv t' 10 1 = some (.inl (σ 8 - meal w L σ 1)) → (σ 12 = 1 → ai_hv t' 14 1 = some (.inl (fto w (σ 14)))) → en_ld cl' 0 = some (gx_r 8) → en_ld cl' 1 = some (gx_r 191) → en_ld cl' 2 = some (.inl (e + meal w L σ 1)) → en_ld cl' 3 = some (.inl 2) → en_ex none (en_u (d + 3)) (en_code 164) (fun _ => false) (4, cl', [], t', n, 0) Q) : en_ex none (en_u (d + 3)) (en_code 164) (fun _ => false) (4, cl, [], t0, n, 0) Q := by
  obtain ⟨⟨-, -, -, -, -, kK⟩, hnx, hcr, -, -, kL, hs, hv, hr⟩ := hC
  obtain ⟨hb1, ⟨hb7, hb8⟩, ⟨hb11, hb12⟩, ⟨hb13, hb14⟩, ⟨hb15, hb16⟩, hb0, -, -⟩ := hb
  obtain ⟨-, km, -⟩ := hcr 1 hc
  obtain ⟨-, hm, -⟩ := hw.2.1 1 hc
  have hea := eat_le (L := L) (me := w 2 1) (ti := σ 0) (ou := σ 12)
  have hml : meal w L σ 1 = min (eat L (w 2 1) (σ 0) (σ 12)) (σ 8) := rfl
  have hK := hw.1.2.2.2.2.1
  have hfl := fto_lt (q := σ 14) hw (by first | decide | omega)
  refine gx_ld (i := 3) (d := 0) (v := .inl 1) rfl (fun _ => rfl) l3 rfl rfl ?_
  refine gx_ld (i := 1) (d := 2) (v := gx_r 191) rfl (fun _ => rfl) l1 rfl rfl ?_
  refine gxo_ref (a := 191) (c := 206) rfl g0 rfl rfl rfl rfl rfl ?_
  refine gxo_get (a := 206) rfl g0 rfl rfl kK rfl ?_
  refine gx_2f (c := .ge) rfl (by first | decide | omega) (by first | decide | omega) (show ¬ (w 0 4 ≤ 1) from by omega) rfl ?_
  refine gx_ld (i := 0) (d := 2) (v := gx_r 8) rfl (fun _ => rfl) l0 rfl rfl ?_
  refine gxo_ref (a := 8) (c := 13) rfl g0 rfl rfl rfl rfl rfl ?_
  refine gx_ld (i := 3) (d := 0) (v := .inl 1) rfl (fun _ => rfl) l3 rfl rfl ?_
  refine ex_go (S := (21, cl, [.inl 0, .inl 1, gx_r 13], t0, n, 0)) rfl (fun _ => rfl) rfl ?_
  refine gx_apv (d := 2) rfl (fun _ => rfl) g0 rfl rfl rfl (show 1 < 2 from by omega) rfl (ai_in_h (by first | decide | omega) (by first | decide | omega) (by first | decide | omega)) rfl (fun t121 g121 k121 e121 => ?_)
  have k22 : ai_hv t121 8 0 = some (.inl (σ 0)) := (e121 8 0 (by first | decide | omega)).trans k0
  have k23 : ai_hv t121 10 1 = some (.inl (σ 8)) := (e121 10 1 (by first | decide | omega)).trans k7
  have k24 : ai_hv t121 12 1 = some (.inl (σ 12)) := (e121 12 1 (by first | decide | omega)).trans k11
  have k25 : ai_hv t121 206 5 = some (.inl (w 0 4)) := (e121 206 5 (by first | decide | omega)).trans kK
  refine gx_ld (i := 0) (d := 2) (v := gx_r 8) rfl (fun _ => rfl) l0 rfl rfl ?_
  refine gxo_ref (a := 8) (c := 10) rfl g121 rfl rfl rfl rfl rfl ?_
  refine gx_ld (i := 3) (d := 0) (v := .inl 1) rfl (fun _ => rfl) l3 rfl rfl ?_
  refine gx_ag (v := .inl (σ 8)) (cb := fun c => Nat.beq c 0) rfl (fun _ => rfl) g121 rfl rfl k23 (by first | decide | omega) rfl ?_
  refine gx_ld (i := 0) (d := 2) (v := gx_r 8) rfl (fun _ => rfl) l0 rfl rfl ?_
  refine gx_ld (i := 1) (d := 2) (v := gx_r 191) rfl (fun _ => rfl) l1 rfl rfl ?_
  refine gx_ld (i := 3) (d := 0) (v := .inl 1) rfl (fun _ => rfl) l3 rfl rfl ?_
  refine gx_ld (i := 0) (d := 2) (v := gx_r 8) rfl (fun _ => rfl) l0 rfl rfl ?_
  refine gxo_get (a := 8) rfl g121 rfl rfl k22 rfl ?_
  obtain ⟨_, r126, t126, rfl, g126, e126⟩ := sc_app8_191 d n (L := L) (c := 1) (me := w 2 1) (ti := σ 0) (ou := σ 12) g121 (by decide) ((e121 209 1 (by first | decide | omega)).trans (km)) (by first | decide | omega) ((e121 12 1 (by first | decide | omega)).trans (k11)) (by first | decide | omega) hb0 (CLs_keep kL (e121 230 2 (by first | decide | omega)) (fun j => e121 232 j (by first | decide | omega))) hs hv hr
  refine gx_callo (a := 8) rfl rfl g121 rfl rfl rfl r126 rfl ?_
  have k27 : ai_hv t126 8 0 = some (.inl (σ 0)) := (e126 8 0 (by first | decide | omega)).trans k22
  have k28 : ai_hv t126 10 1 = some (.inl (σ 8)) := (e126 10 1 (by first | decide | omega)).trans k23
  have k29 : ai_hv t126 12 1 = some (.inl (σ 12)) := (e126 12 1 (by first | decide | omega)).trans k24
  have k30 : ai_hv t126 206 5 = some (.inl (w 0 4)) := (e126 206 5 (by first | decide | omega)).trans k25
  have k31 : ai_hv t126 13 1 = some (.inl 0) := (e126 13 1 (by first | decide | omega)).trans k121
  show en_ex _ _ _ _ (38, cl, [.inl (eat L (w 2 1) (σ 0) (σ 12)), .inl (σ 8)], t126, n, 0) _
  refine gx_inn rfl rfl rfl (zk_min (by first | decide | omega) (by first | decide | omega)) rfl rfl ?_
  refine gx_sto (i := 4) (d := 0) rfl (fun _ => rfl) rfl rfl (fun l32 hl32 ml32 => ?_)
  have l32_0 : en_ld l32 0 = some (gx_r 8) := ml32 0 _ l0 rfl
  have l32_1 : en_ld l32 1 = some (gx_r 191) := ml32 1 _ l1 rfl
  have l32_2 : en_ld l32 2 = some (.inl e) := ml32 2 _ l2 rfl
  have l32_3 : en_ld l32 3 = some (.inl 1) := ml32 3 _ l3 rfl
  refine gx_ld (i := 0) (d := 2) (v := gx_r 8) rfl (fun _ => rfl) l32_0 rfl rfl ?_
  refine gxo_ref (a := 8) (c := 10) rfl g126 rfl rfl rfl rfl rfl ?_
  refine gx_ld (i := 3) (d := 0) (v := .inl 1) rfl (fun _ => rfl) l32_3 rfl rfl ?_
  refine ex_go (S := (49, l32, [.inl 1, gx_r 10, .inl 1, gx_r 10], t126, n, 0)) rfl (fun _ => rfl) rfl ?_
  refine gx_ag (v := .inl (σ 8)) (cb := fun c => Nat.beq c 0) rfl (fun _ => rfl) g126 rfl rfl k28 (by first | decide | omega) rfl ?_
  refine gx_ld (i := 4) (d := 0) (v := .inl (min (σ 8) (eat L (w 2 1) (σ 0) (σ 12)))) rfl (fun _ => rfl) hl32 rfl rfl ?_
  refine gx_isub rfl (by first | decide | omega) (by first | decide | omega) rfl ?_
  refine gx_ap rfl (fun _ => rfl) g126 rfl rfl rfl (show 1 < 2 from by omega) rfl (gx_full (by first | decide | omega)) rfl (fun t133 g133 k133 e133 => ?_)
  have k34 : ai_hv t133 8 0 = some (.inl (σ 0)) := (e133 8 0 (by first | decide | omega)).trans k27
  have k35 : ai_hv t133 12 1 = some (.inl (σ 12)) := (e133 12 1 (by first | decide | omega)).trans k29
  have k36 : ai_hv t133 206 5 = some (.inl (w 0 4)) := (e133 206 5 (by first | decide | omega)).trans k30
  have k37 : ai_hv t133 13 1 = some (.inl 0) := (e133 13 1 (by first | decide | omega)).trans k31
  refine gx_ld (i := 2) (d := 0) (v := .inl e) rfl (fun _ => rfl) l32_2 rfl rfl ?_
  refine gx_ld (i := 4) (d := 0) (v := .inl (min (σ 8) (eat L (w 2 1) (σ 0) (σ 12)))) rfl (fun _ => rfl) hl32 rfl rfl ?_
  refine ex_iadd rfl (by first | decide | omega) rfl ?_
  refine gx_sto (i := 2) (d := 0) rfl (fun _ => rfl) rfl rfl (fun l38 hl38 ml38 => ?_)
  have l38_0 : en_ld l38 0 = some (gx_r 8) := ml38 0 _ l32_0 rfl
  have l38_1 : en_ld l38 1 = some (gx_r 191) := ml38 1 _ l32_1 rfl
  have l38_3 : en_ld l38 3 = some (.inl 1) := ml38 3 _ l32_3 rfl
  have l38_4 : en_ld l38 4 = some (.inl (min (σ 8) (eat L (w 2 1) (σ 0) (σ 12)))) := ml38 4 _ hl32 rfl
  refine gx_ld (i := 0) (d := 2) (v := gx_r 8) rfl (fun _ => rfl) l38_0 rfl rfl ?_
  refine gxo_ref (a := 8) (c := 12) rfl g133 rfl rfl rfl rfl rfl ?_
  refine gx_ld (i := 3) (d := 0) (v := .inl 1) rfl (fun _ => rfl) l38_3 rfl rfl ?_
  refine gx_ag (v := .inl (σ 12)) (cb := fun c => Nat.beq c 2 || Nat.beq c 1) rfl (fun _ => rfl) g133 rfl rfl k35 (by first | decide | omega) rfl ?_
  by_cases hc39 : σ 12 = 0
  · refine gx_1t (c := .eq) rfl (by first | decide | omega) hc39 rfl ?_
    refine gx_incS (i := 3) (a := 1) (x := 1) rfl (fun _ => rfl) l38_3 (by first | decide | omega) rfl (fun l40 hl40 ml40 => ?_)
    have l40_0 : en_ld l40 0 = some (gx_r 8) := ml40 0 _ l38_0 rfl
    have l40_1 : en_ld l40 1 = some (gx_r 191) := ml40 1 _ l38_1 rfl
    have l40_4 : en_ld l40 4 = some (.inl (min (σ 8) (eat L (w 2 1) (σ 0) (σ 12)))) := ml40 4 _ l38_4 rfl
    have l40_2 : en_ld l40 2 = some (.inl (e + (min (σ 8) (eat L (w 2 1) (σ 0) (σ 12))))) := ml40 2 _ hl38 rfl
    refine ex_go (S := (4, l40, [], t133, n, 0)) rfl (fun _ => rfl) rfl ?_
    have hm9 : meal w L σ 1 = min (σ 8) (eat L (w 2 1) (σ 0) (σ 12)) := by omega
    exact hQ _ t133 g133 (fun c i h => (e133 c i (by first | decide | omega)).trans ((e126 c i (by first | decide | omega)).trans (e121 c i (by first | decide | omega)))) k37 (by rw [hm9]; exact k133) (fun z => absurd z (by first | decide | omega)) l40_0 l40_1 (by rw [hm9]; exact l40_2) hl40
  · refine gx_1f (c := .eq) rfl (by first | decide | omega) hc39 rfl ?_
    refine gx_ld (i := 0) (d := 2) (v := gx_r 8) rfl (fun _ => rfl) l38_0 rfl rfl ?_
    refine gxo_ref (a := 8) (c := 14) rfl g133 rfl rfl rfl rfl rfl ?_
    refine gx_ld (i := 3) (d := 0) (v := .inl 1) rfl (fun _ => rfl) l38_3 rfl rfl ?_
    refine gx_ld (i := 1) (d := 2) (v := gx_r 191) rfl (fun _ => rfl) l38_1 rfl rfl ?_
    refine gxo_ref (a := 191) (c := 193) rfl g133 rfl rfl rfl rfl rfl ?_
    refine gx_ld (i := 0) (d := 2) (v := gx_r 8) rfl (fun _ => rfl) l38_0 rfl rfl ?_
    refine gxo_ref (a := 8) (c := 14) rfl g133 rfl rfl rfl rfl rfl ?_
    refine gx_ld (i := 3) (d := 0) (v := .inl 1) rfl (fun _ => rfl) l38_3 rfl rfl ?_
    have k41 := ((e133 14 1 (by first | decide | omega)).trans ((e126 14 1 (by first | decide | omega)).trans (e121 14 1 (by first | decide | omega)))).trans (k13 (by first | decide | omega))
    refine gx_ag (v := .inl (σ 14)) (cb := fun c => Nat.beq c 0) rfl (fun _ => rfl) g133 rfl rfl k41 (by first | decide | omega) rfl ?_
    have k42 := ((e133 193 (σ 14) (by first | decide | omega)).trans ((e126 193 (σ 14) (by first | decide | omega)).trans (e121 193 (σ 14) (by first | decide | omega)))).trans (hnx (σ 14) (by first | decide | omega)).2
    refine gx_ag (v := .inl (fto w (σ 14))) (cb := fun c => Nat.beq c 0) rfl (fun _ => rfl) g133 rfl rfl k42 (by first | decide | omega) rfl ?_
    refine gx_ap rfl (fun _ => rfl) g133 rfl rfl rfl (show 1 < 2 from by omega) rfl (ai_in_h (by first | decide | omega) (by first | decide | omega) (by first | decide | omega)) rfl (fun t143 g143 k143 e143 => ?_)
    have k44 : ai_hv t143 8 0 = some (.inl (σ 0)) := (e143 8 0 (by first | decide | omega)).trans k34
    have k45 : ai_hv t143 12 1 = some (.inl (σ 12)) := (e143 12 1 (by first | decide | omega)).trans k35
    have k46 : ai_hv t143 206 5 = some (.inl (w 0 4)) := (e143 206 5 (by first | decide | omega)).trans k36
    have k47 : ai_hv t143 13 1 = some (.inl 0) := (e143 13 1 (by first | decide | omega)).trans k37
    have k48 : ai_hv t143 10 1 = some (.inl ((σ 8) - (min (σ 8) (eat L (w 2 1) (σ 0) (σ 12))))) := (e143 10 1 (by first | decide | omega)).trans k133
    have k49 : ai_hv t143 193 (σ 14) = some (.inl (fto w (σ 14))) := (e143 193 (σ 14) (by first | decide | omega)).trans k42
    refine gx_incS (i := 3) (a := 1) (x := 1) rfl (fun _ => rfl) l38_3 (by first | decide | omega) rfl (fun l50 hl50 ml50 => ?_)
    have l50_0 : en_ld l50 0 = some (gx_r 8) := ml50 0 _ l38_0 rfl
    have l50_1 : en_ld l50 1 = some (gx_r 191) := ml50 1 _ l38_1 rfl
    have l50_4 : en_ld l50 4 = some (.inl (min (σ 8) (eat L (w 2 1) (σ 0) (σ 12)))) := ml50 4 _ l38_4 rfl
    have l50_2 : en_ld l50 2 = some (.inl (e + (min (σ 8) (eat L (w 2 1) (σ 0) (σ 12))))) := ml50 2 _ hl38 rfl
    refine ex_go (S := (4, l50, [], t143, n, 0)) rfl (fun _ => rfl) rfl ?_
    have hm9 : meal w L σ 1 = min (σ 8) (eat L (w 2 1) (σ 0) (σ 12)) := by omega
    exact hQ _ t143 g143 (fun c i h => (e143 c i (by first | decide | omega)).trans ((e133 c i (by first | decide | omega)).trans ((e126 c i (by first | decide | omega)).trans (e121 c i (by first | decide | omega))))) k47 (by rw [hm9]; exact k48) (fun _ => k143) l50_0 l50_1 (by rw [hm9]; exact l50_2) hl50
theorem sc_pt8_191 (d n : Nat) {tb : en_H} {w : Nat → Nat → Nat} {L : List Nat} {P : Nat → Nat} {e : Nat} {Q : en_O → Prop} (hC : CW tb 191 w L) (hw : WS w) (hP : ∀ i, i < 6 → P i ≤ 63) (hQ : ∀ cl t1, ai_HG ah_G t1 → (∀ c i, ¬ (c = 9 ∧ i < w 0 2) → ai_hv t1 c i = ai_hv tb c i) → (∀ i, i < w 0 2 → ai_hv t1 9 i = some (.inl (if i < w 0 2 then fto w (P i) else P i))) → en_ld cl 0 = some (gx_r 8) → en_ld cl 1 = some (gx_r 191) → en_ld cl 2 = some (.inl e) → en_ex none (en_u (d + 3)) (en_code 164) (fun _ => false) (127, cl, [], t1, n, 0) Q) : ∀ j k cl t0, k + j = w 0 2 → ai_HG ah_G t0 → (∀ c i, ¬ (c = 9 ∧ i < w 0 2) → ai_hv t0 c i = ai_hv tb c i) → (∀ i, i < w 0 2 → ai_hv t0 9 i = some (.inl (if i < k then fto w (P i) else P i))) → en_ld cl 0 = some (gx_r 8) → en_ld cl 1 = some (gx_r 191) → en_ld cl 2 = some (.inl e) → en_ld cl 3 = some (.inl k) → en_ex none (en_u (d + 3)) (en_code 164) (fun _ => false) (93, cl, [], t0, n, 0) Q := by
  have hT := hw.1.2.2.1
  intro j
  induction j with
  | zero =>
    intro k cl t0 hk g0 e0 i0 l0 l1 l2 l3
    have hk : k = w 0 2 := by omega
    have kT := (e0 194 5 (by first | decide | omega)).trans hC.1.2.2.2.1
    refine gx_ld (i := 3) (d := 0) (v := .inl k) rfl (fun _ => rfl) l3 rfl rfl ?_
    refine gx_ld (i := 1) (d := 2) (v := gx_r 191) rfl (fun _ => rfl) l1 rfl rfl ?_
    refine gxo_ref (a := 191) (c := 194) rfl g0 rfl rfl rfl rfl rfl ?_
    refine gxo_get (a := 194) rfl g0 rfl rfl kT rfl ?_
    refine gx_2t (c := .ge) rfl (by first | decide | omega) (by first | decide | omega) (show w 0 2 ≤ k from by omega) rfl ?_
    rw [hk] at i0
    exact hQ _ t0 g0 e0 i0 l0 l1 l2
  | succ j ih =>
    intro k cl t0 hk g0 e0 i0 l0 l1 l2 l3
    have kT := (e0 194 5 (by first | decide | omega)).trans hC.1.2.2.2.1
    have kp := i0 k (by first | decide | omega)
    rw [if_neg (by first | decide | omega)] at kp
    have hp := hP k (by first | decide | omega)
    have hfl := fto_lt (q := P k) hw (by first | decide | omega)
    have kn := (e0 193 (P k) (by first | decide | omega)).trans (hC.2.1 (P k) (by first | decide | omega)).2
    refine gx_ld (i := 3) (d := 0) (v := .inl k) rfl (fun _ => rfl) l3 rfl rfl ?_
    refine gx_ld (i := 1) (d := 2) (v := gx_r 191) rfl (fun _ => rfl) l1 rfl rfl ?_
    refine gxo_ref (a := 191) (c := 194) rfl g0 rfl rfl rfl rfl rfl ?_
    refine gxo_get (a := 194) rfl g0 rfl rfl kT rfl ?_
    refine gx_2f (c := .ge) rfl (by first | decide | omega) (by first | decide | omega) (show ¬ (w 0 2 ≤ k) from by omega) rfl ?_
    refine gx_ld (i := 0) (d := 2) (v := gx_r 8) rfl (fun _ => rfl) l0 rfl rfl ?_
    refine gxo_ref (a := 8) (c := 9) rfl g0 rfl rfl rfl rfl rfl ?_
    refine gx_ld (i := 3) (d := 0) (v := .inl k) rfl (fun _ => rfl) l3 rfl rfl ?_
    refine gx_ld (i := 1) (d := 2) (v := gx_r 191) rfl (fun _ => rfl) l1 rfl rfl ?_
    refine gxo_ref (a := 191) (c := 193) rfl g0 rfl rfl rfl rfl rfl ?_
    refine gx_ld (i := 0) (d := 2) (v := gx_r 8) rfl (fun _ => rfl) l0 rfl rfl ?_
    refine gxo_ref (a := 8) (c := 9) rfl g0 rfl rfl rfl rfl rfl ?_
    refine gx_ld (i := 3) (d := 0) (v := .inl k) rfl (fun _ => rfl) l3 rfl rfl ?_
    refine gx_ag (v := .inl (P k)) (cb := fun c => Nat.beq c 0) rfl (fun _ => rfl) g0 rfl rfl kp (by first | decide | omega) rfl ?_
    refine gx_ag (v := .inl (fto w (P k))) (cb := fun c => Nat.beq c 0) rfl (fun _ => rfl) g0 rfl rfl kn (by first | decide | omega) rfl ?_
    refine gx_ap rfl (fun _ => rfl) g0 rfl rfl rfl (show k < 6 from by omega) (gx_run1 (show k < 6 from by omega)) (ai_in_h (by first | decide | omega) (by first | decide | omega) (by first | decide | omega)) rfl (fun t121 g121 k121 e121 => ?_)
    have k22 : ai_hv t121 194 5 = some (.inl (w 0 2)) := (e121 194 5 (by first | decide | omega)).trans kT
    have k23 : ai_hv t121 193 (P k) = some (.inl (fto w (P k))) := (e121 193 (P k) (by first | decide | omega)).trans kn
    refine gx_incS (i := 3) (a := k) (x := 1) rfl (fun _ => rfl) l3 (by first | decide | omega) rfl (fun l24 hl24 ml24 => ?_)
    have l24_0 : en_ld l24 0 = some (gx_r 8) := ml24 0 _ l0 rfl
    have l24_1 : en_ld l24 1 = some (gx_r 191) := ml24 1 _ l1 rfl
    have l24_2 : en_ld l24 2 = some (.inl e) := ml24 2 _ l2 rfl
    refine ex_go (S := (93, l24, [], t121, n, 0)) rfl (fun _ => rfl) rfl ?_
    refine ih (k + 1) _ t121 (by first | decide | omega) g121 (fun c i h => (e121 c i (by first | decide | omega)).trans (e0 c i h)) (fun i hi => ?_) l24_0 l24_1 l24_2 hl24
    by_cases e9 : i = k
    · subst e9
      rw [if_pos (by first | decide | omega)]
      exact k121
    · refine (e121 9 i (by first | decide | omega)).trans ((i0 i hi).trans ?_)
      by_cases c9 : i < k
      · rw [if_pos c9, if_pos (by first | decide | omega)]
      · rw [if_neg c9, if_neg (by first | decide | omega)]
theorem sc_pass8_191 (d n : Nat) {t0 : en_H} {w : Nat → Nat → Nat} {L : List Nat} {σ : Nat → Nat} (g0 : ai_HG ah_G t0) (hC : CW t0 191 w L) (hw : WS w) (hb : sbd σ) (hS : SC t0 8 (w 0 2) (w 0 4) σ) : ∃ r, en_u (d + 4) 164 [gx_r 8, gx_r 191] t0 n = some r ∧ ∃ t', r = (some (.inl (eaten w L σ)), t', n, 0) ∧ ai_HG ah_G t' ∧ (∀ c i, ¬ (c = 231 ∨ c = 9 ∨ c = 10 ∨ c = 13 ∨ c = 14 ∨ (c = 8 ∧ i = 0)) → ai_hv t' c i = ai_hv t0 c i) ∧ SC t' 8 (w 0 2) (w 0 4) (stp w L σ) := by
  obtain ⟨q0, hpl, hcr⟩ := hS
  have kK := hC.1.2.2.2.2.2
  have hb9 := hb
  obtain ⟨hb1, ⟨hb7, hb8⟩, ⟨hb11, hb12⟩, ⟨hb13, hb14⟩, -, hb0, -, -⟩ := hb9
  have hm0 := meal_le (w := w) (L := L) (σ := σ) (c := 0)
  have hm1 := meal_le (w := w) (L := L) (σ := σ) (c := 1)
  have hT := hw.1.2.2.1
  have hK := hw.1.2.2.2.2.1
  rcases (show w 0 4 = 0 ∨ w 0 4 = 1 ∨ w 0 4 = 2 by omega) with hK9 | hK9 | hK9
  · refine en_u_ex (d := d + 3) rfl ?_
    show en_ex _ _ _ _ (0, [(0, gx_r 8), (1, gx_r 191)], [], t0, n, 0) _
    refine ex_go (S := (1, [(0, gx_r 8), (1, gx_r 191)], [.inl 0], t0, n, 0)) rfl (fun _ => rfl) rfl ?_
    refine ex_go (S := (2, [(2, .inl 0), (0, gx_r 8), (1, gx_r 191)], [], t0, n, 0)) rfl (fun _ => rfl) rfl ?_
    refine ex_go (S := (3, [(2, .inl 0), (0, gx_r 8), (1, gx_r 191)], [.inl 0], t0, n, 0)) rfl (fun _ => rfl) rfl ?_
    refine ex_go (S := (4, [(3, .inl 0), (2, .inl 0), (0, gx_r 8), (1, gx_r 191)], [], t0, n, 0)) rfl (fun _ => rfl) rfl ?_
    refine ex_go (S := (5, [(3, .inl 0), (2, .inl 0), (0, gx_r 8), (1, gx_r 191)], [.inl 0], t0, n, 0)) rfl (fun _ => rfl) rfl ?_
    refine ex_go (S := (6, [(3, .inl 0), (2, .inl 0), (0, gx_r 8), (1, gx_r 191)], [gx_r 191, .inl 0], t0, n, 0)) rfl (fun _ => rfl) rfl ?_
    refine gxo_ref (a := 191) (c := 206) rfl g0 rfl rfl rfl rfl rfl ?_
    have k21 := kK
    rw [hK9] at k21
    refine gxo_get (a := 206) rfl g0 rfl rfl k21 rfl ?_
    refine ex_go (S := (91, [(3, .inl 0), (2, .inl 0), (0, gx_r 8), (1, gx_r 191)], [], t0, n, 0)) rfl (fun _ => rfl) rfl ?_
    refine ex_go (S := (92, [(3, .inl 0), (2, .inl 0), (0, gx_r 8), (1, gx_r 191)], [.inl 0], t0, n, 0)) rfl (fun _ => rfl) rfl ?_
    refine ex_go (S := (93, [(3, .inl 0), (2, .inl 0), (0, gx_r 8), (1, gx_r 191)], [], t0, n, 0)) rfl (fun _ => rfl) rfl ?_
    refine sc_pt8_191 d n (tb := t0) (w := w) (L := L) (P := fun i => σ (1 + i)) (e := 0) hC hw hb1 (fun cl122 t122 g122 e122 i122 l1220 l1221 l1222 => ?_) (w 0 2) 0 _ _ (by first | decide | omega) g0 (fun _ _ _ => rfl) (fun i hi => ?_) rfl rfl rfl rfl
    · have k23 : ai_hv t122 8 0 = some (.inl (σ 0)) := (e122 8 0 (by first | decide | omega)).trans q0
      have k24 : ai_hv t122 206 5 = some (.inl 0) := (e122 206 5 (by first | decide | omega)).trans k21
      refine gx_ld (i := 0) (d := 2) (v := gx_r 8) rfl (fun _ => rfl) l1220 rfl rfl ?_
      refine ex_go (S := (129, cl122, [gx_r 8, gx_r 8], t122, n, 0)) rfl (fun _ => rfl) rfl ?_
      refine gxo_get (a := 8) rfl g122 rfl rfl k23 rfl ?_
      refine ex_go (S := (133, cl122, [.inl 1, .inl (σ 0), gx_r 8], t122, n, 0)) rfl (fun _ => rfl) rfl ?_
      have hw25 : en_wrap ((σ 0) + 1) < 4294967296 := wrap_lt
      refine gs_iaddx rfl rfl ?_
      refine gxo_put (a := 8) rfl g122 rfl rfl rfl (gx_full (by first | decide | omega)) rfl (fun t126 g126 k126 e126 => ?_)
      have k27 : ai_hv t126 206 5 = some (.inl 0) := (e126 206 5 (by first | decide | omega)).trans k24
      refine gx_ld (i := 2) (d := 0) (v := .inl 0) rfl (fun _ => rfl) l1222 rfl rfl ?_
      refine ex_ret (r := (some (.inl 0), t126, n, 0)) rfl (fun _ => rfl) ?_
      have he9 : eaten w L σ = 0 := by unfold eaten; rw [hK9]; rfl
      refine ⟨_, rfl, t126, by rw [he9], g126, (fun c i h => (e126 c i (by first | decide | omega)).trans (e122 c i (by first | decide | omega))), (by rw [stp_0]; exact k126), (fun i hi => ?_), fun c hc => ?_⟩
      · rw [stp_pl (show i < 6 by omega)]
        exact (e126 9 i (by first | decide | omega)).trans (i122 i hi)
      · exact absurd hc (by first | decide | omega)
    · rw [if_neg (Nat.not_lt_zero i)]
      exact hpl i hi
  · obtain ⟨x7_0, x9_0, x11_0, x15_0, x13_0⟩ := hcr 0 (by first | decide | omega)
    refine en_u_ex (d := d + 3) rfl ?_
    show en_ex _ _ _ _ (0, [(0, gx_r 8), (1, gx_r 191)], [], t0, n, 0) _
    refine ex_go (S := (1, [(0, gx_r 8), (1, gx_r 191)], [.inl 0], t0, n, 0)) rfl (fun _ => rfl) rfl ?_
    refine ex_go (S := (2, [(2, .inl 0), (0, gx_r 8), (1, gx_r 191)], [], t0, n, 0)) rfl (fun _ => rfl) rfl ?_
    refine ex_go (S := (3, [(2, .inl 0), (0, gx_r 8), (1, gx_r 191)], [.inl 0], t0, n, 0)) rfl (fun _ => rfl) rfl ?_
    refine ex_go (S := (4, [(3, .inl 0), (2, .inl 0), (0, gx_r 8), (1, gx_r 191)], [], t0, n, 0)) rfl (fun _ => rfl) rfl ?_
    refine sc_pc8_191_0 d n (σ := σ) (e := 0) g0 hC hw hb (by first | decide | omega) (q0) (x7_0) (x11_0) x13_0 (by first | decide | omega) rfl rfl rfl rfl (fun cl121 t121 g121 e121 a121 b121 c121 l1210 l1211 l1212 l1213 => ?_)
    have k22 : ai_hv t121 8 0 = some (.inl (σ 0)) := (e121 8 0 (by first | decide | omega)).trans q0
    refine gx_ld (i := 3) (d := 0) (v := .inl 1) rfl (fun _ => rfl) l1213 rfl rfl ?_
    refine gx_ld (i := 1) (d := 2) (v := gx_r 191) rfl (fun _ => rfl) l1211 rfl rfl ?_
    refine gxo_ref (a := 191) (c := 206) rfl g121 rfl rfl rfl rfl rfl ?_
    have k23 := (e121 206 5 (by first | decide | omega)).trans (kK)
    rw [hK9] at k23
    refine gxo_get (a := 206) rfl g121 rfl rfl k23 rfl ?_
    refine ex_go (S := (91, cl121, [], t121, n, 0)) rfl (fun _ => rfl) rfl ?_
    refine ex_go (S := (92, cl121, [.inl 0], t121, n, 0)) rfl (fun _ => rfl) rfl ?_
    refine gx_sto (i := 3) (d := 0) rfl (fun _ => rfl) rfl rfl (fun l24 hl24 ml24 => ?_)
    have l24_0 : en_ld l24 0 = some (gx_r 8) := ml24 0 _ l1210 rfl
    have l24_1 : en_ld l24 1 = some (gx_r 191) := ml24 1 _ l1211 rfl
    have l24_2 : en_ld l24 2 = some (.inl (0 + meal w L σ 0)) := ml24 2 _ l1212 rfl
    refine sc_pt8_191 d n (tb := t121) (w := w) (L := L) (P := fun i => σ (1 + i)) (e := 0 + meal w L σ 0) (CW_keep hC (fun c i h => e121 c i (by first | decide | omega))) hw hb1 (fun cl125 t125 g125 e125 i125 l1250 l1251 l1252 => ?_) (w 0 2) 0 _ _ (by first | decide | omega) g121 (fun _ _ _ => rfl) (fun i hi => ?_) l24_0 l24_1 l24_2 hl24
    · have k26 : ai_hv t125 8 0 = some (.inl (σ 0)) := (e125 8 0 (by first | decide | omega)).trans k22
      have k27 : ai_hv t125 206 5 = some (.inl 1) := (e125 206 5 (by first | decide | omega)).trans k23
      refine gx_ld (i := 0) (d := 2) (v := gx_r 8) rfl (fun _ => rfl) l1250 rfl rfl ?_
      refine ex_go (S := (129, cl125, [gx_r 8, gx_r 8], t125, n, 0)) rfl (fun _ => rfl) rfl ?_
      refine gxo_get (a := 8) rfl g125 rfl rfl k26 rfl ?_
      refine ex_go (S := (133, cl125, [.inl 1, .inl (σ 0), gx_r 8], t125, n, 0)) rfl (fun _ => rfl) rfl ?_
      have hw28 : en_wrap ((σ 0) + 1) < 4294967296 := wrap_lt
      refine gs_iaddx rfl rfl ?_
      refine gxo_put (a := 8) rfl g125 rfl rfl rfl (gx_full (by first | decide | omega)) rfl (fun t129 g129 k129 e129 => ?_)
      have k30 : ai_hv t129 206 5 = some (.inl 1) := (e129 206 5 (by first | decide | omega)).trans k27
      refine gx_ld (i := 2) (d := 0) (v := .inl (0 + meal w L σ 0)) rfl (fun _ => rfl) l1252 rfl rfl ?_
      refine ex_ret (r := (some (.inl (0 + meal w L σ 0)), t129, n, 0)) rfl (fun _ => rfl) ?_
      have he9 : eaten w L σ = 0 + meal w L σ 0 := by unfold eaten; rw [hK9]; rw [if_pos (by decide), if_neg (by decide)]; omega
      refine ⟨_, rfl, t129, by rw [he9], g129, (fun c i h => (e129 c i (by first | decide | omega)).trans ((e125 c i (by first | decide | omega)).trans (e121 c i (by first | decide | omega)))), (by rw [stp_0]; exact k129), (fun i hi => ?_), fun c hc => ?_⟩
      · rw [stp_pl (show i < 6 by omega)]
        exact (e129 9 i (by first | decide | omega)).trans (i125 i hi)
      · rcases (show c = 0 by omega) with rfl
        · refine ⟨?_, ?_, ?_, ?_, ?_⟩
          · rw [stp_bi (by decide), if_pos (by first | decide | omega)]; exact (e129 10 0 (by first | decide | omega)).trans ((e125 10 0 (by first | decide | omega)).trans (b121))
          · rw [stp_mid (by decide) (by decide)]; exact (e129 11 0 (by first | decide | omega)).trans ((e125 11 0 (by first | decide | omega)).trans ((e121 11 0 (by first | decide | omega)).trans (x9_0)))
          · rw [stp_mid (by decide) (by decide)]; exact (e129 12 0 (by first | decide | omega)).trans ((e125 12 0 (by first | decide | omega)).trans ((e121 12 0 (by first | decide | omega)).trans (x11_0)))
          · rw [stp_ha (by decide), if_pos (by first | decide | omega)]; exact (e129 13 0 (by first | decide | omega)).trans ((e125 13 0 (by first | decide | omega)).trans (a121))
          · intro z
            rw [stp_mid (by decide) (by decide)] at z
            rw [stp_sl (by decide), if_pos (by first | decide | omega), if_pos z]
            exact (e129 14 0 (by first | decide | omega)).trans ((e125 14 0 (by first | decide | omega)).trans (c121 z))
    · rw [if_neg (Nat.not_lt_zero i)]
      exact (e121 9 i (by first | decide | omega)).trans (hpl i hi)
  · obtain ⟨x7_0, x9_0, x11_0, x15_0, x13_0⟩ := hcr 0 (by first | decide | omega)
    obtain ⟨x7_1, x9_1, x11_1, x15_1, x13_1⟩ := hcr 1 (by first | decide | omega)
    refine en_u_ex (d := d + 3) rfl ?_
    show en_ex _ _ _ _ (0, [(0, gx_r 8), (1, gx_r 191)], [], t0, n, 0) _
    refine ex_go (S := (1, [(0, gx_r 8), (1, gx_r 191)], [.inl 0], t0, n, 0)) rfl (fun _ => rfl) rfl ?_
    refine ex_go (S := (2, [(2, .inl 0), (0, gx_r 8), (1, gx_r 191)], [], t0, n, 0)) rfl (fun _ => rfl) rfl ?_
    refine ex_go (S := (3, [(2, .inl 0), (0, gx_r 8), (1, gx_r 191)], [.inl 0], t0, n, 0)) rfl (fun _ => rfl) rfl ?_
    refine ex_go (S := (4, [(3, .inl 0), (2, .inl 0), (0, gx_r 8), (1, gx_r 191)], [], t0, n, 0)) rfl (fun _ => rfl) rfl ?_
    refine sc_pc8_191_0 d n (σ := σ) (e := 0) g0 hC hw hb (by first | decide | omega) (q0) (x7_0) (x11_0) x13_0 (by first | decide | omega) rfl rfl rfl rfl (fun cl121 t121 g121 e121 a121 b121 c121 l1210 l1211 l1212 l1213 => ?_)
    have k22 : ai_hv t121 8 0 = some (.inl (σ 0)) := (e121 8 0 (by first | decide | omega)).trans q0
    refine sc_pc8_191_1 d n (σ := σ) (e := 0 + meal w L σ 0) g121 (CW_keep hC (fun c i h => e121 c i (by first | decide | omega))) hw hb (by first | decide | omega) ((e121 8 0 (by first | decide | omega)).trans (q0)) ((e121 10 1 (by first | decide | omega)).trans (x7_1)) ((e121 12 1 (by first | decide | omega)).trans (x11_1)) (fun z => (e121 14 1 (by first | decide | omega)).trans (x13_1 z)) (by first | decide | omega) l1210 l1211 l1212 l1213 (fun cl123 t123 g123 e123 a123 b123 c123 l1230 l1231 l1232 l1233 => ?_)
    have k24 : ai_hv t123 8 0 = some (.inl (σ 0)) := (e123 8 0 (by first | decide | omega)).trans k22
    refine gx_ld (i := 3) (d := 0) (v := .inl 2) rfl (fun _ => rfl) l1233 rfl rfl ?_
    refine gx_ld (i := 1) (d := 2) (v := gx_r 191) rfl (fun _ => rfl) l1231 rfl rfl ?_
    refine gxo_ref (a := 191) (c := 206) rfl g123 rfl rfl rfl rfl rfl ?_
    have k25 := (e123 206 5 (by first | decide | omega)).trans ((e121 206 5 (by first | decide | omega)).trans (kK))
    rw [hK9] at k25
    refine gxo_get (a := 206) rfl g123 rfl rfl k25 rfl ?_
    refine ex_go (S := (91, cl123, [], t123, n, 0)) rfl (fun _ => rfl) rfl ?_
    refine ex_go (S := (92, cl123, [.inl 0], t123, n, 0)) rfl (fun _ => rfl) rfl ?_
    refine gx_sto (i := 3) (d := 0) rfl (fun _ => rfl) rfl rfl (fun l26 hl26 ml26 => ?_)
    have l26_0 : en_ld l26 0 = some (gx_r 8) := ml26 0 _ l1230 rfl
    have l26_1 : en_ld l26 1 = some (gx_r 191) := ml26 1 _ l1231 rfl
    have l26_2 : en_ld l26 2 = some (.inl ((0 + meal w L σ 0) + meal w L σ 1)) := ml26 2 _ l1232 rfl
    refine sc_pt8_191 d n (tb := t123) (w := w) (L := L) (P := fun i => σ (1 + i)) (e := (0 + meal w L σ 0) + meal w L σ 1) (CW_keep hC (fun c i h => (e123 c i (by first | decide | omega)).trans (e121 c i (by first | decide | omega)))) hw hb1 (fun cl127 t127 g127 e127 i127 l1270 l1271 l1272 => ?_) (w 0 2) 0 _ _ (by first | decide | omega) g123 (fun _ _ _ => rfl) (fun i hi => ?_) l26_0 l26_1 l26_2 hl26
    · have k28 : ai_hv t127 8 0 = some (.inl (σ 0)) := (e127 8 0 (by first | decide | omega)).trans k24
      have k29 : ai_hv t127 206 5 = some (.inl 2) := (e127 206 5 (by first | decide | omega)).trans k25
      refine gx_ld (i := 0) (d := 2) (v := gx_r 8) rfl (fun _ => rfl) l1270 rfl rfl ?_
      refine ex_go (S := (129, cl127, [gx_r 8, gx_r 8], t127, n, 0)) rfl (fun _ => rfl) rfl ?_
      refine gxo_get (a := 8) rfl g127 rfl rfl k28 rfl ?_
      refine ex_go (S := (133, cl127, [.inl 1, .inl (σ 0), gx_r 8], t127, n, 0)) rfl (fun _ => rfl) rfl ?_
      have hw30 : en_wrap ((σ 0) + 1) < 4294967296 := wrap_lt
      refine gs_iaddx rfl rfl ?_
      refine gxo_put (a := 8) rfl g127 rfl rfl rfl (gx_full (by first | decide | omega)) rfl (fun t131 g131 k131 e131 => ?_)
      have k32 : ai_hv t131 206 5 = some (.inl 2) := (e131 206 5 (by first | decide | omega)).trans k29
      refine gx_ld (i := 2) (d := 0) (v := .inl ((0 + meal w L σ 0) + meal w L σ 1)) rfl (fun _ => rfl) l1272 rfl rfl ?_
      refine ex_ret (r := (some (.inl ((0 + meal w L σ 0) + meal w L σ 1)), t131, n, 0)) rfl (fun _ => rfl) ?_
      have he9 : eaten w L σ = (0 + meal w L σ 0) + meal w L σ 1 := by unfold eaten; rw [hK9]; rw [if_pos (by decide), if_pos (by decide)]; omega
      refine ⟨_, rfl, t131, by rw [he9], g131, (fun c i h => (e131 c i (by first | decide | omega)).trans ((e127 c i (by first | decide | omega)).trans ((e123 c i (by first | decide | omega)).trans (e121 c i (by first | decide | omega))))), (by rw [stp_0]; exact k131), (fun i hi => ?_), fun c hc => ?_⟩
      · rw [stp_pl (show i < 6 by omega)]
        exact (e131 9 i (by first | decide | omega)).trans (i127 i hi)
      · rcases (show c = 0 ∨ c = 1 by omega) with rfl | rfl
        · refine ⟨?_, ?_, ?_, ?_, ?_⟩
          · rw [stp_bi (by decide), if_pos (by first | decide | omega)]; exact (e131 10 0 (by first | decide | omega)).trans ((e127 10 0 (by first | decide | omega)).trans ((e123 10 0 (by first | decide | omega)).trans (b121)))
          · rw [stp_mid (by decide) (by decide)]; exact (e131 11 0 (by first | decide | omega)).trans ((e127 11 0 (by first | decide | omega)).trans ((e123 11 0 (by first | decide | omega)).trans ((e121 11 0 (by first | decide | omega)).trans (x9_0))))
          · rw [stp_mid (by decide) (by decide)]; exact (e131 12 0 (by first | decide | omega)).trans ((e127 12 0 (by first | decide | omega)).trans ((e123 12 0 (by first | decide | omega)).trans ((e121 12 0 (by first | decide | omega)).trans (x11_0))))
          · rw [stp_ha (by decide), if_pos (by first | decide | omega)]; exact (e131 13 0 (by first | decide | omega)).trans ((e127 13 0 (by first | decide | omega)).trans ((e123 13 0 (by first | decide | omega)).trans (a121)))
          · intro z
            rw [stp_mid (by decide) (by decide)] at z
            rw [stp_sl (by decide), if_pos (by first | decide | omega), if_pos z]
            exact (e131 14 0 (by first | decide | omega)).trans ((e127 14 0 (by first | decide | omega)).trans ((e123 14 0 (by first | decide | omega)).trans (c121 z)))
        · refine ⟨?_, ?_, ?_, ?_, ?_⟩
          · rw [stp_bi (by decide), if_pos (by first | decide | omega)]; exact (e131 10 1 (by first | decide | omega)).trans ((e127 10 1 (by first | decide | omega)).trans (b123))
          · rw [stp_mid (by decide) (by decide)]; exact (e131 11 1 (by first | decide | omega)).trans ((e127 11 1 (by first | decide | omega)).trans ((e123 11 1 (by first | decide | omega)).trans ((e121 11 1 (by first | decide | omega)).trans (x9_1))))
          · rw [stp_mid (by decide) (by decide)]; exact (e131 12 1 (by first | decide | omega)).trans ((e127 12 1 (by first | decide | omega)).trans ((e123 12 1 (by first | decide | omega)).trans ((e121 12 1 (by first | decide | omega)).trans (x11_1))))
          · rw [stp_ha (by decide), if_pos (by first | decide | omega)]; exact (e131 13 1 (by first | decide | omega)).trans ((e127 13 1 (by first | decide | omega)).trans (a123))
          · intro z
            rw [stp_mid (by decide) (by decide)] at z
            rw [stp_sl (by decide), if_pos (by first | decide | omega), if_pos z]
            exact (e131 14 1 (by first | decide | omega)).trans ((e127 14 1 (by first | decide | omega)).trans (c123 z))
    · rw [if_neg (Nat.not_lt_zero i)]
      exact ((e123 9 i (by first | decide | omega)).trans (e121 9 i (by first | decide | omega))).trans (hpl i hi)
theorem sc_app8_257 (d n : Nat) {t0 : en_H} {L : List Nat} {c me ti ou : Nat} (g0 : ai_HG ah_G t0) (hc : c ≤ 1) (km : ai_hv t0 275 c = some (.inl me)) (hm : me < 2147483648) (ko : ai_hv t0 12 c = some (.inl ou)) (ho : ou ≤ 1) (hti : ti < 4294967296) (kL : CLs t0 296 L) (hs : L.length ≤ 1000) (hv : ∀ z, z ∈ L → vo 7 z) (hr : hrun 25 L 0 = some 1) : ∃ r, en_u (d + 3) 140 [gx_r 8, gx_r 257, .inl c, .inl ti] t0 n = some r ∧ ∃ t', r = (some (.inl (eat L me ti ou)), t', n, 0) ∧ ai_HG ah_G t' ∧ (∀ c i, c ≠ 297 → ai_hv t' c i = ai_hv t0 c i) := by
  have hc' : cco t0 296 0 L := cco_of (fun j hj => by rw [Nat.zero_add]; exact kL.2 j hj)
  rcases (show ou = 0 ∨ ou = 1 by omega) with rfl | rfl
  · refine en_u_ex (d := d + 2) rfl ?_
    show en_ex _ _ _ _ (0, [(0, gx_r 8), (1, gx_r 257), (2, .inl c), (3, .inl ti)], [], t0, n, 0) _
    refine ex_go (S := (1, [(0, gx_r 8), (1, gx_r 257), (2, .inl c), (3, .inl ti)], [gx_r 257], t0, n, 0)) rfl (fun _ => rfl) rfl ?_
    refine gxo_ref (a := 257) (c := 296) rfl g0 rfl rfl rfl rfl rfl ?_
    refine ex_go (S := (6, [(0, gx_r 8), (1, gx_r 257), (2, .inl c), (3, .inl ti)], [.inl 99, gx_r 296], t0, n, 0)) rfl (fun _ => rfl) rfl ?_
    refine ex_go (S := (7, [(0, gx_r 8), (1, gx_r 257), (2, .inl c), (3, .inl ti)], [gx_r 257, .inl 99, gx_r 296], t0, n, 0)) rfl (fun _ => rfl) rfl ?_
    refine gxo_ref (a := 257) (c := 272) rfl g0 rfl rfl rfl rfl rfl ?_
    refine gxo_ref (a := 272) (c := 275) rfl g0 rfl rfl rfl rfl rfl ?_
    refine ex_go (S := (14, [(0, gx_r 8), (1, gx_r 257), (2, .inl c), (3, .inl ti)], [.inl c, gx_r 275, .inl 99, gx_r 296], t0, n, 0)) rfl (fun _ => rfl) rfl ?_
    refine gx_ag (v := .inl me) (cb := fun c => Nat.beq c 0) rfl (fun _ => rfl) g0 rfl rfl km (by first | decide | omega) rfl ?_
    refine ex_go (S := (16, [(0, gx_r 8), (1, gx_r 257), (2, .inl c), (3, .inl ti)], [.inl ti, .inl me, .inl 99, gx_r 296], t0, n, 0)) rfl (fun _ => rfl) rfl ?_
    refine ex_go (S := (17, [(0, gx_r 8), (1, gx_r 257), (2, .inl c), (3, .inl ti)], [gx_r 8, .inl ti, .inl me, .inl 99, gx_r 296], t0, n, 0)) rfl (fun _ => rfl) rfl ?_
    refine gxo_ref (a := 8) (c := 12) rfl g0 rfl rfl rfl rfl rfl ?_
    refine ex_go (S := (21, [(0, gx_r 8), (1, gx_r 257), (2, .inl c), (3, .inl ti)], [.inl c, gx_r 12, .inl ti, .inl me, .inl 99, gx_r 296], t0, n, 0)) rfl (fun _ => rfl) rfl ?_
    refine gx_ag (v := .inl 0) (cb := fun c => Nat.beq c 2 || Nat.beq c 1) rfl (fun _ => rfl) g0 rfl rfl ko (by first | decide | omega) rfl ?_
    refine ex_go (S := (29, [(0, gx_r 8), (1, gx_r 257), (2, .inl c), (3, .inl ti)], [.inl ti, .inl me, .inl 99, gx_r 296], t0, n, 0)) rfl (fun _ => rfl) rfl ?_
    refine ex_go (S := (30, [(0, gx_r 8), (1, gx_r 257), (2, .inl c), (3, .inl ti)], [.inl 0, .inl ti, .inl me, .inl 99, gx_r 296], t0, n, 0)) rfl (fun _ => rfl) rfl ?_
    obtain ⟨_, r121, v121, t121, rfl, hv121, -, g121, e121⟩ := pc_value296 d n (mo := 99) (me := me) (ti := ti) (ou := 0) (L := L) g0 (by decide) (by first | decide | omega) hti (by decide) kL.1 hs hc' (fun z hz => ⟨_, hv z hz⟩) hr
    rw [eat_of hv121] at r121
    refine gx_callo (a := 296) rfl rfl g0 rfl rfl rfl r121 rfl ?_
    have k22 : ai_hv t121 275 c = some (.inl me) := (e121 275 c (by first | decide | omega)).trans km
    have k23 : ai_hv t121 12 c = some (.inl 0) := (e121 12 c (by first | decide | omega)).trans ko
    show en_ex _ _ _ _ (33, [(0, gx_r 8), (1, gx_r 257), (2, .inl c), (3, .inl ti)], [.inl (eat L me ti 0)], t121, n, 0) _
    refine ex_ret (r := (some (.inl (eat L me ti 0)), t121, n, 0)) rfl (fun _ => rfl) ?_
    exact ⟨_, rfl, t121, rfl, g121, e121⟩
  · refine en_u_ex (d := d + 2) rfl ?_
    show en_ex _ _ _ _ (0, [(0, gx_r 8), (1, gx_r 257), (2, .inl c), (3, .inl ti)], [], t0, n, 0) _
    refine ex_go (S := (1, [(0, gx_r 8), (1, gx_r 257), (2, .inl c), (3, .inl ti)], [gx_r 257], t0, n, 0)) rfl (fun _ => rfl) rfl ?_
    refine gxo_ref (a := 257) (c := 296) rfl g0 rfl rfl rfl rfl rfl ?_
    refine ex_go (S := (6, [(0, gx_r 8), (1, gx_r 257), (2, .inl c), (3, .inl ti)], [.inl 99, gx_r 296], t0, n, 0)) rfl (fun _ => rfl) rfl ?_
    refine ex_go (S := (7, [(0, gx_r 8), (1, gx_r 257), (2, .inl c), (3, .inl ti)], [gx_r 257, .inl 99, gx_r 296], t0, n, 0)) rfl (fun _ => rfl) rfl ?_
    refine gxo_ref (a := 257) (c := 272) rfl g0 rfl rfl rfl rfl rfl ?_
    refine gxo_ref (a := 272) (c := 275) rfl g0 rfl rfl rfl rfl rfl ?_
    refine ex_go (S := (14, [(0, gx_r 8), (1, gx_r 257), (2, .inl c), (3, .inl ti)], [.inl c, gx_r 275, .inl 99, gx_r 296], t0, n, 0)) rfl (fun _ => rfl) rfl ?_
    refine gx_ag (v := .inl me) (cb := fun c => Nat.beq c 0) rfl (fun _ => rfl) g0 rfl rfl km (by first | decide | omega) rfl ?_
    refine ex_go (S := (16, [(0, gx_r 8), (1, gx_r 257), (2, .inl c), (3, .inl ti)], [.inl ti, .inl me, .inl 99, gx_r 296], t0, n, 0)) rfl (fun _ => rfl) rfl ?_
    refine ex_go (S := (17, [(0, gx_r 8), (1, gx_r 257), (2, .inl c), (3, .inl ti)], [gx_r 8, .inl ti, .inl me, .inl 99, gx_r 296], t0, n, 0)) rfl (fun _ => rfl) rfl ?_
    refine gxo_ref (a := 8) (c := 12) rfl g0 rfl rfl rfl rfl rfl ?_
    refine ex_go (S := (21, [(0, gx_r 8), (1, gx_r 257), (2, .inl c), (3, .inl ti)], [.inl c, gx_r 12, .inl ti, .inl me, .inl 99, gx_r 296], t0, n, 0)) rfl (fun _ => rfl) rfl ?_
    refine gx_ag (v := .inl 1) (cb := fun c => Nat.beq c 2 || Nat.beq c 1) rfl (fun _ => rfl) g0 rfl rfl ko (by first | decide | omega) rfl ?_
    refine ex_go (S := (25, [(0, gx_r 8), (1, gx_r 257), (2, .inl c), (3, .inl ti)], [.inl ti, .inl me, .inl 99, gx_r 296], t0, n, 0)) rfl (fun _ => rfl) rfl ?_
    refine ex_go (S := (26, [(0, gx_r 8), (1, gx_r 257), (2, .inl c), (3, .inl ti)], [.inl 1, .inl ti, .inl me, .inl 99, gx_r 296], t0, n, 0)) rfl (fun _ => rfl) rfl ?_
    refine ex_go (S := (30, [(0, gx_r 8), (1, gx_r 257), (2, .inl c), (3, .inl ti)], [.inl 1, .inl ti, .inl me, .inl 99, gx_r 296], t0, n, 0)) rfl (fun _ => rfl) rfl ?_
    obtain ⟨_, r121, v121, t121, rfl, hv121, -, g121, e121⟩ := pc_value296 d n (mo := 99) (me := me) (ti := ti) (ou := 1) (L := L) g0 (by decide) (by first | decide | omega) hti (by decide) kL.1 hs hc' (fun z hz => ⟨_, hv z hz⟩) hr
    rw [eat_of hv121] at r121
    refine gx_callo (a := 296) rfl rfl g0 rfl rfl rfl r121 rfl ?_
    have k22 : ai_hv t121 275 c = some (.inl me) := (e121 275 c (by first | decide | omega)).trans km
    have k23 : ai_hv t121 12 c = some (.inl 1) := (e121 12 c (by first | decide | omega)).trans ko
    show en_ex _ _ _ _ (33, [(0, gx_r 8), (1, gx_r 257), (2, .inl c), (3, .inl ti)], [.inl (eat L me ti 1)], t121, n, 0) _
    refine ex_ret (r := (some (.inl (eat L me ti 1)), t121, n, 0)) rfl (fun _ => rfl) ?_
    exact ⟨_, rfl, t121, rfl, g121, e121⟩
theorem sc_pc8_257_0 (d n : Nat) {t0 : en_H} {w : Nat → Nat → Nat} {L : List Nat} {σ : Nat → Nat} {e : Nat} {cl : en_L} {Q : en_O → Prop} (g0 : ai_HG ah_G t0) (hC : CW t0 257 w L) (hw : WS w) (hb : sbd σ) (hc : 0 < w 0 4) (k0 : ai_hv t0 8 0 = some (.inl (σ 0))) (k7 : ai_hv t0 10 0 = some (.inl (σ 7))) (k11 : ai_hv t0 12 0 = some (.inl (σ 11))) (k13 : σ 11 = 1 → ai_hv t0 14 0 = some (.inl (σ 13))) (he : e ≤ 1000) (l0 : en_ld cl 0 = some (gx_r 8)) (l1 : en_ld cl 1 = some (gx_r 257)) (l2 : en_ld cl 2 = some (.inl e)) (l3 : en_ld cl 3 = some (.inl 0)) (hQ : ∀ cl' t', ai_HG ah_G t' → (∀ c i, ¬ (c = 297 ∨ ((c = 10 ∨ c = 13 ∨ c = 14) ∧ i = 0)) → ai_hv t' c i = ai_hv t0 c i) → ai_hv t' 13 0 = some (.inl 0) → ai_hv t' 10 0 = some (.inl (σ 7 - meal w L σ 0)) → (σ 11 = 1 → ai_hv t' 14 0 = some (.inl (fto w (σ 13)))) → en_ld cl' 0 = some (gx_r 8) → en_ld cl' 1 = some (gx_r 257) → en_ld cl' 2 = some (.inl (e + meal w L σ 0)) → en_ld cl' 3 = some (.inl 1) → en_ex none (en_u (d + 3)) (en_code 164) (fun _ => false) (4, cl', [], t', n, 0) Q) : en_ex none (en_u (d + 3)) (en_code 164) (fun _ => false) (4, cl, [], t0, n, 0) Q := by
  obtain ⟨⟨-, -, -, -, -, kK⟩, hnx, hcr, -, -, kL, hs, hv, hr⟩ := hC
  obtain ⟨hb1, ⟨hb7, hb8⟩, ⟨hb11, hb12⟩, ⟨hb13, hb14⟩, ⟨hb15, hb16⟩, hb0, -, -⟩ := hb
  obtain ⟨-, km, -⟩ := hcr 0 hc
  obtain ⟨-, hm, -⟩ := hw.2.1 0 hc
  have hea := eat_le (L := L) (me := w 2 0) (ti := σ 0) (ou := σ 11)
  have hml : meal w L σ 0 = min (eat L (w 2 0) (σ 0) (σ 11)) (σ 7) := rfl
  have hK := hw.1.2.2.2.2.1
  have hfl := fto_lt (q := σ 13) hw (by first | decide | omega)
  refine gx_ld (i := 3) (d := 0) (v := .inl 0) rfl (fun _ => rfl) l3 rfl rfl ?_
  refine gx_ld (i := 1) (d := 2) (v := gx_r 257) rfl (fun _ => rfl) l1 rfl rfl ?_
  refine gxo_ref (a := 257) (c := 272) rfl g0 rfl rfl rfl rfl rfl ?_
  refine gxo_get (a := 272) rfl g0 rfl rfl kK rfl ?_
  refine gx_2f (c := .ge) rfl (by first | decide | omega) (by first | decide | omega) (show ¬ (w 0 4 ≤ 0) from by omega) rfl ?_
  refine gx_ld (i := 0) (d := 2) (v := gx_r 8) rfl (fun _ => rfl) l0 rfl rfl ?_
  refine gxo_ref (a := 8) (c := 13) rfl g0 rfl rfl rfl rfl rfl ?_
  refine gx_ld (i := 3) (d := 0) (v := .inl 0) rfl (fun _ => rfl) l3 rfl rfl ?_
  refine ex_go (S := (21, cl, [.inl 0, .inl 0, gx_r 13], t0, n, 0)) rfl (fun _ => rfl) rfl ?_
  refine gx_apv (d := 2) rfl (fun _ => rfl) g0 rfl rfl rfl (show 0 < 2 from by omega) rfl (ai_in_h (by first | decide | omega) (by first | decide | omega) (by first | decide | omega)) rfl (fun t121 g121 k121 e121 => ?_)
  have k22 : ai_hv t121 8 0 = some (.inl (σ 0)) := (e121 8 0 (by first | decide | omega)).trans k0
  have k23 : ai_hv t121 10 0 = some (.inl (σ 7)) := (e121 10 0 (by first | decide | omega)).trans k7
  have k24 : ai_hv t121 12 0 = some (.inl (σ 11)) := (e121 12 0 (by first | decide | omega)).trans k11
  have k25 : ai_hv t121 272 5 = some (.inl (w 0 4)) := (e121 272 5 (by first | decide | omega)).trans kK
  refine gx_ld (i := 0) (d := 2) (v := gx_r 8) rfl (fun _ => rfl) l0 rfl rfl ?_
  refine gxo_ref (a := 8) (c := 10) rfl g121 rfl rfl rfl rfl rfl ?_
  refine gx_ld (i := 3) (d := 0) (v := .inl 0) rfl (fun _ => rfl) l3 rfl rfl ?_
  refine gx_ag (v := .inl (σ 7)) (cb := fun c => Nat.beq c 0) rfl (fun _ => rfl) g121 rfl rfl k23 (by first | decide | omega) rfl ?_
  refine gx_ld (i := 0) (d := 2) (v := gx_r 8) rfl (fun _ => rfl) l0 rfl rfl ?_
  refine gx_ld (i := 1) (d := 2) (v := gx_r 257) rfl (fun _ => rfl) l1 rfl rfl ?_
  refine gx_ld (i := 3) (d := 0) (v := .inl 0) rfl (fun _ => rfl) l3 rfl rfl ?_
  refine gx_ld (i := 0) (d := 2) (v := gx_r 8) rfl (fun _ => rfl) l0 rfl rfl ?_
  refine gxo_get (a := 8) rfl g121 rfl rfl k22 rfl ?_
  obtain ⟨_, r126, t126, rfl, g126, e126⟩ := sc_app8_257 d n (L := L) (c := 0) (me := w 2 0) (ti := σ 0) (ou := σ 11) g121 (by decide) ((e121 275 0 (by first | decide | omega)).trans (km)) (by first | decide | omega) ((e121 12 0 (by first | decide | omega)).trans (k11)) (by first | decide | omega) hb0 (CLs_keep kL (e121 296 2 (by first | decide | omega)) (fun j => e121 298 j (by first | decide | omega))) hs hv hr
  refine gx_callo (a := 8) rfl rfl g121 rfl rfl rfl r126 rfl ?_
  have k27 : ai_hv t126 8 0 = some (.inl (σ 0)) := (e126 8 0 (by first | decide | omega)).trans k22
  have k28 : ai_hv t126 10 0 = some (.inl (σ 7)) := (e126 10 0 (by first | decide | omega)).trans k23
  have k29 : ai_hv t126 12 0 = some (.inl (σ 11)) := (e126 12 0 (by first | decide | omega)).trans k24
  have k30 : ai_hv t126 272 5 = some (.inl (w 0 4)) := (e126 272 5 (by first | decide | omega)).trans k25
  have k31 : ai_hv t126 13 0 = some (.inl 0) := (e126 13 0 (by first | decide | omega)).trans k121
  show en_ex _ _ _ _ (38, cl, [.inl (eat L (w 2 0) (σ 0) (σ 11)), .inl (σ 7)], t126, n, 0) _
  refine gx_inn rfl rfl rfl (zk_min (by first | decide | omega) (by first | decide | omega)) rfl rfl ?_
  refine gx_sto (i := 4) (d := 0) rfl (fun _ => rfl) rfl rfl (fun l32 hl32 ml32 => ?_)
  have l32_0 : en_ld l32 0 = some (gx_r 8) := ml32 0 _ l0 rfl
  have l32_1 : en_ld l32 1 = some (gx_r 257) := ml32 1 _ l1 rfl
  have l32_2 : en_ld l32 2 = some (.inl e) := ml32 2 _ l2 rfl
  have l32_3 : en_ld l32 3 = some (.inl 0) := ml32 3 _ l3 rfl
  refine gx_ld (i := 0) (d := 2) (v := gx_r 8) rfl (fun _ => rfl) l32_0 rfl rfl ?_
  refine gxo_ref (a := 8) (c := 10) rfl g126 rfl rfl rfl rfl rfl ?_
  refine gx_ld (i := 3) (d := 0) (v := .inl 0) rfl (fun _ => rfl) l32_3 rfl rfl ?_
  refine ex_go (S := (49, l32, [.inl 0, gx_r 10, .inl 0, gx_r 10], t126, n, 0)) rfl (fun _ => rfl) rfl ?_
  refine gx_ag (v := .inl (σ 7)) (cb := fun c => Nat.beq c 0) rfl (fun _ => rfl) g126 rfl rfl k28 (by first | decide | omega) rfl ?_
  refine gx_ld (i := 4) (d := 0) (v := .inl (min (σ 7) (eat L (w 2 0) (σ 0) (σ 11)))) rfl (fun _ => rfl) hl32 rfl rfl ?_
  refine gx_isub rfl (by first | decide | omega) (by first | decide | omega) rfl ?_
  refine gx_ap rfl (fun _ => rfl) g126 rfl rfl rfl (show 0 < 2 from by omega) rfl (gx_full (by first | decide | omega)) rfl (fun t133 g133 k133 e133 => ?_)
  have k34 : ai_hv t133 8 0 = some (.inl (σ 0)) := (e133 8 0 (by first | decide | omega)).trans k27
  have k35 : ai_hv t133 12 0 = some (.inl (σ 11)) := (e133 12 0 (by first | decide | omega)).trans k29
  have k36 : ai_hv t133 272 5 = some (.inl (w 0 4)) := (e133 272 5 (by first | decide | omega)).trans k30
  have k37 : ai_hv t133 13 0 = some (.inl 0) := (e133 13 0 (by first | decide | omega)).trans k31
  refine gx_ld (i := 2) (d := 0) (v := .inl e) rfl (fun _ => rfl) l32_2 rfl rfl ?_
  refine gx_ld (i := 4) (d := 0) (v := .inl (min (σ 7) (eat L (w 2 0) (σ 0) (σ 11)))) rfl (fun _ => rfl) hl32 rfl rfl ?_
  refine ex_iadd rfl (by first | decide | omega) rfl ?_
  refine gx_sto (i := 2) (d := 0) rfl (fun _ => rfl) rfl rfl (fun l38 hl38 ml38 => ?_)
  have l38_0 : en_ld l38 0 = some (gx_r 8) := ml38 0 _ l32_0 rfl
  have l38_1 : en_ld l38 1 = some (gx_r 257) := ml38 1 _ l32_1 rfl
  have l38_3 : en_ld l38 3 = some (.inl 0) := ml38 3 _ l32_3 rfl
  have l38_4 : en_ld l38 4 = some (.inl (min (σ 7) (eat L (w 2 0) (σ 0) (σ 11)))) := ml38 4 _ hl32 rfl
  refine gx_ld (i := 0) (d := 2) (v := gx_r 8) rfl (fun _ => rfl) l38_0 rfl rfl ?_
  refine gxo_ref (a := 8) (c := 12) rfl g133 rfl rfl rfl rfl rfl ?_
  refine gx_ld (i := 3) (d := 0) (v := .inl 0) rfl (fun _ => rfl) l38_3 rfl rfl ?_
  refine gx_ag (v := .inl (σ 11)) (cb := fun c => Nat.beq c 2 || Nat.beq c 1) rfl (fun _ => rfl) g133 rfl rfl k35 (by first | decide | omega) rfl ?_
  by_cases hc39 : σ 11 = 0
  · refine gx_1t (c := .eq) rfl (by first | decide | omega) hc39 rfl ?_
    refine gx_incS (i := 3) (a := 0) (x := 1) rfl (fun _ => rfl) l38_3 (by first | decide | omega) rfl (fun l40 hl40 ml40 => ?_)
    have l40_0 : en_ld l40 0 = some (gx_r 8) := ml40 0 _ l38_0 rfl
    have l40_1 : en_ld l40 1 = some (gx_r 257) := ml40 1 _ l38_1 rfl
    have l40_4 : en_ld l40 4 = some (.inl (min (σ 7) (eat L (w 2 0) (σ 0) (σ 11)))) := ml40 4 _ l38_4 rfl
    have l40_2 : en_ld l40 2 = some (.inl (e + (min (σ 7) (eat L (w 2 0) (σ 0) (σ 11))))) := ml40 2 _ hl38 rfl
    refine ex_go (S := (4, l40, [], t133, n, 0)) rfl (fun _ => rfl) rfl ?_
    have hm9 : meal w L σ 0 = min (σ 7) (eat L (w 2 0) (σ 0) (σ 11)) := by omega
    exact hQ _ t133 g133 (fun c i h => (e133 c i (by first | decide | omega)).trans ((e126 c i (by first | decide | omega)).trans (e121 c i (by first | decide | omega)))) k37 (by rw [hm9]; exact k133) (fun z => absurd z (by first | decide | omega)) l40_0 l40_1 (by rw [hm9]; exact l40_2) hl40
  · refine gx_1f (c := .eq) rfl (by first | decide | omega) hc39 rfl ?_
    refine gx_ld (i := 0) (d := 2) (v := gx_r 8) rfl (fun _ => rfl) l38_0 rfl rfl ?_
    refine gxo_ref (a := 8) (c := 14) rfl g133 rfl rfl rfl rfl rfl ?_
    refine gx_ld (i := 3) (d := 0) (v := .inl 0) rfl (fun _ => rfl) l38_3 rfl rfl ?_
    refine gx_ld (i := 1) (d := 2) (v := gx_r 257) rfl (fun _ => rfl) l38_1 rfl rfl ?_
    refine gxo_ref (a := 257) (c := 259) rfl g133 rfl rfl rfl rfl rfl ?_
    refine gx_ld (i := 0) (d := 2) (v := gx_r 8) rfl (fun _ => rfl) l38_0 rfl rfl ?_
    refine gxo_ref (a := 8) (c := 14) rfl g133 rfl rfl rfl rfl rfl ?_
    refine gx_ld (i := 3) (d := 0) (v := .inl 0) rfl (fun _ => rfl) l38_3 rfl rfl ?_
    have k41 := ((e133 14 0 (by first | decide | omega)).trans ((e126 14 0 (by first | decide | omega)).trans (e121 14 0 (by first | decide | omega)))).trans (k13 (by first | decide | omega))
    refine gx_ag (v := .inl (σ 13)) (cb := fun c => Nat.beq c 0) rfl (fun _ => rfl) g133 rfl rfl k41 (by first | decide | omega) rfl ?_
    have k42 := ((e133 259 (σ 13) (by first | decide | omega)).trans ((e126 259 (σ 13) (by first | decide | omega)).trans (e121 259 (σ 13) (by first | decide | omega)))).trans (hnx (σ 13) (by first | decide | omega)).2
    refine gx_ag (v := .inl (fto w (σ 13))) (cb := fun c => Nat.beq c 0) rfl (fun _ => rfl) g133 rfl rfl k42 (by first | decide | omega) rfl ?_
    refine gx_ap rfl (fun _ => rfl) g133 rfl rfl rfl (show 0 < 2 from by omega) rfl (ai_in_h (by first | decide | omega) (by first | decide | omega) (by first | decide | omega)) rfl (fun t143 g143 k143 e143 => ?_)
    have k44 : ai_hv t143 8 0 = some (.inl (σ 0)) := (e143 8 0 (by first | decide | omega)).trans k34
    have k45 : ai_hv t143 12 0 = some (.inl (σ 11)) := (e143 12 0 (by first | decide | omega)).trans k35
    have k46 : ai_hv t143 272 5 = some (.inl (w 0 4)) := (e143 272 5 (by first | decide | omega)).trans k36
    have k47 : ai_hv t143 13 0 = some (.inl 0) := (e143 13 0 (by first | decide | omega)).trans k37
    have k48 : ai_hv t143 10 0 = some (.inl ((σ 7) - (min (σ 7) (eat L (w 2 0) (σ 0) (σ 11))))) := (e143 10 0 (by first | decide | omega)).trans k133
    have k49 : ai_hv t143 259 (σ 13) = some (.inl (fto w (σ 13))) := (e143 259 (σ 13) (by first | decide | omega)).trans k42
    refine gx_incS (i := 3) (a := 0) (x := 1) rfl (fun _ => rfl) l38_3 (by first | decide | omega) rfl (fun l50 hl50 ml50 => ?_)
    have l50_0 : en_ld l50 0 = some (gx_r 8) := ml50 0 _ l38_0 rfl
    have l50_1 : en_ld l50 1 = some (gx_r 257) := ml50 1 _ l38_1 rfl
    have l50_4 : en_ld l50 4 = some (.inl (min (σ 7) (eat L (w 2 0) (σ 0) (σ 11)))) := ml50 4 _ l38_4 rfl
    have l50_2 : en_ld l50 2 = some (.inl (e + (min (σ 7) (eat L (w 2 0) (σ 0) (σ 11))))) := ml50 2 _ hl38 rfl
    refine ex_go (S := (4, l50, [], t143, n, 0)) rfl (fun _ => rfl) rfl ?_
    have hm9 : meal w L σ 0 = min (σ 7) (eat L (w 2 0) (σ 0) (σ 11)) := by omega
    exact hQ _ t143 g143 (fun c i h => (e143 c i (by first | decide | omega)).trans ((e133 c i (by first | decide | omega)).trans ((e126 c i (by first | decide | omega)).trans (e121 c i (by first | decide | omega))))) k47 (by rw [hm9]; exact k48) (fun _ => k143) l50_0 l50_1 (by rw [hm9]; exact l50_2) hl50
theorem sc_pc8_257_1 (d n : Nat) {t0 : en_H} {w : Nat → Nat → Nat} {L : List Nat} {σ : Nat → Nat} {e : Nat} {cl : en_L} {Q : en_O → Prop} (g0 : ai_HG ah_G t0) (hC : CW t0 257 w L) (hw : WS w) (hb : sbd σ) (hc : 1 < w 0 4) (k0 : ai_hv t0 8 0 = some (.inl (σ 0))) (k7 : ai_hv t0 10 1 = some (.inl (σ 8))) (k11 : ai_hv t0 12 1 = some (.inl (σ 12))) (k13 : σ 12 = 1 → ai_hv t0 14 1 = some (.inl (σ 14))) (he : e ≤ 1000) (l0 : en_ld cl 0 = some (gx_r 8)) (l1 : en_ld cl 1 = some (gx_r 257)) (l2 : en_ld cl 2 = some (.inl e)) (l3 : en_ld cl 3 = some (.inl 1)) (hQ : ∀ cl' t', ai_HG ah_G t' → (∀ c i, ¬ (c = 297 ∨ ((c = 10 ∨ c = 13 ∨ c = 14) ∧ i = 1)) → ai_hv t' c i = ai_hv t0 c i) → ai_hv t' 13 1 = some (.inl 0) → ai_hv t' 10 1 = some (.inl (σ 8 - meal w L σ 1)) → (σ 12 = 1 → ai_hv t' 14 1 = some (.inl (fto w (σ 14)))) → en_ld cl' 0 = some (gx_r 8) → en_ld cl' 1 = some (gx_r 257) → en_ld cl' 2 = some (.inl (e + meal w L σ 1)) → en_ld cl' 3 = some (.inl 2) → en_ex none (en_u (d + 3)) (en_code 164) (fun _ => false) (4, cl', [], t', n, 0) Q) : en_ex none (en_u (d + 3)) (en_code 164) (fun _ => false) (4, cl, [], t0, n, 0) Q := by
  obtain ⟨⟨-, -, -, -, -, kK⟩, hnx, hcr, -, -, kL, hs, hv, hr⟩ := hC
  obtain ⟨hb1, ⟨hb7, hb8⟩, ⟨hb11, hb12⟩, ⟨hb13, hb14⟩, ⟨hb15, hb16⟩, hb0, -, -⟩ := hb
  obtain ⟨-, km, -⟩ := hcr 1 hc
  obtain ⟨-, hm, -⟩ := hw.2.1 1 hc
  have hea := eat_le (L := L) (me := w 2 1) (ti := σ 0) (ou := σ 12)
  have hml : meal w L σ 1 = min (eat L (w 2 1) (σ 0) (σ 12)) (σ 8) := rfl
  have hK := hw.1.2.2.2.2.1
  have hfl := fto_lt (q := σ 14) hw (by first | decide | omega)
  refine gx_ld (i := 3) (d := 0) (v := .inl 1) rfl (fun _ => rfl) l3 rfl rfl ?_
  refine gx_ld (i := 1) (d := 2) (v := gx_r 257) rfl (fun _ => rfl) l1 rfl rfl ?_
  refine gxo_ref (a := 257) (c := 272) rfl g0 rfl rfl rfl rfl rfl ?_
  refine gxo_get (a := 272) rfl g0 rfl rfl kK rfl ?_
  refine gx_2f (c := .ge) rfl (by first | decide | omega) (by first | decide | omega) (show ¬ (w 0 4 ≤ 1) from by omega) rfl ?_
  refine gx_ld (i := 0) (d := 2) (v := gx_r 8) rfl (fun _ => rfl) l0 rfl rfl ?_
  refine gxo_ref (a := 8) (c := 13) rfl g0 rfl rfl rfl rfl rfl ?_
  refine gx_ld (i := 3) (d := 0) (v := .inl 1) rfl (fun _ => rfl) l3 rfl rfl ?_
  refine ex_go (S := (21, cl, [.inl 0, .inl 1, gx_r 13], t0, n, 0)) rfl (fun _ => rfl) rfl ?_
  refine gx_apv (d := 2) rfl (fun _ => rfl) g0 rfl rfl rfl (show 1 < 2 from by omega) rfl (ai_in_h (by first | decide | omega) (by first | decide | omega) (by first | decide | omega)) rfl (fun t121 g121 k121 e121 => ?_)
  have k22 : ai_hv t121 8 0 = some (.inl (σ 0)) := (e121 8 0 (by first | decide | omega)).trans k0
  have k23 : ai_hv t121 10 1 = some (.inl (σ 8)) := (e121 10 1 (by first | decide | omega)).trans k7
  have k24 : ai_hv t121 12 1 = some (.inl (σ 12)) := (e121 12 1 (by first | decide | omega)).trans k11
  have k25 : ai_hv t121 272 5 = some (.inl (w 0 4)) := (e121 272 5 (by first | decide | omega)).trans kK
  refine gx_ld (i := 0) (d := 2) (v := gx_r 8) rfl (fun _ => rfl) l0 rfl rfl ?_
  refine gxo_ref (a := 8) (c := 10) rfl g121 rfl rfl rfl rfl rfl ?_
  refine gx_ld (i := 3) (d := 0) (v := .inl 1) rfl (fun _ => rfl) l3 rfl rfl ?_
  refine gx_ag (v := .inl (σ 8)) (cb := fun c => Nat.beq c 0) rfl (fun _ => rfl) g121 rfl rfl k23 (by first | decide | omega) rfl ?_
  refine gx_ld (i := 0) (d := 2) (v := gx_r 8) rfl (fun _ => rfl) l0 rfl rfl ?_
  refine gx_ld (i := 1) (d := 2) (v := gx_r 257) rfl (fun _ => rfl) l1 rfl rfl ?_
  refine gx_ld (i := 3) (d := 0) (v := .inl 1) rfl (fun _ => rfl) l3 rfl rfl ?_
  refine gx_ld (i := 0) (d := 2) (v := gx_r 8) rfl (fun _ => rfl) l0 rfl rfl ?_
  refine gxo_get (a := 8) rfl g121 rfl rfl k22 rfl ?_
  obtain ⟨_, r126, t126, rfl, g126, e126⟩ := sc_app8_257 d n (L := L) (c := 1) (me := w 2 1) (ti := σ 0) (ou := σ 12) g121 (by decide) ((e121 275 1 (by first | decide | omega)).trans (km)) (by first | decide | omega) ((e121 12 1 (by first | decide | omega)).trans (k11)) (by first | decide | omega) hb0 (CLs_keep kL (e121 296 2 (by first | decide | omega)) (fun j => e121 298 j (by first | decide | omega))) hs hv hr
  refine gx_callo (a := 8) rfl rfl g121 rfl rfl rfl r126 rfl ?_
  have k27 : ai_hv t126 8 0 = some (.inl (σ 0)) := (e126 8 0 (by first | decide | omega)).trans k22
  have k28 : ai_hv t126 10 1 = some (.inl (σ 8)) := (e126 10 1 (by first | decide | omega)).trans k23
  have k29 : ai_hv t126 12 1 = some (.inl (σ 12)) := (e126 12 1 (by first | decide | omega)).trans k24
  have k30 : ai_hv t126 272 5 = some (.inl (w 0 4)) := (e126 272 5 (by first | decide | omega)).trans k25
  have k31 : ai_hv t126 13 1 = some (.inl 0) := (e126 13 1 (by first | decide | omega)).trans k121
  show en_ex _ _ _ _ (38, cl, [.inl (eat L (w 2 1) (σ 0) (σ 12)), .inl (σ 8)], t126, n, 0) _
  refine gx_inn rfl rfl rfl (zk_min (by first | decide | omega) (by first | decide | omega)) rfl rfl ?_
  refine gx_sto (i := 4) (d := 0) rfl (fun _ => rfl) rfl rfl (fun l32 hl32 ml32 => ?_)
  have l32_0 : en_ld l32 0 = some (gx_r 8) := ml32 0 _ l0 rfl
  have l32_1 : en_ld l32 1 = some (gx_r 257) := ml32 1 _ l1 rfl
  have l32_2 : en_ld l32 2 = some (.inl e) := ml32 2 _ l2 rfl
  have l32_3 : en_ld l32 3 = some (.inl 1) := ml32 3 _ l3 rfl
  refine gx_ld (i := 0) (d := 2) (v := gx_r 8) rfl (fun _ => rfl) l32_0 rfl rfl ?_
  refine gxo_ref (a := 8) (c := 10) rfl g126 rfl rfl rfl rfl rfl ?_
  refine gx_ld (i := 3) (d := 0) (v := .inl 1) rfl (fun _ => rfl) l32_3 rfl rfl ?_
  refine ex_go (S := (49, l32, [.inl 1, gx_r 10, .inl 1, gx_r 10], t126, n, 0)) rfl (fun _ => rfl) rfl ?_
  refine gx_ag (v := .inl (σ 8)) (cb := fun c => Nat.beq c 0) rfl (fun _ => rfl) g126 rfl rfl k28 (by first | decide | omega) rfl ?_
  refine gx_ld (i := 4) (d := 0) (v := .inl (min (σ 8) (eat L (w 2 1) (σ 0) (σ 12)))) rfl (fun _ => rfl) hl32 rfl rfl ?_
  refine gx_isub rfl (by first | decide | omega) (by first | decide | omega) rfl ?_
  refine gx_ap rfl (fun _ => rfl) g126 rfl rfl rfl (show 1 < 2 from by omega) rfl (gx_full (by first | decide | omega)) rfl (fun t133 g133 k133 e133 => ?_)
  have k34 : ai_hv t133 8 0 = some (.inl (σ 0)) := (e133 8 0 (by first | decide | omega)).trans k27
  have k35 : ai_hv t133 12 1 = some (.inl (σ 12)) := (e133 12 1 (by first | decide | omega)).trans k29
  have k36 : ai_hv t133 272 5 = some (.inl (w 0 4)) := (e133 272 5 (by first | decide | omega)).trans k30
  have k37 : ai_hv t133 13 1 = some (.inl 0) := (e133 13 1 (by first | decide | omega)).trans k31
  refine gx_ld (i := 2) (d := 0) (v := .inl e) rfl (fun _ => rfl) l32_2 rfl rfl ?_
  refine gx_ld (i := 4) (d := 0) (v := .inl (min (σ 8) (eat L (w 2 1) (σ 0) (σ 12)))) rfl (fun _ => rfl) hl32 rfl rfl ?_
  refine ex_iadd rfl (by first | decide | omega) rfl ?_
  refine gx_sto (i := 2) (d := 0) rfl (fun _ => rfl) rfl rfl (fun l38 hl38 ml38 => ?_)
  have l38_0 : en_ld l38 0 = some (gx_r 8) := ml38 0 _ l32_0 rfl
  have l38_1 : en_ld l38 1 = some (gx_r 257) := ml38 1 _ l32_1 rfl
  have l38_3 : en_ld l38 3 = some (.inl 1) := ml38 3 _ l32_3 rfl
  have l38_4 : en_ld l38 4 = some (.inl (min (σ 8) (eat L (w 2 1) (σ 0) (σ 12)))) := ml38 4 _ hl32 rfl
  refine gx_ld (i := 0) (d := 2) (v := gx_r 8) rfl (fun _ => rfl) l38_0 rfl rfl ?_
  refine gxo_ref (a := 8) (c := 12) rfl g133 rfl rfl rfl rfl rfl ?_
  refine gx_ld (i := 3) (d := 0) (v := .inl 1) rfl (fun _ => rfl) l38_3 rfl rfl ?_
  refine gx_ag (v := .inl (σ 12)) (cb := fun c => Nat.beq c 2 || Nat.beq c 1) rfl (fun _ => rfl) g133 rfl rfl k35 (by first | decide | omega) rfl ?_
  by_cases hc39 : σ 12 = 0
  · refine gx_1t (c := .eq) rfl (by first | decide | omega) hc39 rfl ?_
    refine gx_incS (i := 3) (a := 1) (x := 1) rfl (fun _ => rfl) l38_3 (by first | decide | omega) rfl (fun l40 hl40 ml40 => ?_)
    have l40_0 : en_ld l40 0 = some (gx_r 8) := ml40 0 _ l38_0 rfl
    have l40_1 : en_ld l40 1 = some (gx_r 257) := ml40 1 _ l38_1 rfl
    have l40_4 : en_ld l40 4 = some (.inl (min (σ 8) (eat L (w 2 1) (σ 0) (σ 12)))) := ml40 4 _ l38_4 rfl
    have l40_2 : en_ld l40 2 = some (.inl (e + (min (σ 8) (eat L (w 2 1) (σ 0) (σ 12))))) := ml40 2 _ hl38 rfl
    refine ex_go (S := (4, l40, [], t133, n, 0)) rfl (fun _ => rfl) rfl ?_
    have hm9 : meal w L σ 1 = min (σ 8) (eat L (w 2 1) (σ 0) (σ 12)) := by omega
    exact hQ _ t133 g133 (fun c i h => (e133 c i (by first | decide | omega)).trans ((e126 c i (by first | decide | omega)).trans (e121 c i (by first | decide | omega)))) k37 (by rw [hm9]; exact k133) (fun z => absurd z (by first | decide | omega)) l40_0 l40_1 (by rw [hm9]; exact l40_2) hl40
  · refine gx_1f (c := .eq) rfl (by first | decide | omega) hc39 rfl ?_
    refine gx_ld (i := 0) (d := 2) (v := gx_r 8) rfl (fun _ => rfl) l38_0 rfl rfl ?_
    refine gxo_ref (a := 8) (c := 14) rfl g133 rfl rfl rfl rfl rfl ?_
    refine gx_ld (i := 3) (d := 0) (v := .inl 1) rfl (fun _ => rfl) l38_3 rfl rfl ?_
    refine gx_ld (i := 1) (d := 2) (v := gx_r 257) rfl (fun _ => rfl) l38_1 rfl rfl ?_
    refine gxo_ref (a := 257) (c := 259) rfl g133 rfl rfl rfl rfl rfl ?_
    refine gx_ld (i := 0) (d := 2) (v := gx_r 8) rfl (fun _ => rfl) l38_0 rfl rfl ?_
    refine gxo_ref (a := 8) (c := 14) rfl g133 rfl rfl rfl rfl rfl ?_
    refine gx_ld (i := 3) (d := 0) (v := .inl 1) rfl (fun _ => rfl) l38_3 rfl rfl ?_
    have k41 := ((e133 14 1 (by first | decide | omega)).trans ((e126 14 1 (by first | decide | omega)).trans (e121 14 1 (by first | decide | omega)))).trans (k13 (by first | decide | omega))
    refine gx_ag (v := .inl (σ 14)) (cb := fun c => Nat.beq c 0) rfl (fun _ => rfl) g133 rfl rfl k41 (by first | decide | omega) rfl ?_
    have k42 := ((e133 259 (σ 14) (by first | decide | omega)).trans ((e126 259 (σ 14) (by first | decide | omega)).trans (e121 259 (σ 14) (by first | decide | omega)))).trans (hnx (σ 14) (by first | decide | omega)).2
    refine gx_ag (v := .inl (fto w (σ 14))) (cb := fun c => Nat.beq c 0) rfl (fun _ => rfl) g133 rfl rfl k42 (by first | decide | omega) rfl ?_
    refine gx_ap rfl (fun _ => rfl) g133 rfl rfl rfl (show 1 < 2 from by omega) rfl (ai_in_h (by first | decide | omega) (by first | decide | omega) (by first | decide | omega)) rfl (fun t143 g143 k143 e143 => ?_)
    have k44 : ai_hv t143 8 0 = some (.inl (σ 0)) := (e143 8 0 (by first | decide | omega)).trans k34
    have k45 : ai_hv t143 12 1 = some (.inl (σ 12)) := (e143 12 1 (by first | decide | omega)).trans k35
    have k46 : ai_hv t143 272 5 = some (.inl (w 0 4)) := (e143 272 5 (by first | decide | omega)).trans k36
    have k47 : ai_hv t143 13 1 = some (.inl 0) := (e143 13 1 (by first | decide | omega)).trans k37
    have k48 : ai_hv t143 10 1 = some (.inl ((σ 8) - (min (σ 8) (eat L (w 2 1) (σ 0) (σ 12))))) := (e143 10 1 (by first | decide | omega)).trans k133
    have k49 : ai_hv t143 259 (σ 14) = some (.inl (fto w (σ 14))) := (e143 259 (σ 14) (by first | decide | omega)).trans k42
    refine gx_incS (i := 3) (a := 1) (x := 1) rfl (fun _ => rfl) l38_3 (by first | decide | omega) rfl (fun l50 hl50 ml50 => ?_)
    have l50_0 : en_ld l50 0 = some (gx_r 8) := ml50 0 _ l38_0 rfl
    have l50_1 : en_ld l50 1 = some (gx_r 257) := ml50 1 _ l38_1 rfl
    have l50_4 : en_ld l50 4 = some (.inl (min (σ 8) (eat L (w 2 1) (σ 0) (σ 12)))) := ml50 4 _ l38_4 rfl
    have l50_2 : en_ld l50 2 = some (.inl (e + (min (σ 8) (eat L (w 2 1) (σ 0) (σ 12))))) := ml50 2 _ hl38 rfl
    refine ex_go (S := (4, l50, [], t143, n, 0)) rfl (fun _ => rfl) rfl ?_
    have hm9 : meal w L σ 1 = min (σ 8) (eat L (w 2 1) (σ 0) (σ 12)) := by omega
    exact hQ _ t143 g143 (fun c i h => (e143 c i (by first | decide | omega)).trans ((e133 c i (by first | decide | omega)).trans ((e126 c i (by first | decide | omega)).trans (e121 c i (by first | decide | omega))))) k47 (by rw [hm9]; exact k48) (fun _ => k143) l50_0 l50_1 (by rw [hm9]; exact l50_2) hl50
theorem sc_pt8_257 (d n : Nat) {tb : en_H} {w : Nat → Nat → Nat} {L : List Nat} {P : Nat → Nat} {e : Nat} {Q : en_O → Prop} (hC : CW tb 257 w L) (hw : WS w) (hP : ∀ i, i < 6 → P i ≤ 63) (hQ : ∀ cl t1, ai_HG ah_G t1 → (∀ c i, ¬ (c = 9 ∧ i < w 0 2) → ai_hv t1 c i = ai_hv tb c i) → (∀ i, i < w 0 2 → ai_hv t1 9 i = some (.inl (if i < w 0 2 then fto w (P i) else P i))) → en_ld cl 0 = some (gx_r 8) → en_ld cl 1 = some (gx_r 257) → en_ld cl 2 = some (.inl e) → en_ex none (en_u (d + 3)) (en_code 164) (fun _ => false) (127, cl, [], t1, n, 0) Q) : ∀ j k cl t0, k + j = w 0 2 → ai_HG ah_G t0 → (∀ c i, ¬ (c = 9 ∧ i < w 0 2) → ai_hv t0 c i = ai_hv tb c i) → (∀ i, i < w 0 2 → ai_hv t0 9 i = some (.inl (if i < k then fto w (P i) else P i))) → en_ld cl 0 = some (gx_r 8) → en_ld cl 1 = some (gx_r 257) → en_ld cl 2 = some (.inl e) → en_ld cl 3 = some (.inl k) → en_ex none (en_u (d + 3)) (en_code 164) (fun _ => false) (93, cl, [], t0, n, 0) Q := by
  have hT := hw.1.2.2.1
  intro j
  induction j with
  | zero =>
    intro k cl t0 hk g0 e0 i0 l0 l1 l2 l3
    have hk : k = w 0 2 := by omega
    have kT := (e0 260 5 (by first | decide | omega)).trans hC.1.2.2.2.1
    refine gx_ld (i := 3) (d := 0) (v := .inl k) rfl (fun _ => rfl) l3 rfl rfl ?_
    refine gx_ld (i := 1) (d := 2) (v := gx_r 257) rfl (fun _ => rfl) l1 rfl rfl ?_
    refine gxo_ref (a := 257) (c := 260) rfl g0 rfl rfl rfl rfl rfl ?_
    refine gxo_get (a := 260) rfl g0 rfl rfl kT rfl ?_
    refine gx_2t (c := .ge) rfl (by first | decide | omega) (by first | decide | omega) (show w 0 2 ≤ k from by omega) rfl ?_
    rw [hk] at i0
    exact hQ _ t0 g0 e0 i0 l0 l1 l2
  | succ j ih =>
    intro k cl t0 hk g0 e0 i0 l0 l1 l2 l3
    have kT := (e0 260 5 (by first | decide | omega)).trans hC.1.2.2.2.1
    have kp := i0 k (by first | decide | omega)
    rw [if_neg (by first | decide | omega)] at kp
    have hp := hP k (by first | decide | omega)
    have hfl := fto_lt (q := P k) hw (by first | decide | omega)
    have kn := (e0 259 (P k) (by first | decide | omega)).trans (hC.2.1 (P k) (by first | decide | omega)).2
    refine gx_ld (i := 3) (d := 0) (v := .inl k) rfl (fun _ => rfl) l3 rfl rfl ?_
    refine gx_ld (i := 1) (d := 2) (v := gx_r 257) rfl (fun _ => rfl) l1 rfl rfl ?_
    refine gxo_ref (a := 257) (c := 260) rfl g0 rfl rfl rfl rfl rfl ?_
    refine gxo_get (a := 260) rfl g0 rfl rfl kT rfl ?_
    refine gx_2f (c := .ge) rfl (by first | decide | omega) (by first | decide | omega) (show ¬ (w 0 2 ≤ k) from by omega) rfl ?_
    refine gx_ld (i := 0) (d := 2) (v := gx_r 8) rfl (fun _ => rfl) l0 rfl rfl ?_
    refine gxo_ref (a := 8) (c := 9) rfl g0 rfl rfl rfl rfl rfl ?_
    refine gx_ld (i := 3) (d := 0) (v := .inl k) rfl (fun _ => rfl) l3 rfl rfl ?_
    refine gx_ld (i := 1) (d := 2) (v := gx_r 257) rfl (fun _ => rfl) l1 rfl rfl ?_
    refine gxo_ref (a := 257) (c := 259) rfl g0 rfl rfl rfl rfl rfl ?_
    refine gx_ld (i := 0) (d := 2) (v := gx_r 8) rfl (fun _ => rfl) l0 rfl rfl ?_
    refine gxo_ref (a := 8) (c := 9) rfl g0 rfl rfl rfl rfl rfl ?_
    refine gx_ld (i := 3) (d := 0) (v := .inl k) rfl (fun _ => rfl) l3 rfl rfl ?_
    refine gx_ag (v := .inl (P k)) (cb := fun c => Nat.beq c 0) rfl (fun _ => rfl) g0 rfl rfl kp (by first | decide | omega) rfl ?_
    refine gx_ag (v := .inl (fto w (P k))) (cb := fun c => Nat.beq c 0) rfl (fun _ => rfl) g0 rfl rfl kn (by first | decide | omega) rfl ?_
    refine gx_ap rfl (fun _ => rfl) g0 rfl rfl rfl (show k < 6 from by omega) (gx_run1 (show k < 6 from by omega)) (ai_in_h (by first | decide | omega) (by first | decide | omega) (by first | decide | omega)) rfl (fun t121 g121 k121 e121 => ?_)
    have k22 : ai_hv t121 260 5 = some (.inl (w 0 2)) := (e121 260 5 (by first | decide | omega)).trans kT
    have k23 : ai_hv t121 259 (P k) = some (.inl (fto w (P k))) := (e121 259 (P k) (by first | decide | omega)).trans kn
    refine gx_incS (i := 3) (a := k) (x := 1) rfl (fun _ => rfl) l3 (by first | decide | omega) rfl (fun l24 hl24 ml24 => ?_)
    have l24_0 : en_ld l24 0 = some (gx_r 8) := ml24 0 _ l0 rfl
    have l24_1 : en_ld l24 1 = some (gx_r 257) := ml24 1 _ l1 rfl
    have l24_2 : en_ld l24 2 = some (.inl e) := ml24 2 _ l2 rfl
    refine ex_go (S := (93, l24, [], t121, n, 0)) rfl (fun _ => rfl) rfl ?_
    refine ih (k + 1) _ t121 (by first | decide | omega) g121 (fun c i h => (e121 c i (by first | decide | omega)).trans (e0 c i h)) (fun i hi => ?_) l24_0 l24_1 l24_2 hl24
    by_cases e9 : i = k
    · subst e9
      rw [if_pos (by first | decide | omega)]
      exact k121
    · refine (e121 9 i (by first | decide | omega)).trans ((i0 i hi).trans ?_)
      by_cases c9 : i < k
      · rw [if_pos c9, if_pos (by first | decide | omega)]
      · rw [if_neg c9, if_neg (by first | decide | omega)]
theorem sc_pass8_257 (d n : Nat) {t0 : en_H} {w : Nat → Nat → Nat} {L : List Nat} {σ : Nat → Nat} (g0 : ai_HG ah_G t0) (hC : CW t0 257 w L) (hw : WS w) (hb : sbd σ) (hS : SC t0 8 (w 0 2) (w 0 4) σ) : ∃ r, en_u (d + 4) 164 [gx_r 8, gx_r 257] t0 n = some r ∧ ∃ t', r = (some (.inl (eaten w L σ)), t', n, 0) ∧ ai_HG ah_G t' ∧ (∀ c i, ¬ (c = 297 ∨ c = 9 ∨ c = 10 ∨ c = 13 ∨ c = 14 ∨ (c = 8 ∧ i = 0)) → ai_hv t' c i = ai_hv t0 c i) ∧ SC t' 8 (w 0 2) (w 0 4) (stp w L σ) := by
  obtain ⟨q0, hpl, hcr⟩ := hS
  have kK := hC.1.2.2.2.2.2
  have hb9 := hb
  obtain ⟨hb1, ⟨hb7, hb8⟩, ⟨hb11, hb12⟩, ⟨hb13, hb14⟩, -, hb0, -, -⟩ := hb9
  have hm0 := meal_le (w := w) (L := L) (σ := σ) (c := 0)
  have hm1 := meal_le (w := w) (L := L) (σ := σ) (c := 1)
  have hT := hw.1.2.2.1
  have hK := hw.1.2.2.2.2.1
  rcases (show w 0 4 = 0 ∨ w 0 4 = 1 ∨ w 0 4 = 2 by omega) with hK9 | hK9 | hK9
  · refine en_u_ex (d := d + 3) rfl ?_
    show en_ex _ _ _ _ (0, [(0, gx_r 8), (1, gx_r 257)], [], t0, n, 0) _
    refine ex_go (S := (1, [(0, gx_r 8), (1, gx_r 257)], [.inl 0], t0, n, 0)) rfl (fun _ => rfl) rfl ?_
    refine ex_go (S := (2, [(2, .inl 0), (0, gx_r 8), (1, gx_r 257)], [], t0, n, 0)) rfl (fun _ => rfl) rfl ?_
    refine ex_go (S := (3, [(2, .inl 0), (0, gx_r 8), (1, gx_r 257)], [.inl 0], t0, n, 0)) rfl (fun _ => rfl) rfl ?_
    refine ex_go (S := (4, [(3, .inl 0), (2, .inl 0), (0, gx_r 8), (1, gx_r 257)], [], t0, n, 0)) rfl (fun _ => rfl) rfl ?_
    refine ex_go (S := (5, [(3, .inl 0), (2, .inl 0), (0, gx_r 8), (1, gx_r 257)], [.inl 0], t0, n, 0)) rfl (fun _ => rfl) rfl ?_
    refine ex_go (S := (6, [(3, .inl 0), (2, .inl 0), (0, gx_r 8), (1, gx_r 257)], [gx_r 257, .inl 0], t0, n, 0)) rfl (fun _ => rfl) rfl ?_
    refine gxo_ref (a := 257) (c := 272) rfl g0 rfl rfl rfl rfl rfl ?_
    have k21 := kK
    rw [hK9] at k21
    refine gxo_get (a := 272) rfl g0 rfl rfl k21 rfl ?_
    refine ex_go (S := (91, [(3, .inl 0), (2, .inl 0), (0, gx_r 8), (1, gx_r 257)], [], t0, n, 0)) rfl (fun _ => rfl) rfl ?_
    refine ex_go (S := (92, [(3, .inl 0), (2, .inl 0), (0, gx_r 8), (1, gx_r 257)], [.inl 0], t0, n, 0)) rfl (fun _ => rfl) rfl ?_
    refine ex_go (S := (93, [(3, .inl 0), (2, .inl 0), (0, gx_r 8), (1, gx_r 257)], [], t0, n, 0)) rfl (fun _ => rfl) rfl ?_
    refine sc_pt8_257 d n (tb := t0) (w := w) (L := L) (P := fun i => σ (1 + i)) (e := 0) hC hw hb1 (fun cl122 t122 g122 e122 i122 l1220 l1221 l1222 => ?_) (w 0 2) 0 _ _ (by first | decide | omega) g0 (fun _ _ _ => rfl) (fun i hi => ?_) rfl rfl rfl rfl
    · have k23 : ai_hv t122 8 0 = some (.inl (σ 0)) := (e122 8 0 (by first | decide | omega)).trans q0
      have k24 : ai_hv t122 272 5 = some (.inl 0) := (e122 272 5 (by first | decide | omega)).trans k21
      refine gx_ld (i := 0) (d := 2) (v := gx_r 8) rfl (fun _ => rfl) l1220 rfl rfl ?_
      refine ex_go (S := (129, cl122, [gx_r 8, gx_r 8], t122, n, 0)) rfl (fun _ => rfl) rfl ?_
      refine gxo_get (a := 8) rfl g122 rfl rfl k23 rfl ?_
      refine ex_go (S := (133, cl122, [.inl 1, .inl (σ 0), gx_r 8], t122, n, 0)) rfl (fun _ => rfl) rfl ?_
      have hw25 : en_wrap ((σ 0) + 1) < 4294967296 := wrap_lt
      refine gs_iaddx rfl rfl ?_
      refine gxo_put (a := 8) rfl g122 rfl rfl rfl (gx_full (by first | decide | omega)) rfl (fun t126 g126 k126 e126 => ?_)
      have k27 : ai_hv t126 272 5 = some (.inl 0) := (e126 272 5 (by first | decide | omega)).trans k24
      refine gx_ld (i := 2) (d := 0) (v := .inl 0) rfl (fun _ => rfl) l1222 rfl rfl ?_
      refine ex_ret (r := (some (.inl 0), t126, n, 0)) rfl (fun _ => rfl) ?_
      have he9 : eaten w L σ = 0 := by unfold eaten; rw [hK9]; rfl
      refine ⟨_, rfl, t126, by rw [he9], g126, (fun c i h => (e126 c i (by first | decide | omega)).trans (e122 c i (by first | decide | omega))), (by rw [stp_0]; exact k126), (fun i hi => ?_), fun c hc => ?_⟩
      · rw [stp_pl (show i < 6 by omega)]
        exact (e126 9 i (by first | decide | omega)).trans (i122 i hi)
      · exact absurd hc (by first | decide | omega)
    · rw [if_neg (Nat.not_lt_zero i)]
      exact hpl i hi
  · obtain ⟨x7_0, x9_0, x11_0, x15_0, x13_0⟩ := hcr 0 (by first | decide | omega)
    refine en_u_ex (d := d + 3) rfl ?_
    show en_ex _ _ _ _ (0, [(0, gx_r 8), (1, gx_r 257)], [], t0, n, 0) _
    refine ex_go (S := (1, [(0, gx_r 8), (1, gx_r 257)], [.inl 0], t0, n, 0)) rfl (fun _ => rfl) rfl ?_
    refine ex_go (S := (2, [(2, .inl 0), (0, gx_r 8), (1, gx_r 257)], [], t0, n, 0)) rfl (fun _ => rfl) rfl ?_
    refine ex_go (S := (3, [(2, .inl 0), (0, gx_r 8), (1, gx_r 257)], [.inl 0], t0, n, 0)) rfl (fun _ => rfl) rfl ?_
    refine ex_go (S := (4, [(3, .inl 0), (2, .inl 0), (0, gx_r 8), (1, gx_r 257)], [], t0, n, 0)) rfl (fun _ => rfl) rfl ?_
    refine sc_pc8_257_0 d n (σ := σ) (e := 0) g0 hC hw hb (by first | decide | omega) (q0) (x7_0) (x11_0) x13_0 (by first | decide | omega) rfl rfl rfl rfl (fun cl121 t121 g121 e121 a121 b121 c121 l1210 l1211 l1212 l1213 => ?_)
    have k22 : ai_hv t121 8 0 = some (.inl (σ 0)) := (e121 8 0 (by first | decide | omega)).trans q0
    refine gx_ld (i := 3) (d := 0) (v := .inl 1) rfl (fun _ => rfl) l1213 rfl rfl ?_
    refine gx_ld (i := 1) (d := 2) (v := gx_r 257) rfl (fun _ => rfl) l1211 rfl rfl ?_
    refine gxo_ref (a := 257) (c := 272) rfl g121 rfl rfl rfl rfl rfl ?_
    have k23 := (e121 272 5 (by first | decide | omega)).trans (kK)
    rw [hK9] at k23
    refine gxo_get (a := 272) rfl g121 rfl rfl k23 rfl ?_
    refine ex_go (S := (91, cl121, [], t121, n, 0)) rfl (fun _ => rfl) rfl ?_
    refine ex_go (S := (92, cl121, [.inl 0], t121, n, 0)) rfl (fun _ => rfl) rfl ?_
    refine gx_sto (i := 3) (d := 0) rfl (fun _ => rfl) rfl rfl (fun l24 hl24 ml24 => ?_)
    have l24_0 : en_ld l24 0 = some (gx_r 8) := ml24 0 _ l1210 rfl
    have l24_1 : en_ld l24 1 = some (gx_r 257) := ml24 1 _ l1211 rfl
    have l24_2 : en_ld l24 2 = some (.inl (0 + meal w L σ 0)) := ml24 2 _ l1212 rfl
    refine sc_pt8_257 d n (tb := t121) (w := w) (L := L) (P := fun i => σ (1 + i)) (e := 0 + meal w L σ 0) (CW_keep hC (fun c i h => e121 c i (by first | decide | omega))) hw hb1 (fun cl125 t125 g125 e125 i125 l1250 l1251 l1252 => ?_) (w 0 2) 0 _ _ (by first | decide | omega) g121 (fun _ _ _ => rfl) (fun i hi => ?_) l24_0 l24_1 l24_2 hl24
    · have k26 : ai_hv t125 8 0 = some (.inl (σ 0)) := (e125 8 0 (by first | decide | omega)).trans k22
      have k27 : ai_hv t125 272 5 = some (.inl 1) := (e125 272 5 (by first | decide | omega)).trans k23
      refine gx_ld (i := 0) (d := 2) (v := gx_r 8) rfl (fun _ => rfl) l1250 rfl rfl ?_
      refine ex_go (S := (129, cl125, [gx_r 8, gx_r 8], t125, n, 0)) rfl (fun _ => rfl) rfl ?_
      refine gxo_get (a := 8) rfl g125 rfl rfl k26 rfl ?_
      refine ex_go (S := (133, cl125, [.inl 1, .inl (σ 0), gx_r 8], t125, n, 0)) rfl (fun _ => rfl) rfl ?_
      have hw28 : en_wrap ((σ 0) + 1) < 4294967296 := wrap_lt
      refine gs_iaddx rfl rfl ?_
      refine gxo_put (a := 8) rfl g125 rfl rfl rfl (gx_full (by first | decide | omega)) rfl (fun t129 g129 k129 e129 => ?_)
      have k30 : ai_hv t129 272 5 = some (.inl 1) := (e129 272 5 (by first | decide | omega)).trans k27
      refine gx_ld (i := 2) (d := 0) (v := .inl (0 + meal w L σ 0)) rfl (fun _ => rfl) l1252 rfl rfl ?_
      refine ex_ret (r := (some (.inl (0 + meal w L σ 0)), t129, n, 0)) rfl (fun _ => rfl) ?_
      have he9 : eaten w L σ = 0 + meal w L σ 0 := by unfold eaten; rw [hK9]; rw [if_pos (by decide), if_neg (by decide)]; omega
      refine ⟨_, rfl, t129, by rw [he9], g129, (fun c i h => (e129 c i (by first | decide | omega)).trans ((e125 c i (by first | decide | omega)).trans (e121 c i (by first | decide | omega)))), (by rw [stp_0]; exact k129), (fun i hi => ?_), fun c hc => ?_⟩
      · rw [stp_pl (show i < 6 by omega)]
        exact (e129 9 i (by first | decide | omega)).trans (i125 i hi)
      · rcases (show c = 0 by omega) with rfl
        · refine ⟨?_, ?_, ?_, ?_, ?_⟩
          · rw [stp_bi (by decide), if_pos (by first | decide | omega)]; exact (e129 10 0 (by first | decide | omega)).trans ((e125 10 0 (by first | decide | omega)).trans (b121))
          · rw [stp_mid (by decide) (by decide)]; exact (e129 11 0 (by first | decide | omega)).trans ((e125 11 0 (by first | decide | omega)).trans ((e121 11 0 (by first | decide | omega)).trans (x9_0)))
          · rw [stp_mid (by decide) (by decide)]; exact (e129 12 0 (by first | decide | omega)).trans ((e125 12 0 (by first | decide | omega)).trans ((e121 12 0 (by first | decide | omega)).trans (x11_0)))
          · rw [stp_ha (by decide), if_pos (by first | decide | omega)]; exact (e129 13 0 (by first | decide | omega)).trans ((e125 13 0 (by first | decide | omega)).trans (a121))
          · intro z
            rw [stp_mid (by decide) (by decide)] at z
            rw [stp_sl (by decide), if_pos (by first | decide | omega), if_pos z]
            exact (e129 14 0 (by first | decide | omega)).trans ((e125 14 0 (by first | decide | omega)).trans (c121 z))
    · rw [if_neg (Nat.not_lt_zero i)]
      exact (e121 9 i (by first | decide | omega)).trans (hpl i hi)
  · obtain ⟨x7_0, x9_0, x11_0, x15_0, x13_0⟩ := hcr 0 (by first | decide | omega)
    obtain ⟨x7_1, x9_1, x11_1, x15_1, x13_1⟩ := hcr 1 (by first | decide | omega)
    refine en_u_ex (d := d + 3) rfl ?_
    show en_ex _ _ _ _ (0, [(0, gx_r 8), (1, gx_r 257)], [], t0, n, 0) _
    refine ex_go (S := (1, [(0, gx_r 8), (1, gx_r 257)], [.inl 0], t0, n, 0)) rfl (fun _ => rfl) rfl ?_
    refine ex_go (S := (2, [(2, .inl 0), (0, gx_r 8), (1, gx_r 257)], [], t0, n, 0)) rfl (fun _ => rfl) rfl ?_
    refine ex_go (S := (3, [(2, .inl 0), (0, gx_r 8), (1, gx_r 257)], [.inl 0], t0, n, 0)) rfl (fun _ => rfl) rfl ?_
    refine ex_go (S := (4, [(3, .inl 0), (2, .inl 0), (0, gx_r 8), (1, gx_r 257)], [], t0, n, 0)) rfl (fun _ => rfl) rfl ?_
    refine sc_pc8_257_0 d n (σ := σ) (e := 0) g0 hC hw hb (by first | decide | omega) (q0) (x7_0) (x11_0) x13_0 (by first | decide | omega) rfl rfl rfl rfl (fun cl121 t121 g121 e121 a121 b121 c121 l1210 l1211 l1212 l1213 => ?_)
    have k22 : ai_hv t121 8 0 = some (.inl (σ 0)) := (e121 8 0 (by first | decide | omega)).trans q0
    refine sc_pc8_257_1 d n (σ := σ) (e := 0 + meal w L σ 0) g121 (CW_keep hC (fun c i h => e121 c i (by first | decide | omega))) hw hb (by first | decide | omega) ((e121 8 0 (by first | decide | omega)).trans (q0)) ((e121 10 1 (by first | decide | omega)).trans (x7_1)) ((e121 12 1 (by first | decide | omega)).trans (x11_1)) (fun z => (e121 14 1 (by first | decide | omega)).trans (x13_1 z)) (by first | decide | omega) l1210 l1211 l1212 l1213 (fun cl123 t123 g123 e123 a123 b123 c123 l1230 l1231 l1232 l1233 => ?_)
    have k24 : ai_hv t123 8 0 = some (.inl (σ 0)) := (e123 8 0 (by first | decide | omega)).trans k22
    refine gx_ld (i := 3) (d := 0) (v := .inl 2) rfl (fun _ => rfl) l1233 rfl rfl ?_
    refine gx_ld (i := 1) (d := 2) (v := gx_r 257) rfl (fun _ => rfl) l1231 rfl rfl ?_
    refine gxo_ref (a := 257) (c := 272) rfl g123 rfl rfl rfl rfl rfl ?_
    have k25 := (e123 272 5 (by first | decide | omega)).trans ((e121 272 5 (by first | decide | omega)).trans (kK))
    rw [hK9] at k25
    refine gxo_get (a := 272) rfl g123 rfl rfl k25 rfl ?_
    refine ex_go (S := (91, cl123, [], t123, n, 0)) rfl (fun _ => rfl) rfl ?_
    refine ex_go (S := (92, cl123, [.inl 0], t123, n, 0)) rfl (fun _ => rfl) rfl ?_
    refine gx_sto (i := 3) (d := 0) rfl (fun _ => rfl) rfl rfl (fun l26 hl26 ml26 => ?_)
    have l26_0 : en_ld l26 0 = some (gx_r 8) := ml26 0 _ l1230 rfl
    have l26_1 : en_ld l26 1 = some (gx_r 257) := ml26 1 _ l1231 rfl
    have l26_2 : en_ld l26 2 = some (.inl ((0 + meal w L σ 0) + meal w L σ 1)) := ml26 2 _ l1232 rfl
    refine sc_pt8_257 d n (tb := t123) (w := w) (L := L) (P := fun i => σ (1 + i)) (e := (0 + meal w L σ 0) + meal w L σ 1) (CW_keep hC (fun c i h => (e123 c i (by first | decide | omega)).trans (e121 c i (by first | decide | omega)))) hw hb1 (fun cl127 t127 g127 e127 i127 l1270 l1271 l1272 => ?_) (w 0 2) 0 _ _ (by first | decide | omega) g123 (fun _ _ _ => rfl) (fun i hi => ?_) l26_0 l26_1 l26_2 hl26
    · have k28 : ai_hv t127 8 0 = some (.inl (σ 0)) := (e127 8 0 (by first | decide | omega)).trans k24
      have k29 : ai_hv t127 272 5 = some (.inl 2) := (e127 272 5 (by first | decide | omega)).trans k25
      refine gx_ld (i := 0) (d := 2) (v := gx_r 8) rfl (fun _ => rfl) l1270 rfl rfl ?_
      refine ex_go (S := (129, cl127, [gx_r 8, gx_r 8], t127, n, 0)) rfl (fun _ => rfl) rfl ?_
      refine gxo_get (a := 8) rfl g127 rfl rfl k28 rfl ?_
      refine ex_go (S := (133, cl127, [.inl 1, .inl (σ 0), gx_r 8], t127, n, 0)) rfl (fun _ => rfl) rfl ?_
      have hw30 : en_wrap ((σ 0) + 1) < 4294967296 := wrap_lt
      refine gs_iaddx rfl rfl ?_
      refine gxo_put (a := 8) rfl g127 rfl rfl rfl (gx_full (by first | decide | omega)) rfl (fun t131 g131 k131 e131 => ?_)
      have k32 : ai_hv t131 272 5 = some (.inl 2) := (e131 272 5 (by first | decide | omega)).trans k29
      refine gx_ld (i := 2) (d := 0) (v := .inl ((0 + meal w L σ 0) + meal w L σ 1)) rfl (fun _ => rfl) l1272 rfl rfl ?_
      refine ex_ret (r := (some (.inl ((0 + meal w L σ 0) + meal w L σ 1)), t131, n, 0)) rfl (fun _ => rfl) ?_
      have he9 : eaten w L σ = (0 + meal w L σ 0) + meal w L σ 1 := by unfold eaten; rw [hK9]; rw [if_pos (by decide), if_pos (by decide)]; omega
      refine ⟨_, rfl, t131, by rw [he9], g131, (fun c i h => (e131 c i (by first | decide | omega)).trans ((e127 c i (by first | decide | omega)).trans ((e123 c i (by first | decide | omega)).trans (e121 c i (by first | decide | omega))))), (by rw [stp_0]; exact k131), (fun i hi => ?_), fun c hc => ?_⟩
      · rw [stp_pl (show i < 6 by omega)]
        exact (e131 9 i (by first | decide | omega)).trans (i127 i hi)
      · rcases (show c = 0 ∨ c = 1 by omega) with rfl | rfl
        · refine ⟨?_, ?_, ?_, ?_, ?_⟩
          · rw [stp_bi (by decide), if_pos (by first | decide | omega)]; exact (e131 10 0 (by first | decide | omega)).trans ((e127 10 0 (by first | decide | omega)).trans ((e123 10 0 (by first | decide | omega)).trans (b121)))
          · rw [stp_mid (by decide) (by decide)]; exact (e131 11 0 (by first | decide | omega)).trans ((e127 11 0 (by first | decide | omega)).trans ((e123 11 0 (by first | decide | omega)).trans ((e121 11 0 (by first | decide | omega)).trans (x9_0))))
          · rw [stp_mid (by decide) (by decide)]; exact (e131 12 0 (by first | decide | omega)).trans ((e127 12 0 (by first | decide | omega)).trans ((e123 12 0 (by first | decide | omega)).trans ((e121 12 0 (by first | decide | omega)).trans (x11_0))))
          · rw [stp_ha (by decide), if_pos (by first | decide | omega)]; exact (e131 13 0 (by first | decide | omega)).trans ((e127 13 0 (by first | decide | omega)).trans ((e123 13 0 (by first | decide | omega)).trans (a121)))
          · intro z
            rw [stp_mid (by decide) (by decide)] at z
            rw [stp_sl (by decide), if_pos (by first | decide | omega), if_pos z]
            exact (e131 14 0 (by first | decide | omega)).trans ((e127 14 0 (by first | decide | omega)).trans ((e123 14 0 (by first | decide | omega)).trans (c121 z)))
        · refine ⟨?_, ?_, ?_, ?_, ?_⟩
          · rw [stp_bi (by decide), if_pos (by first | decide | omega)]; exact (e131 10 1 (by first | decide | omega)).trans ((e127 10 1 (by first | decide | omega)).trans (b123))
          · rw [stp_mid (by decide) (by decide)]; exact (e131 11 1 (by first | decide | omega)).trans ((e127 11 1 (by first | decide | omega)).trans ((e123 11 1 (by first | decide | omega)).trans ((e121 11 1 (by first | decide | omega)).trans (x9_1))))
          · rw [stp_mid (by decide) (by decide)]; exact (e131 12 1 (by first | decide | omega)).trans ((e127 12 1 (by first | decide | omega)).trans ((e123 12 1 (by first | decide | omega)).trans ((e121 12 1 (by first | decide | omega)).trans (x11_1))))
          · rw [stp_ha (by decide), if_pos (by first | decide | omega)]; exact (e131 13 1 (by first | decide | omega)).trans ((e127 13 1 (by first | decide | omega)).trans (a123))
          · intro z
            rw [stp_mid (by decide) (by decide)] at z
            rw [stp_sl (by decide), if_pos (by first | decide | omega), if_pos z]
            exact (e131 14 1 (by first | decide | omega)).trans ((e127 14 1 (by first | decide | omega)).trans (c123 z))
    · rw [if_neg (Nat.not_lt_zero i)]
      exact ((e123 9 i (by first | decide | omega)).trans (e121 9 i (by first | decide | omega))).trans (hpl i hi)
theorem sc_app15_191 (d n : Nat) {t0 : en_H} {L : List Nat} {c me ti ou : Nat} (g0 : ai_HG ah_G t0) (hc : c ≤ 1) (km : ai_hv t0 209 c = some (.inl me)) (hm : me < 2147483648) (ko : ai_hv t0 19 c = some (.inl ou)) (ho : ou ≤ 1) (hti : ti < 4294967296) (kL : CLs t0 230 L) (hs : L.length ≤ 1000) (hv : ∀ z, z ∈ L → vo 7 z) (hr : hrun 25 L 0 = some 1) : ∃ r, en_u (d + 3) 140 [gx_r 15, gx_r 191, .inl c, .inl ti] t0 n = some r ∧ ∃ t', r = (some (.inl (eat L me ti ou)), t', n, 0) ∧ ai_HG ah_G t' ∧ (∀ c i, c ≠ 231 → ai_hv t' c i = ai_hv t0 c i) := by
  have hc' : cco t0 230 0 L := cco_of (fun j hj => by rw [Nat.zero_add]; exact kL.2 j hj)
  rcases (show ou = 0 ∨ ou = 1 by omega) with rfl | rfl
  · refine en_u_ex (d := d + 2) rfl ?_
    show en_ex _ _ _ _ (0, [(0, gx_r 15), (1, gx_r 191), (2, .inl c), (3, .inl ti)], [], t0, n, 0) _
    refine ex_go (S := (1, [(0, gx_r 15), (1, gx_r 191), (2, .inl c), (3, .inl ti)], [gx_r 191], t0, n, 0)) rfl (fun _ => rfl) rfl ?_
    refine gxo_ref (a := 191) (c := 230) rfl g0 rfl rfl rfl rfl rfl ?_
    refine ex_go (S := (6, [(0, gx_r 15), (1, gx_r 191), (2, .inl c), (3, .inl ti)], [.inl 99, gx_r 230], t0, n, 0)) rfl (fun _ => rfl) rfl ?_
    refine ex_go (S := (7, [(0, gx_r 15), (1, gx_r 191), (2, .inl c), (3, .inl ti)], [gx_r 191, .inl 99, gx_r 230], t0, n, 0)) rfl (fun _ => rfl) rfl ?_
    refine gxo_ref (a := 191) (c := 206) rfl g0 rfl rfl rfl rfl rfl ?_
    refine gxo_ref (a := 206) (c := 209) rfl g0 rfl rfl rfl rfl rfl ?_
    refine ex_go (S := (14, [(0, gx_r 15), (1, gx_r 191), (2, .inl c), (3, .inl ti)], [.inl c, gx_r 209, .inl 99, gx_r 230], t0, n, 0)) rfl (fun _ => rfl) rfl ?_
    refine gx_ag (v := .inl me) (cb := fun c => Nat.beq c 0) rfl (fun _ => rfl) g0 rfl rfl km (by first | decide | omega) rfl ?_
    refine ex_go (S := (16, [(0, gx_r 15), (1, gx_r 191), (2, .inl c), (3, .inl ti)], [.inl ti, .inl me, .inl 99, gx_r 230], t0, n, 0)) rfl (fun _ => rfl) rfl ?_
    refine ex_go (S := (17, [(0, gx_r 15), (1, gx_r 191), (2, .inl c), (3, .inl ti)], [gx_r 15, .inl ti, .inl me, .inl 99, gx_r 230], t0, n, 0)) rfl (fun _ => rfl) rfl ?_
    refine gxo_ref (a := 15) (c := 19) rfl g0 rfl rfl rfl rfl rfl ?_
    refine ex_go (S := (21, [(0, gx_r 15), (1, gx_r 191), (2, .inl c), (3, .inl ti)], [.inl c, gx_r 19, .inl ti, .inl me, .inl 99, gx_r 230], t0, n, 0)) rfl (fun _ => rfl) rfl ?_
    refine gx_ag (v := .inl 0) (cb := fun c => Nat.beq c 2 || Nat.beq c 1) rfl (fun _ => rfl) g0 rfl rfl ko (by first | decide | omega) rfl ?_
    refine ex_go (S := (29, [(0, gx_r 15), (1, gx_r 191), (2, .inl c), (3, .inl ti)], [.inl ti, .inl me, .inl 99, gx_r 230], t0, n, 0)) rfl (fun _ => rfl) rfl ?_
    refine ex_go (S := (30, [(0, gx_r 15), (1, gx_r 191), (2, .inl c), (3, .inl ti)], [.inl 0, .inl ti, .inl me, .inl 99, gx_r 230], t0, n, 0)) rfl (fun _ => rfl) rfl ?_
    obtain ⟨_, r121, v121, t121, rfl, hv121, -, g121, e121⟩ := pc_value230 d n (mo := 99) (me := me) (ti := ti) (ou := 0) (L := L) g0 (by decide) (by first | decide | omega) hti (by decide) kL.1 hs hc' (fun z hz => ⟨_, hv z hz⟩) hr
    rw [eat_of hv121] at r121
    refine gx_callo (a := 230) rfl rfl g0 rfl rfl rfl r121 rfl ?_
    have k22 : ai_hv t121 209 c = some (.inl me) := (e121 209 c (by first | decide | omega)).trans km
    have k23 : ai_hv t121 19 c = some (.inl 0) := (e121 19 c (by first | decide | omega)).trans ko
    show en_ex _ _ _ _ (33, [(0, gx_r 15), (1, gx_r 191), (2, .inl c), (3, .inl ti)], [.inl (eat L me ti 0)], t121, n, 0) _
    refine ex_ret (r := (some (.inl (eat L me ti 0)), t121, n, 0)) rfl (fun _ => rfl) ?_
    exact ⟨_, rfl, t121, rfl, g121, e121⟩
  · refine en_u_ex (d := d + 2) rfl ?_
    show en_ex _ _ _ _ (0, [(0, gx_r 15), (1, gx_r 191), (2, .inl c), (3, .inl ti)], [], t0, n, 0) _
    refine ex_go (S := (1, [(0, gx_r 15), (1, gx_r 191), (2, .inl c), (3, .inl ti)], [gx_r 191], t0, n, 0)) rfl (fun _ => rfl) rfl ?_
    refine gxo_ref (a := 191) (c := 230) rfl g0 rfl rfl rfl rfl rfl ?_
    refine ex_go (S := (6, [(0, gx_r 15), (1, gx_r 191), (2, .inl c), (3, .inl ti)], [.inl 99, gx_r 230], t0, n, 0)) rfl (fun _ => rfl) rfl ?_
    refine ex_go (S := (7, [(0, gx_r 15), (1, gx_r 191), (2, .inl c), (3, .inl ti)], [gx_r 191, .inl 99, gx_r 230], t0, n, 0)) rfl (fun _ => rfl) rfl ?_
    refine gxo_ref (a := 191) (c := 206) rfl g0 rfl rfl rfl rfl rfl ?_
    refine gxo_ref (a := 206) (c := 209) rfl g0 rfl rfl rfl rfl rfl ?_
    refine ex_go (S := (14, [(0, gx_r 15), (1, gx_r 191), (2, .inl c), (3, .inl ti)], [.inl c, gx_r 209, .inl 99, gx_r 230], t0, n, 0)) rfl (fun _ => rfl) rfl ?_
    refine gx_ag (v := .inl me) (cb := fun c => Nat.beq c 0) rfl (fun _ => rfl) g0 rfl rfl km (by first | decide | omega) rfl ?_
    refine ex_go (S := (16, [(0, gx_r 15), (1, gx_r 191), (2, .inl c), (3, .inl ti)], [.inl ti, .inl me, .inl 99, gx_r 230], t0, n, 0)) rfl (fun _ => rfl) rfl ?_
    refine ex_go (S := (17, [(0, gx_r 15), (1, gx_r 191), (2, .inl c), (3, .inl ti)], [gx_r 15, .inl ti, .inl me, .inl 99, gx_r 230], t0, n, 0)) rfl (fun _ => rfl) rfl ?_
    refine gxo_ref (a := 15) (c := 19) rfl g0 rfl rfl rfl rfl rfl ?_
    refine ex_go (S := (21, [(0, gx_r 15), (1, gx_r 191), (2, .inl c), (3, .inl ti)], [.inl c, gx_r 19, .inl ti, .inl me, .inl 99, gx_r 230], t0, n, 0)) rfl (fun _ => rfl) rfl ?_
    refine gx_ag (v := .inl 1) (cb := fun c => Nat.beq c 2 || Nat.beq c 1) rfl (fun _ => rfl) g0 rfl rfl ko (by first | decide | omega) rfl ?_
    refine ex_go (S := (25, [(0, gx_r 15), (1, gx_r 191), (2, .inl c), (3, .inl ti)], [.inl ti, .inl me, .inl 99, gx_r 230], t0, n, 0)) rfl (fun _ => rfl) rfl ?_
    refine ex_go (S := (26, [(0, gx_r 15), (1, gx_r 191), (2, .inl c), (3, .inl ti)], [.inl 1, .inl ti, .inl me, .inl 99, gx_r 230], t0, n, 0)) rfl (fun _ => rfl) rfl ?_
    refine ex_go (S := (30, [(0, gx_r 15), (1, gx_r 191), (2, .inl c), (3, .inl ti)], [.inl 1, .inl ti, .inl me, .inl 99, gx_r 230], t0, n, 0)) rfl (fun _ => rfl) rfl ?_
    obtain ⟨_, r121, v121, t121, rfl, hv121, -, g121, e121⟩ := pc_value230 d n (mo := 99) (me := me) (ti := ti) (ou := 1) (L := L) g0 (by decide) (by first | decide | omega) hti (by decide) kL.1 hs hc' (fun z hz => ⟨_, hv z hz⟩) hr
    rw [eat_of hv121] at r121
    refine gx_callo (a := 230) rfl rfl g0 rfl rfl rfl r121 rfl ?_
    have k22 : ai_hv t121 209 c = some (.inl me) := (e121 209 c (by first | decide | omega)).trans km
    have k23 : ai_hv t121 19 c = some (.inl 1) := (e121 19 c (by first | decide | omega)).trans ko
    show en_ex _ _ _ _ (33, [(0, gx_r 15), (1, gx_r 191), (2, .inl c), (3, .inl ti)], [.inl (eat L me ti 1)], t121, n, 0) _
    refine ex_ret (r := (some (.inl (eat L me ti 1)), t121, n, 0)) rfl (fun _ => rfl) ?_
    exact ⟨_, rfl, t121, rfl, g121, e121⟩
theorem sc_pc15_191_0 (d n : Nat) {t0 : en_H} {w : Nat → Nat → Nat} {L : List Nat} {σ : Nat → Nat} {e : Nat} {cl : en_L} {Q : en_O → Prop} (g0 : ai_HG ah_G t0) (hC : CW t0 191 w L) (hw : WS w) (hb : sbd σ) (hc : 0 < w 0 4) (k0 : ai_hv t0 15 0 = some (.inl (σ 0))) (k7 : ai_hv t0 17 0 = some (.inl (σ 7))) (k11 : ai_hv t0 19 0 = some (.inl (σ 11))) (k13 : σ 11 = 1 → ai_hv t0 21 0 = some (.inl (σ 13))) (he : e ≤ 1000) (l0 : en_ld cl 0 = some (gx_r 15)) (l1 : en_ld cl 1 = some (gx_r 191)) (l2 : en_ld cl 2 = some (.inl e)) (l3 : en_ld cl 3 = some (.inl 0)) (hQ : ∀ cl' t', ai_HG ah_G t' → (∀ c i, ¬ (c = 231 ∨ ((c = 17 ∨ c = 20 ∨ c = 21) ∧ i = 0)) → ai_hv t' c i = ai_hv t0 c i) → ai_hv t' 20 0 = some (.inl 0) → ai_hv t' 17 0 = some (.inl (σ 7 - meal w L σ 0)) → (σ 11 = 1 → ai_hv t' 21 0 = some (.inl (fto w (σ 13)))) → en_ld cl' 0 = some (gx_r 15) → en_ld cl' 1 = some (gx_r 191) → en_ld cl' 2 = some (.inl (e + meal w L σ 0)) → en_ld cl' 3 = some (.inl 1) → en_ex none (en_u (d + 3)) (en_code 164) (fun _ => false) (4, cl', [], t', n, 0) Q) : en_ex none (en_u (d + 3)) (en_code 164) (fun _ => false) (4, cl, [], t0, n, 0) Q := by
  obtain ⟨⟨-, -, -, -, -, kK⟩, hnx, hcr, -, -, kL, hs, hv, hr⟩ := hC
  obtain ⟨hb1, ⟨hb7, hb8⟩, ⟨hb11, hb12⟩, ⟨hb13, hb14⟩, ⟨hb15, hb16⟩, hb0, -, -⟩ := hb
  obtain ⟨-, km, -⟩ := hcr 0 hc
  obtain ⟨-, hm, -⟩ := hw.2.1 0 hc
  have hea := eat_le (L := L) (me := w 2 0) (ti := σ 0) (ou := σ 11)
  have hml : meal w L σ 0 = min (eat L (w 2 0) (σ 0) (σ 11)) (σ 7) := rfl
  have hK := hw.1.2.2.2.2.1
  have hfl := fto_lt (q := σ 13) hw (by first | decide | omega)
  refine gx_ld (i := 3) (d := 0) (v := .inl 0) rfl (fun _ => rfl) l3 rfl rfl ?_
  refine gx_ld (i := 1) (d := 2) (v := gx_r 191) rfl (fun _ => rfl) l1 rfl rfl ?_
  refine gxo_ref (a := 191) (c := 206) rfl g0 rfl rfl rfl rfl rfl ?_
  refine gxo_get (a := 206) rfl g0 rfl rfl kK rfl ?_
  refine gx_2f (c := .ge) rfl (by first | decide | omega) (by first | decide | omega) (show ¬ (w 0 4 ≤ 0) from by omega) rfl ?_
  refine gx_ld (i := 0) (d := 2) (v := gx_r 15) rfl (fun _ => rfl) l0 rfl rfl ?_
  refine gxo_ref (a := 15) (c := 20) rfl g0 rfl rfl rfl rfl rfl ?_
  refine gx_ld (i := 3) (d := 0) (v := .inl 0) rfl (fun _ => rfl) l3 rfl rfl ?_
  refine ex_go (S := (21, cl, [.inl 0, .inl 0, gx_r 20], t0, n, 0)) rfl (fun _ => rfl) rfl ?_
  refine gx_apv (d := 2) rfl (fun _ => rfl) g0 rfl rfl rfl (show 0 < 2 from by omega) rfl (ai_in_h (by first | decide | omega) (by first | decide | omega) (by first | decide | omega)) rfl (fun t121 g121 k121 e121 => ?_)
  have k22 : ai_hv t121 15 0 = some (.inl (σ 0)) := (e121 15 0 (by first | decide | omega)).trans k0
  have k23 : ai_hv t121 17 0 = some (.inl (σ 7)) := (e121 17 0 (by first | decide | omega)).trans k7
  have k24 : ai_hv t121 19 0 = some (.inl (σ 11)) := (e121 19 0 (by first | decide | omega)).trans k11
  have k25 : ai_hv t121 206 5 = some (.inl (w 0 4)) := (e121 206 5 (by first | decide | omega)).trans kK
  refine gx_ld (i := 0) (d := 2) (v := gx_r 15) rfl (fun _ => rfl) l0 rfl rfl ?_
  refine gxo_ref (a := 15) (c := 17) rfl g121 rfl rfl rfl rfl rfl ?_
  refine gx_ld (i := 3) (d := 0) (v := .inl 0) rfl (fun _ => rfl) l3 rfl rfl ?_
  refine gx_ag (v := .inl (σ 7)) (cb := fun c => Nat.beq c 0) rfl (fun _ => rfl) g121 rfl rfl k23 (by first | decide | omega) rfl ?_
  refine gx_ld (i := 0) (d := 2) (v := gx_r 15) rfl (fun _ => rfl) l0 rfl rfl ?_
  refine gx_ld (i := 1) (d := 2) (v := gx_r 191) rfl (fun _ => rfl) l1 rfl rfl ?_
  refine gx_ld (i := 3) (d := 0) (v := .inl 0) rfl (fun _ => rfl) l3 rfl rfl ?_
  refine gx_ld (i := 0) (d := 2) (v := gx_r 15) rfl (fun _ => rfl) l0 rfl rfl ?_
  refine gxo_get (a := 15) rfl g121 rfl rfl k22 rfl ?_
  obtain ⟨_, r126, t126, rfl, g126, e126⟩ := sc_app15_191 d n (L := L) (c := 0) (me := w 2 0) (ti := σ 0) (ou := σ 11) g121 (by decide) ((e121 209 0 (by first | decide | omega)).trans (km)) (by first | decide | omega) ((e121 19 0 (by first | decide | omega)).trans (k11)) (by first | decide | omega) hb0 (CLs_keep kL (e121 230 2 (by first | decide | omega)) (fun j => e121 232 j (by first | decide | omega))) hs hv hr
  refine gx_callo (a := 15) rfl rfl g121 rfl rfl rfl r126 rfl ?_
  have k27 : ai_hv t126 15 0 = some (.inl (σ 0)) := (e126 15 0 (by first | decide | omega)).trans k22
  have k28 : ai_hv t126 17 0 = some (.inl (σ 7)) := (e126 17 0 (by first | decide | omega)).trans k23
  have k29 : ai_hv t126 19 0 = some (.inl (σ 11)) := (e126 19 0 (by first | decide | omega)).trans k24
  have k30 : ai_hv t126 206 5 = some (.inl (w 0 4)) := (e126 206 5 (by first | decide | omega)).trans k25
  have k31 : ai_hv t126 20 0 = some (.inl 0) := (e126 20 0 (by first | decide | omega)).trans k121
  show en_ex _ _ _ _ (38, cl, [.inl (eat L (w 2 0) (σ 0) (σ 11)), .inl (σ 7)], t126, n, 0) _
  refine gx_inn rfl rfl rfl (zk_min (by first | decide | omega) (by first | decide | omega)) rfl rfl ?_
  refine gx_sto (i := 4) (d := 0) rfl (fun _ => rfl) rfl rfl (fun l32 hl32 ml32 => ?_)
  have l32_0 : en_ld l32 0 = some (gx_r 15) := ml32 0 _ l0 rfl
  have l32_1 : en_ld l32 1 = some (gx_r 191) := ml32 1 _ l1 rfl
  have l32_2 : en_ld l32 2 = some (.inl e) := ml32 2 _ l2 rfl
  have l32_3 : en_ld l32 3 = some (.inl 0) := ml32 3 _ l3 rfl
  refine gx_ld (i := 0) (d := 2) (v := gx_r 15) rfl (fun _ => rfl) l32_0 rfl rfl ?_
  refine gxo_ref (a := 15) (c := 17) rfl g126 rfl rfl rfl rfl rfl ?_
  refine gx_ld (i := 3) (d := 0) (v := .inl 0) rfl (fun _ => rfl) l32_3 rfl rfl ?_
  refine ex_go (S := (49, l32, [.inl 0, gx_r 17, .inl 0, gx_r 17], t126, n, 0)) rfl (fun _ => rfl) rfl ?_
  refine gx_ag (v := .inl (σ 7)) (cb := fun c => Nat.beq c 0) rfl (fun _ => rfl) g126 rfl rfl k28 (by first | decide | omega) rfl ?_
  refine gx_ld (i := 4) (d := 0) (v := .inl (min (σ 7) (eat L (w 2 0) (σ 0) (σ 11)))) rfl (fun _ => rfl) hl32 rfl rfl ?_
  refine gx_isub rfl (by first | decide | omega) (by first | decide | omega) rfl ?_
  refine gx_ap rfl (fun _ => rfl) g126 rfl rfl rfl (show 0 < 2 from by omega) rfl (gx_full (by first | decide | omega)) rfl (fun t133 g133 k133 e133 => ?_)
  have k34 : ai_hv t133 15 0 = some (.inl (σ 0)) := (e133 15 0 (by first | decide | omega)).trans k27
  have k35 : ai_hv t133 19 0 = some (.inl (σ 11)) := (e133 19 0 (by first | decide | omega)).trans k29
  have k36 : ai_hv t133 206 5 = some (.inl (w 0 4)) := (e133 206 5 (by first | decide | omega)).trans k30
  have k37 : ai_hv t133 20 0 = some (.inl 0) := (e133 20 0 (by first | decide | omega)).trans k31
  refine gx_ld (i := 2) (d := 0) (v := .inl e) rfl (fun _ => rfl) l32_2 rfl rfl ?_
  refine gx_ld (i := 4) (d := 0) (v := .inl (min (σ 7) (eat L (w 2 0) (σ 0) (σ 11)))) rfl (fun _ => rfl) hl32 rfl rfl ?_
  refine ex_iadd rfl (by first | decide | omega) rfl ?_
  refine gx_sto (i := 2) (d := 0) rfl (fun _ => rfl) rfl rfl (fun l38 hl38 ml38 => ?_)
  have l38_0 : en_ld l38 0 = some (gx_r 15) := ml38 0 _ l32_0 rfl
  have l38_1 : en_ld l38 1 = some (gx_r 191) := ml38 1 _ l32_1 rfl
  have l38_3 : en_ld l38 3 = some (.inl 0) := ml38 3 _ l32_3 rfl
  have l38_4 : en_ld l38 4 = some (.inl (min (σ 7) (eat L (w 2 0) (σ 0) (σ 11)))) := ml38 4 _ hl32 rfl
  refine gx_ld (i := 0) (d := 2) (v := gx_r 15) rfl (fun _ => rfl) l38_0 rfl rfl ?_
  refine gxo_ref (a := 15) (c := 19) rfl g133 rfl rfl rfl rfl rfl ?_
  refine gx_ld (i := 3) (d := 0) (v := .inl 0) rfl (fun _ => rfl) l38_3 rfl rfl ?_
  refine gx_ag (v := .inl (σ 11)) (cb := fun c => Nat.beq c 2 || Nat.beq c 1) rfl (fun _ => rfl) g133 rfl rfl k35 (by first | decide | omega) rfl ?_
  by_cases hc39 : σ 11 = 0
  · refine gx_1t (c := .eq) rfl (by first | decide | omega) hc39 rfl ?_
    refine gx_incS (i := 3) (a := 0) (x := 1) rfl (fun _ => rfl) l38_3 (by first | decide | omega) rfl (fun l40 hl40 ml40 => ?_)
    have l40_0 : en_ld l40 0 = some (gx_r 15) := ml40 0 _ l38_0 rfl
    have l40_1 : en_ld l40 1 = some (gx_r 191) := ml40 1 _ l38_1 rfl
    have l40_4 : en_ld l40 4 = some (.inl (min (σ 7) (eat L (w 2 0) (σ 0) (σ 11)))) := ml40 4 _ l38_4 rfl
    have l40_2 : en_ld l40 2 = some (.inl (e + (min (σ 7) (eat L (w 2 0) (σ 0) (σ 11))))) := ml40 2 _ hl38 rfl
    refine ex_go (S := (4, l40, [], t133, n, 0)) rfl (fun _ => rfl) rfl ?_
    have hm9 : meal w L σ 0 = min (σ 7) (eat L (w 2 0) (σ 0) (σ 11)) := by omega
    exact hQ _ t133 g133 (fun c i h => (e133 c i (by first | decide | omega)).trans ((e126 c i (by first | decide | omega)).trans (e121 c i (by first | decide | omega)))) k37 (by rw [hm9]; exact k133) (fun z => absurd z (by first | decide | omega)) l40_0 l40_1 (by rw [hm9]; exact l40_2) hl40
  · refine gx_1f (c := .eq) rfl (by first | decide | omega) hc39 rfl ?_
    refine gx_ld (i := 0) (d := 2) (v := gx_r 15) rfl (fun _ => rfl) l38_0 rfl rfl ?_
    refine gxo_ref (a := 15) (c := 21) rfl g133 rfl rfl rfl rfl rfl ?_
    refine gx_ld (i := 3) (d := 0) (v := .inl 0) rfl (fun _ => rfl) l38_3 rfl rfl ?_
    refine gx_ld (i := 1) (d := 2) (v := gx_r 191) rfl (fun _ => rfl) l38_1 rfl rfl ?_
    refine gxo_ref (a := 191) (c := 193) rfl g133 rfl rfl rfl rfl rfl ?_
    refine gx_ld (i := 0) (d := 2) (v := gx_r 15) rfl (fun _ => rfl) l38_0 rfl rfl ?_
    refine gxo_ref (a := 15) (c := 21) rfl g133 rfl rfl rfl rfl rfl ?_
    refine gx_ld (i := 3) (d := 0) (v := .inl 0) rfl (fun _ => rfl) l38_3 rfl rfl ?_
    have k41 := ((e133 21 0 (by first | decide | omega)).trans ((e126 21 0 (by first | decide | omega)).trans (e121 21 0 (by first | decide | omega)))).trans (k13 (by first | decide | omega))
    refine gx_ag (v := .inl (σ 13)) (cb := fun c => Nat.beq c 0) rfl (fun _ => rfl) g133 rfl rfl k41 (by first | decide | omega) rfl ?_
    have k42 := ((e133 193 (σ 13) (by first | decide | omega)).trans ((e126 193 (σ 13) (by first | decide | omega)).trans (e121 193 (σ 13) (by first | decide | omega)))).trans (hnx (σ 13) (by first | decide | omega)).2
    refine gx_ag (v := .inl (fto w (σ 13))) (cb := fun c => Nat.beq c 0) rfl (fun _ => rfl) g133 rfl rfl k42 (by first | decide | omega) rfl ?_
    refine gx_ap rfl (fun _ => rfl) g133 rfl rfl rfl (show 0 < 2 from by omega) rfl (ai_in_h (by first | decide | omega) (by first | decide | omega) (by first | decide | omega)) rfl (fun t143 g143 k143 e143 => ?_)
    have k44 : ai_hv t143 15 0 = some (.inl (σ 0)) := (e143 15 0 (by first | decide | omega)).trans k34
    have k45 : ai_hv t143 19 0 = some (.inl (σ 11)) := (e143 19 0 (by first | decide | omega)).trans k35
    have k46 : ai_hv t143 206 5 = some (.inl (w 0 4)) := (e143 206 5 (by first | decide | omega)).trans k36
    have k47 : ai_hv t143 20 0 = some (.inl 0) := (e143 20 0 (by first | decide | omega)).trans k37
    have k48 : ai_hv t143 17 0 = some (.inl ((σ 7) - (min (σ 7) (eat L (w 2 0) (σ 0) (σ 11))))) := (e143 17 0 (by first | decide | omega)).trans k133
    have k49 : ai_hv t143 193 (σ 13) = some (.inl (fto w (σ 13))) := (e143 193 (σ 13) (by first | decide | omega)).trans k42
    refine gx_incS (i := 3) (a := 0) (x := 1) rfl (fun _ => rfl) l38_3 (by first | decide | omega) rfl (fun l50 hl50 ml50 => ?_)
    have l50_0 : en_ld l50 0 = some (gx_r 15) := ml50 0 _ l38_0 rfl
    have l50_1 : en_ld l50 1 = some (gx_r 191) := ml50 1 _ l38_1 rfl
    have l50_4 : en_ld l50 4 = some (.inl (min (σ 7) (eat L (w 2 0) (σ 0) (σ 11)))) := ml50 4 _ l38_4 rfl
    have l50_2 : en_ld l50 2 = some (.inl (e + (min (σ 7) (eat L (w 2 0) (σ 0) (σ 11))))) := ml50 2 _ hl38 rfl
    refine ex_go (S := (4, l50, [], t143, n, 0)) rfl (fun _ => rfl) rfl ?_
    have hm9 : meal w L σ 0 = min (σ 7) (eat L (w 2 0) (σ 0) (σ 11)) := by omega
    exact hQ _ t143 g143 (fun c i h => (e143 c i (by first | decide | omega)).trans ((e133 c i (by first | decide | omega)).trans ((e126 c i (by first | decide | omega)).trans (e121 c i (by first | decide | omega))))) k47 (by rw [hm9]; exact k48) (fun _ => k143) l50_0 l50_1 (by rw [hm9]; exact l50_2) hl50
theorem sc_pc15_191_1 (d n : Nat) {t0 : en_H} {w : Nat → Nat → Nat} {L : List Nat} {σ : Nat → Nat} {e : Nat} {cl : en_L} {Q : en_O → Prop} (g0 : ai_HG ah_G t0) (hC : CW t0 191 w L) (hw : WS w) (hb : sbd σ) (hc : 1 < w 0 4) (k0 : ai_hv t0 15 0 = some (.inl (σ 0))) (k7 : ai_hv t0 17 1 = some (.inl (σ 8))) (k11 : ai_hv t0 19 1 = some (.inl (σ 12))) (k13 : σ 12 = 1 → ai_hv t0 21 1 = some (.inl (σ 14))) (he : e ≤ 1000) (l0 : en_ld cl 0 = some (gx_r 15)) (l1 : en_ld cl 1 = some (gx_r 191)) (l2 : en_ld cl 2 = some (.inl e)) (l3 : en_ld cl 3 = some (.inl 1)) (hQ : ∀ cl' t', ai_HG ah_G t' → (∀ c i, ¬ (c = 231 ∨ ((c = 17 ∨ c = 20 ∨ c = 21) ∧ i = 1)) → ai_hv t' c i = ai_hv t0 c i) → ai_hv t' 20 1 = some (.inl 0) → ai_hv t' 17 1 = some (.inl (σ 8 - meal w L σ 1)) → (σ 12 = 1 → ai_hv t' 21 1 = some (.inl (fto w (σ 14)))) → en_ld cl' 0 = some (gx_r 15) → en_ld cl' 1 = some (gx_r 191) → en_ld cl' 2 = some (.inl (e + meal w L σ 1)) → en_ld cl' 3 = some (.inl 2) → en_ex none (en_u (d + 3)) (en_code 164) (fun _ => false) (4, cl', [], t', n, 0) Q) : en_ex none (en_u (d + 3)) (en_code 164) (fun _ => false) (4, cl, [], t0, n, 0) Q := by
  obtain ⟨⟨-, -, -, -, -, kK⟩, hnx, hcr, -, -, kL, hs, hv, hr⟩ := hC
  obtain ⟨hb1, ⟨hb7, hb8⟩, ⟨hb11, hb12⟩, ⟨hb13, hb14⟩, ⟨hb15, hb16⟩, hb0, -, -⟩ := hb
  obtain ⟨-, km, -⟩ := hcr 1 hc
  obtain ⟨-, hm, -⟩ := hw.2.1 1 hc
  have hea := eat_le (L := L) (me := w 2 1) (ti := σ 0) (ou := σ 12)
  have hml : meal w L σ 1 = min (eat L (w 2 1) (σ 0) (σ 12)) (σ 8) := rfl
  have hK := hw.1.2.2.2.2.1
  have hfl := fto_lt (q := σ 14) hw (by first | decide | omega)
  refine gx_ld (i := 3) (d := 0) (v := .inl 1) rfl (fun _ => rfl) l3 rfl rfl ?_
  refine gx_ld (i := 1) (d := 2) (v := gx_r 191) rfl (fun _ => rfl) l1 rfl rfl ?_
  refine gxo_ref (a := 191) (c := 206) rfl g0 rfl rfl rfl rfl rfl ?_
  refine gxo_get (a := 206) rfl g0 rfl rfl kK rfl ?_
  refine gx_2f (c := .ge) rfl (by first | decide | omega) (by first | decide | omega) (show ¬ (w 0 4 ≤ 1) from by omega) rfl ?_
  refine gx_ld (i := 0) (d := 2) (v := gx_r 15) rfl (fun _ => rfl) l0 rfl rfl ?_
  refine gxo_ref (a := 15) (c := 20) rfl g0 rfl rfl rfl rfl rfl ?_
  refine gx_ld (i := 3) (d := 0) (v := .inl 1) rfl (fun _ => rfl) l3 rfl rfl ?_
  refine ex_go (S := (21, cl, [.inl 0, .inl 1, gx_r 20], t0, n, 0)) rfl (fun _ => rfl) rfl ?_
  refine gx_apv (d := 2) rfl (fun _ => rfl) g0 rfl rfl rfl (show 1 < 2 from by omega) rfl (ai_in_h (by first | decide | omega) (by first | decide | omega) (by first | decide | omega)) rfl (fun t121 g121 k121 e121 => ?_)
  have k22 : ai_hv t121 15 0 = some (.inl (σ 0)) := (e121 15 0 (by first | decide | omega)).trans k0
  have k23 : ai_hv t121 17 1 = some (.inl (σ 8)) := (e121 17 1 (by first | decide | omega)).trans k7
  have k24 : ai_hv t121 19 1 = some (.inl (σ 12)) := (e121 19 1 (by first | decide | omega)).trans k11
  have k25 : ai_hv t121 206 5 = some (.inl (w 0 4)) := (e121 206 5 (by first | decide | omega)).trans kK
  refine gx_ld (i := 0) (d := 2) (v := gx_r 15) rfl (fun _ => rfl) l0 rfl rfl ?_
  refine gxo_ref (a := 15) (c := 17) rfl g121 rfl rfl rfl rfl rfl ?_
  refine gx_ld (i := 3) (d := 0) (v := .inl 1) rfl (fun _ => rfl) l3 rfl rfl ?_
  refine gx_ag (v := .inl (σ 8)) (cb := fun c => Nat.beq c 0) rfl (fun _ => rfl) g121 rfl rfl k23 (by first | decide | omega) rfl ?_
  refine gx_ld (i := 0) (d := 2) (v := gx_r 15) rfl (fun _ => rfl) l0 rfl rfl ?_
  refine gx_ld (i := 1) (d := 2) (v := gx_r 191) rfl (fun _ => rfl) l1 rfl rfl ?_
  refine gx_ld (i := 3) (d := 0) (v := .inl 1) rfl (fun _ => rfl) l3 rfl rfl ?_
  refine gx_ld (i := 0) (d := 2) (v := gx_r 15) rfl (fun _ => rfl) l0 rfl rfl ?_
  refine gxo_get (a := 15) rfl g121 rfl rfl k22 rfl ?_
  obtain ⟨_, r126, t126, rfl, g126, e126⟩ := sc_app15_191 d n (L := L) (c := 1) (me := w 2 1) (ti := σ 0) (ou := σ 12) g121 (by decide) ((e121 209 1 (by first | decide | omega)).trans (km)) (by first | decide | omega) ((e121 19 1 (by first | decide | omega)).trans (k11)) (by first | decide | omega) hb0 (CLs_keep kL (e121 230 2 (by first | decide | omega)) (fun j => e121 232 j (by first | decide | omega))) hs hv hr
  refine gx_callo (a := 15) rfl rfl g121 rfl rfl rfl r126 rfl ?_
  have k27 : ai_hv t126 15 0 = some (.inl (σ 0)) := (e126 15 0 (by first | decide | omega)).trans k22
  have k28 : ai_hv t126 17 1 = some (.inl (σ 8)) := (e126 17 1 (by first | decide | omega)).trans k23
  have k29 : ai_hv t126 19 1 = some (.inl (σ 12)) := (e126 19 1 (by first | decide | omega)).trans k24
  have k30 : ai_hv t126 206 5 = some (.inl (w 0 4)) := (e126 206 5 (by first | decide | omega)).trans k25
  have k31 : ai_hv t126 20 1 = some (.inl 0) := (e126 20 1 (by first | decide | omega)).trans k121
  show en_ex _ _ _ _ (38, cl, [.inl (eat L (w 2 1) (σ 0) (σ 12)), .inl (σ 8)], t126, n, 0) _
  refine gx_inn rfl rfl rfl (zk_min (by first | decide | omega) (by first | decide | omega)) rfl rfl ?_
  refine gx_sto (i := 4) (d := 0) rfl (fun _ => rfl) rfl rfl (fun l32 hl32 ml32 => ?_)
  have l32_0 : en_ld l32 0 = some (gx_r 15) := ml32 0 _ l0 rfl
  have l32_1 : en_ld l32 1 = some (gx_r 191) := ml32 1 _ l1 rfl
  have l32_2 : en_ld l32 2 = some (.inl e) := ml32 2 _ l2 rfl
  have l32_3 : en_ld l32 3 = some (.inl 1) := ml32 3 _ l3 rfl
  refine gx_ld (i := 0) (d := 2) (v := gx_r 15) rfl (fun _ => rfl) l32_0 rfl rfl ?_
  refine gxo_ref (a := 15) (c := 17) rfl g126 rfl rfl rfl rfl rfl ?_
  refine gx_ld (i := 3) (d := 0) (v := .inl 1) rfl (fun _ => rfl) l32_3 rfl rfl ?_
  refine ex_go (S := (49, l32, [.inl 1, gx_r 17, .inl 1, gx_r 17], t126, n, 0)) rfl (fun _ => rfl) rfl ?_
  refine gx_ag (v := .inl (σ 8)) (cb := fun c => Nat.beq c 0) rfl (fun _ => rfl) g126 rfl rfl k28 (by first | decide | omega) rfl ?_
  refine gx_ld (i := 4) (d := 0) (v := .inl (min (σ 8) (eat L (w 2 1) (σ 0) (σ 12)))) rfl (fun _ => rfl) hl32 rfl rfl ?_
  refine gx_isub rfl (by first | decide | omega) (by first | decide | omega) rfl ?_
  refine gx_ap rfl (fun _ => rfl) g126 rfl rfl rfl (show 1 < 2 from by omega) rfl (gx_full (by first | decide | omega)) rfl (fun t133 g133 k133 e133 => ?_)
  have k34 : ai_hv t133 15 0 = some (.inl (σ 0)) := (e133 15 0 (by first | decide | omega)).trans k27
  have k35 : ai_hv t133 19 1 = some (.inl (σ 12)) := (e133 19 1 (by first | decide | omega)).trans k29
  have k36 : ai_hv t133 206 5 = some (.inl (w 0 4)) := (e133 206 5 (by first | decide | omega)).trans k30
  have k37 : ai_hv t133 20 1 = some (.inl 0) := (e133 20 1 (by first | decide | omega)).trans k31
  refine gx_ld (i := 2) (d := 0) (v := .inl e) rfl (fun _ => rfl) l32_2 rfl rfl ?_
  refine gx_ld (i := 4) (d := 0) (v := .inl (min (σ 8) (eat L (w 2 1) (σ 0) (σ 12)))) rfl (fun _ => rfl) hl32 rfl rfl ?_
  refine ex_iadd rfl (by first | decide | omega) rfl ?_
  refine gx_sto (i := 2) (d := 0) rfl (fun _ => rfl) rfl rfl (fun l38 hl38 ml38 => ?_)
  have l38_0 : en_ld l38 0 = some (gx_r 15) := ml38 0 _ l32_0 rfl
  have l38_1 : en_ld l38 1 = some (gx_r 191) := ml38 1 _ l32_1 rfl
  have l38_3 : en_ld l38 3 = some (.inl 1) := ml38 3 _ l32_3 rfl
  have l38_4 : en_ld l38 4 = some (.inl (min (σ 8) (eat L (w 2 1) (σ 0) (σ 12)))) := ml38 4 _ hl32 rfl
  refine gx_ld (i := 0) (d := 2) (v := gx_r 15) rfl (fun _ => rfl) l38_0 rfl rfl ?_
  refine gxo_ref (a := 15) (c := 19) rfl g133 rfl rfl rfl rfl rfl ?_
  refine gx_ld (i := 3) (d := 0) (v := .inl 1) rfl (fun _ => rfl) l38_3 rfl rfl ?_
  refine gx_ag (v := .inl (σ 12)) (cb := fun c => Nat.beq c 2 || Nat.beq c 1) rfl (fun _ => rfl) g133 rfl rfl k35 (by first | decide | omega) rfl ?_
  by_cases hc39 : σ 12 = 0
  · refine gx_1t (c := .eq) rfl (by first | decide | omega) hc39 rfl ?_
    refine gx_incS (i := 3) (a := 1) (x := 1) rfl (fun _ => rfl) l38_3 (by first | decide | omega) rfl (fun l40 hl40 ml40 => ?_)
    have l40_0 : en_ld l40 0 = some (gx_r 15) := ml40 0 _ l38_0 rfl
    have l40_1 : en_ld l40 1 = some (gx_r 191) := ml40 1 _ l38_1 rfl
    have l40_4 : en_ld l40 4 = some (.inl (min (σ 8) (eat L (w 2 1) (σ 0) (σ 12)))) := ml40 4 _ l38_4 rfl
    have l40_2 : en_ld l40 2 = some (.inl (e + (min (σ 8) (eat L (w 2 1) (σ 0) (σ 12))))) := ml40 2 _ hl38 rfl
    refine ex_go (S := (4, l40, [], t133, n, 0)) rfl (fun _ => rfl) rfl ?_
    have hm9 : meal w L σ 1 = min (σ 8) (eat L (w 2 1) (σ 0) (σ 12)) := by omega
    exact hQ _ t133 g133 (fun c i h => (e133 c i (by first | decide | omega)).trans ((e126 c i (by first | decide | omega)).trans (e121 c i (by first | decide | omega)))) k37 (by rw [hm9]; exact k133) (fun z => absurd z (by first | decide | omega)) l40_0 l40_1 (by rw [hm9]; exact l40_2) hl40
  · refine gx_1f (c := .eq) rfl (by first | decide | omega) hc39 rfl ?_
    refine gx_ld (i := 0) (d := 2) (v := gx_r 15) rfl (fun _ => rfl) l38_0 rfl rfl ?_
    refine gxo_ref (a := 15) (c := 21) rfl g133 rfl rfl rfl rfl rfl ?_
    refine gx_ld (i := 3) (d := 0) (v := .inl 1) rfl (fun _ => rfl) l38_3 rfl rfl ?_
    refine gx_ld (i := 1) (d := 2) (v := gx_r 191) rfl (fun _ => rfl) l38_1 rfl rfl ?_
    refine gxo_ref (a := 191) (c := 193) rfl g133 rfl rfl rfl rfl rfl ?_
    refine gx_ld (i := 0) (d := 2) (v := gx_r 15) rfl (fun _ => rfl) l38_0 rfl rfl ?_
    refine gxo_ref (a := 15) (c := 21) rfl g133 rfl rfl rfl rfl rfl ?_
    refine gx_ld (i := 3) (d := 0) (v := .inl 1) rfl (fun _ => rfl) l38_3 rfl rfl ?_
    have k41 := ((e133 21 1 (by first | decide | omega)).trans ((e126 21 1 (by first | decide | omega)).trans (e121 21 1 (by first | decide | omega)))).trans (k13 (by first | decide | omega))
    refine gx_ag (v := .inl (σ 14)) (cb := fun c => Nat.beq c 0) rfl (fun _ => rfl) g133 rfl rfl k41 (by first | decide | omega) rfl ?_
    have k42 := ((e133 193 (σ 14) (by first | decide | omega)).trans ((e126 193 (σ 14) (by first | decide | omega)).trans (e121 193 (σ 14) (by first | decide | omega)))).trans (hnx (σ 14) (by first | decide | omega)).2
    refine gx_ag (v := .inl (fto w (σ 14))) (cb := fun c => Nat.beq c 0) rfl (fun _ => rfl) g133 rfl rfl k42 (by first | decide | omega) rfl ?_
    refine gx_ap rfl (fun _ => rfl) g133 rfl rfl rfl (show 1 < 2 from by omega) rfl (ai_in_h (by first | decide | omega) (by first | decide | omega) (by first | decide | omega)) rfl (fun t143 g143 k143 e143 => ?_)
    have k44 : ai_hv t143 15 0 = some (.inl (σ 0)) := (e143 15 0 (by first | decide | omega)).trans k34
    have k45 : ai_hv t143 19 1 = some (.inl (σ 12)) := (e143 19 1 (by first | decide | omega)).trans k35
    have k46 : ai_hv t143 206 5 = some (.inl (w 0 4)) := (e143 206 5 (by first | decide | omega)).trans k36
    have k47 : ai_hv t143 20 1 = some (.inl 0) := (e143 20 1 (by first | decide | omega)).trans k37
    have k48 : ai_hv t143 17 1 = some (.inl ((σ 8) - (min (σ 8) (eat L (w 2 1) (σ 0) (σ 12))))) := (e143 17 1 (by first | decide | omega)).trans k133
    have k49 : ai_hv t143 193 (σ 14) = some (.inl (fto w (σ 14))) := (e143 193 (σ 14) (by first | decide | omega)).trans k42
    refine gx_incS (i := 3) (a := 1) (x := 1) rfl (fun _ => rfl) l38_3 (by first | decide | omega) rfl (fun l50 hl50 ml50 => ?_)
    have l50_0 : en_ld l50 0 = some (gx_r 15) := ml50 0 _ l38_0 rfl
    have l50_1 : en_ld l50 1 = some (gx_r 191) := ml50 1 _ l38_1 rfl
    have l50_4 : en_ld l50 4 = some (.inl (min (σ 8) (eat L (w 2 1) (σ 0) (σ 12)))) := ml50 4 _ l38_4 rfl
    have l50_2 : en_ld l50 2 = some (.inl (e + (min (σ 8) (eat L (w 2 1) (σ 0) (σ 12))))) := ml50 2 _ hl38 rfl
    refine ex_go (S := (4, l50, [], t143, n, 0)) rfl (fun _ => rfl) rfl ?_
    have hm9 : meal w L σ 1 = min (σ 8) (eat L (w 2 1) (σ 0) (σ 12)) := by omega
    exact hQ _ t143 g143 (fun c i h => (e143 c i (by first | decide | omega)).trans ((e133 c i (by first | decide | omega)).trans ((e126 c i (by first | decide | omega)).trans (e121 c i (by first | decide | omega))))) k47 (by rw [hm9]; exact k48) (fun _ => k143) l50_0 l50_1 (by rw [hm9]; exact l50_2) hl50
theorem sc_pt15_191 (d n : Nat) {tb : en_H} {w : Nat → Nat → Nat} {L : List Nat} {P : Nat → Nat} {e : Nat} {Q : en_O → Prop} (hC : CW tb 191 w L) (hw : WS w) (hP : ∀ i, i < 6 → P i ≤ 63) (hQ : ∀ cl t1, ai_HG ah_G t1 → (∀ c i, ¬ (c = 16 ∧ i < w 0 2) → ai_hv t1 c i = ai_hv tb c i) → (∀ i, i < w 0 2 → ai_hv t1 16 i = some (.inl (if i < w 0 2 then fto w (P i) else P i))) → en_ld cl 0 = some (gx_r 15) → en_ld cl 1 = some (gx_r 191) → en_ld cl 2 = some (.inl e) → en_ex none (en_u (d + 3)) (en_code 164) (fun _ => false) (127, cl, [], t1, n, 0) Q) : ∀ j k cl t0, k + j = w 0 2 → ai_HG ah_G t0 → (∀ c i, ¬ (c = 16 ∧ i < w 0 2) → ai_hv t0 c i = ai_hv tb c i) → (∀ i, i < w 0 2 → ai_hv t0 16 i = some (.inl (if i < k then fto w (P i) else P i))) → en_ld cl 0 = some (gx_r 15) → en_ld cl 1 = some (gx_r 191) → en_ld cl 2 = some (.inl e) → en_ld cl 3 = some (.inl k) → en_ex none (en_u (d + 3)) (en_code 164) (fun _ => false) (93, cl, [], t0, n, 0) Q := by
  have hT := hw.1.2.2.1
  intro j
  induction j with
  | zero =>
    intro k cl t0 hk g0 e0 i0 l0 l1 l2 l3
    have hk : k = w 0 2 := by omega
    have kT := (e0 194 5 (by first | decide | omega)).trans hC.1.2.2.2.1
    refine gx_ld (i := 3) (d := 0) (v := .inl k) rfl (fun _ => rfl) l3 rfl rfl ?_
    refine gx_ld (i := 1) (d := 2) (v := gx_r 191) rfl (fun _ => rfl) l1 rfl rfl ?_
    refine gxo_ref (a := 191) (c := 194) rfl g0 rfl rfl rfl rfl rfl ?_
    refine gxo_get (a := 194) rfl g0 rfl rfl kT rfl ?_
    refine gx_2t (c := .ge) rfl (by first | decide | omega) (by first | decide | omega) (show w 0 2 ≤ k from by omega) rfl ?_
    rw [hk] at i0
    exact hQ _ t0 g0 e0 i0 l0 l1 l2
  | succ j ih =>
    intro k cl t0 hk g0 e0 i0 l0 l1 l2 l3
    have kT := (e0 194 5 (by first | decide | omega)).trans hC.1.2.2.2.1
    have kp := i0 k (by first | decide | omega)
    rw [if_neg (by first | decide | omega)] at kp
    have hp := hP k (by first | decide | omega)
    have hfl := fto_lt (q := P k) hw (by first | decide | omega)
    have kn := (e0 193 (P k) (by first | decide | omega)).trans (hC.2.1 (P k) (by first | decide | omega)).2
    refine gx_ld (i := 3) (d := 0) (v := .inl k) rfl (fun _ => rfl) l3 rfl rfl ?_
    refine gx_ld (i := 1) (d := 2) (v := gx_r 191) rfl (fun _ => rfl) l1 rfl rfl ?_
    refine gxo_ref (a := 191) (c := 194) rfl g0 rfl rfl rfl rfl rfl ?_
    refine gxo_get (a := 194) rfl g0 rfl rfl kT rfl ?_
    refine gx_2f (c := .ge) rfl (by first | decide | omega) (by first | decide | omega) (show ¬ (w 0 2 ≤ k) from by omega) rfl ?_
    refine gx_ld (i := 0) (d := 2) (v := gx_r 15) rfl (fun _ => rfl) l0 rfl rfl ?_
    refine gxo_ref (a := 15) (c := 16) rfl g0 rfl rfl rfl rfl rfl ?_
    refine gx_ld (i := 3) (d := 0) (v := .inl k) rfl (fun _ => rfl) l3 rfl rfl ?_
    refine gx_ld (i := 1) (d := 2) (v := gx_r 191) rfl (fun _ => rfl) l1 rfl rfl ?_
    refine gxo_ref (a := 191) (c := 193) rfl g0 rfl rfl rfl rfl rfl ?_
    refine gx_ld (i := 0) (d := 2) (v := gx_r 15) rfl (fun _ => rfl) l0 rfl rfl ?_
    refine gxo_ref (a := 15) (c := 16) rfl g0 rfl rfl rfl rfl rfl ?_
    refine gx_ld (i := 3) (d := 0) (v := .inl k) rfl (fun _ => rfl) l3 rfl rfl ?_
    refine gx_ag (v := .inl (P k)) (cb := fun c => Nat.beq c 0) rfl (fun _ => rfl) g0 rfl rfl kp (by first | decide | omega) rfl ?_
    refine gx_ag (v := .inl (fto w (P k))) (cb := fun c => Nat.beq c 0) rfl (fun _ => rfl) g0 rfl rfl kn (by first | decide | omega) rfl ?_
    refine gx_ap rfl (fun _ => rfl) g0 rfl rfl rfl (show k < 6 from by omega) (gx_run1 (show k < 6 from by omega)) (ai_in_h (by first | decide | omega) (by first | decide | omega) (by first | decide | omega)) rfl (fun t121 g121 k121 e121 => ?_)
    have k22 : ai_hv t121 194 5 = some (.inl (w 0 2)) := (e121 194 5 (by first | decide | omega)).trans kT
    have k23 : ai_hv t121 193 (P k) = some (.inl (fto w (P k))) := (e121 193 (P k) (by first | decide | omega)).trans kn
    refine gx_incS (i := 3) (a := k) (x := 1) rfl (fun _ => rfl) l3 (by first | decide | omega) rfl (fun l24 hl24 ml24 => ?_)
    have l24_0 : en_ld l24 0 = some (gx_r 15) := ml24 0 _ l0 rfl
    have l24_1 : en_ld l24 1 = some (gx_r 191) := ml24 1 _ l1 rfl
    have l24_2 : en_ld l24 2 = some (.inl e) := ml24 2 _ l2 rfl
    refine ex_go (S := (93, l24, [], t121, n, 0)) rfl (fun _ => rfl) rfl ?_
    refine ih (k + 1) _ t121 (by first | decide | omega) g121 (fun c i h => (e121 c i (by first | decide | omega)).trans (e0 c i h)) (fun i hi => ?_) l24_0 l24_1 l24_2 hl24
    by_cases e9 : i = k
    · subst e9
      rw [if_pos (by first | decide | omega)]
      exact k121
    · refine (e121 16 i (by first | decide | omega)).trans ((i0 i hi).trans ?_)
      by_cases c9 : i < k
      · rw [if_pos c9, if_pos (by first | decide | omega)]
      · rw [if_neg c9, if_neg (by first | decide | omega)]
theorem sc_pass15_191 (d n : Nat) {t0 : en_H} {w : Nat → Nat → Nat} {L : List Nat} {σ : Nat → Nat} (g0 : ai_HG ah_G t0) (hC : CW t0 191 w L) (hw : WS w) (hb : sbd σ) (hS : SC t0 15 (w 0 2) (w 0 4) σ) : ∃ r, en_u (d + 4) 164 [gx_r 15, gx_r 191] t0 n = some r ∧ ∃ t', r = (some (.inl (eaten w L σ)), t', n, 0) ∧ ai_HG ah_G t' ∧ (∀ c i, ¬ (c = 231 ∨ c = 16 ∨ c = 17 ∨ c = 20 ∨ c = 21 ∨ (c = 15 ∧ i = 0)) → ai_hv t' c i = ai_hv t0 c i) ∧ SC t' 15 (w 0 2) (w 0 4) (stp w L σ) := by
  obtain ⟨q0, hpl, hcr⟩ := hS
  have kK := hC.1.2.2.2.2.2
  have hb9 := hb
  obtain ⟨hb1, ⟨hb7, hb8⟩, ⟨hb11, hb12⟩, ⟨hb13, hb14⟩, -, hb0, -, -⟩ := hb9
  have hm0 := meal_le (w := w) (L := L) (σ := σ) (c := 0)
  have hm1 := meal_le (w := w) (L := L) (σ := σ) (c := 1)
  have hT := hw.1.2.2.1
  have hK := hw.1.2.2.2.2.1
  rcases (show w 0 4 = 0 ∨ w 0 4 = 1 ∨ w 0 4 = 2 by omega) with hK9 | hK9 | hK9
  · refine en_u_ex (d := d + 3) rfl ?_
    show en_ex _ _ _ _ (0, [(0, gx_r 15), (1, gx_r 191)], [], t0, n, 0) _
    refine ex_go (S := (1, [(0, gx_r 15), (1, gx_r 191)], [.inl 0], t0, n, 0)) rfl (fun _ => rfl) rfl ?_
    refine ex_go (S := (2, [(2, .inl 0), (0, gx_r 15), (1, gx_r 191)], [], t0, n, 0)) rfl (fun _ => rfl) rfl ?_
    refine ex_go (S := (3, [(2, .inl 0), (0, gx_r 15), (1, gx_r 191)], [.inl 0], t0, n, 0)) rfl (fun _ => rfl) rfl ?_
    refine ex_go (S := (4, [(3, .inl 0), (2, .inl 0), (0, gx_r 15), (1, gx_r 191)], [], t0, n, 0)) rfl (fun _ => rfl) rfl ?_
    refine ex_go (S := (5, [(3, .inl 0), (2, .inl 0), (0, gx_r 15), (1, gx_r 191)], [.inl 0], t0, n, 0)) rfl (fun _ => rfl) rfl ?_
    refine ex_go (S := (6, [(3, .inl 0), (2, .inl 0), (0, gx_r 15), (1, gx_r 191)], [gx_r 191, .inl 0], t0, n, 0)) rfl (fun _ => rfl) rfl ?_
    refine gxo_ref (a := 191) (c := 206) rfl g0 rfl rfl rfl rfl rfl ?_
    have k21 := kK
    rw [hK9] at k21
    refine gxo_get (a := 206) rfl g0 rfl rfl k21 rfl ?_
    refine ex_go (S := (91, [(3, .inl 0), (2, .inl 0), (0, gx_r 15), (1, gx_r 191)], [], t0, n, 0)) rfl (fun _ => rfl) rfl ?_
    refine ex_go (S := (92, [(3, .inl 0), (2, .inl 0), (0, gx_r 15), (1, gx_r 191)], [.inl 0], t0, n, 0)) rfl (fun _ => rfl) rfl ?_
    refine ex_go (S := (93, [(3, .inl 0), (2, .inl 0), (0, gx_r 15), (1, gx_r 191)], [], t0, n, 0)) rfl (fun _ => rfl) rfl ?_
    refine sc_pt15_191 d n (tb := t0) (w := w) (L := L) (P := fun i => σ (1 + i)) (e := 0) hC hw hb1 (fun cl122 t122 g122 e122 i122 l1220 l1221 l1222 => ?_) (w 0 2) 0 _ _ (by first | decide | omega) g0 (fun _ _ _ => rfl) (fun i hi => ?_) rfl rfl rfl rfl
    · have k23 : ai_hv t122 15 0 = some (.inl (σ 0)) := (e122 15 0 (by first | decide | omega)).trans q0
      have k24 : ai_hv t122 206 5 = some (.inl 0) := (e122 206 5 (by first | decide | omega)).trans k21
      refine gx_ld (i := 0) (d := 2) (v := gx_r 15) rfl (fun _ => rfl) l1220 rfl rfl ?_
      refine ex_go (S := (129, cl122, [gx_r 15, gx_r 15], t122, n, 0)) rfl (fun _ => rfl) rfl ?_
      refine gxo_get (a := 15) rfl g122 rfl rfl k23 rfl ?_
      refine ex_go (S := (133, cl122, [.inl 1, .inl (σ 0), gx_r 15], t122, n, 0)) rfl (fun _ => rfl) rfl ?_
      have hw25 : en_wrap ((σ 0) + 1) < 4294967296 := wrap_lt
      refine gs_iaddx rfl rfl ?_
      refine gxo_put (a := 15) rfl g122 rfl rfl rfl (gx_full (by first | decide | omega)) rfl (fun t126 g126 k126 e126 => ?_)
      have k27 : ai_hv t126 206 5 = some (.inl 0) := (e126 206 5 (by first | decide | omega)).trans k24
      refine gx_ld (i := 2) (d := 0) (v := .inl 0) rfl (fun _ => rfl) l1222 rfl rfl ?_
      refine ex_ret (r := (some (.inl 0), t126, n, 0)) rfl (fun _ => rfl) ?_
      have he9 : eaten w L σ = 0 := by unfold eaten; rw [hK9]; rfl
      refine ⟨_, rfl, t126, by rw [he9], g126, (fun c i h => (e126 c i (by first | decide | omega)).trans (e122 c i (by first | decide | omega))), (by rw [stp_0]; exact k126), (fun i hi => ?_), fun c hc => ?_⟩
      · rw [stp_pl (show i < 6 by omega)]
        exact (e126 16 i (by first | decide | omega)).trans (i122 i hi)
      · exact absurd hc (by first | decide | omega)
    · rw [if_neg (Nat.not_lt_zero i)]
      exact hpl i hi
  · obtain ⟨x7_0, x9_0, x11_0, x15_0, x13_0⟩ := hcr 0 (by first | decide | omega)
    refine en_u_ex (d := d + 3) rfl ?_
    show en_ex _ _ _ _ (0, [(0, gx_r 15), (1, gx_r 191)], [], t0, n, 0) _
    refine ex_go (S := (1, [(0, gx_r 15), (1, gx_r 191)], [.inl 0], t0, n, 0)) rfl (fun _ => rfl) rfl ?_
    refine ex_go (S := (2, [(2, .inl 0), (0, gx_r 15), (1, gx_r 191)], [], t0, n, 0)) rfl (fun _ => rfl) rfl ?_
    refine ex_go (S := (3, [(2, .inl 0), (0, gx_r 15), (1, gx_r 191)], [.inl 0], t0, n, 0)) rfl (fun _ => rfl) rfl ?_
    refine ex_go (S := (4, [(3, .inl 0), (2, .inl 0), (0, gx_r 15), (1, gx_r 191)], [], t0, n, 0)) rfl (fun _ => rfl) rfl ?_
    refine sc_pc15_191_0 d n (σ := σ) (e := 0) g0 hC hw hb (by first | decide | omega) (q0) (x7_0) (x11_0) x13_0 (by first | decide | omega) rfl rfl rfl rfl (fun cl121 t121 g121 e121 a121 b121 c121 l1210 l1211 l1212 l1213 => ?_)
    have k22 : ai_hv t121 15 0 = some (.inl (σ 0)) := (e121 15 0 (by first | decide | omega)).trans q0
    refine gx_ld (i := 3) (d := 0) (v := .inl 1) rfl (fun _ => rfl) l1213 rfl rfl ?_
    refine gx_ld (i := 1) (d := 2) (v := gx_r 191) rfl (fun _ => rfl) l1211 rfl rfl ?_
    refine gxo_ref (a := 191) (c := 206) rfl g121 rfl rfl rfl rfl rfl ?_
    have k23 := (e121 206 5 (by first | decide | omega)).trans (kK)
    rw [hK9] at k23
    refine gxo_get (a := 206) rfl g121 rfl rfl k23 rfl ?_
    refine ex_go (S := (91, cl121, [], t121, n, 0)) rfl (fun _ => rfl) rfl ?_
    refine ex_go (S := (92, cl121, [.inl 0], t121, n, 0)) rfl (fun _ => rfl) rfl ?_
    refine gx_sto (i := 3) (d := 0) rfl (fun _ => rfl) rfl rfl (fun l24 hl24 ml24 => ?_)
    have l24_0 : en_ld l24 0 = some (gx_r 15) := ml24 0 _ l1210 rfl
    have l24_1 : en_ld l24 1 = some (gx_r 191) := ml24 1 _ l1211 rfl
    have l24_2 : en_ld l24 2 = some (.inl (0 + meal w L σ 0)) := ml24 2 _ l1212 rfl
    refine sc_pt15_191 d n (tb := t121) (w := w) (L := L) (P := fun i => σ (1 + i)) (e := 0 + meal w L σ 0) (CW_keep hC (fun c i h => e121 c i (by first | decide | omega))) hw hb1 (fun cl125 t125 g125 e125 i125 l1250 l1251 l1252 => ?_) (w 0 2) 0 _ _ (by first | decide | omega) g121 (fun _ _ _ => rfl) (fun i hi => ?_) l24_0 l24_1 l24_2 hl24
    · have k26 : ai_hv t125 15 0 = some (.inl (σ 0)) := (e125 15 0 (by first | decide | omega)).trans k22
      have k27 : ai_hv t125 206 5 = some (.inl 1) := (e125 206 5 (by first | decide | omega)).trans k23
      refine gx_ld (i := 0) (d := 2) (v := gx_r 15) rfl (fun _ => rfl) l1250 rfl rfl ?_
      refine ex_go (S := (129, cl125, [gx_r 15, gx_r 15], t125, n, 0)) rfl (fun _ => rfl) rfl ?_
      refine gxo_get (a := 15) rfl g125 rfl rfl k26 rfl ?_
      refine ex_go (S := (133, cl125, [.inl 1, .inl (σ 0), gx_r 15], t125, n, 0)) rfl (fun _ => rfl) rfl ?_
      have hw28 : en_wrap ((σ 0) + 1) < 4294967296 := wrap_lt
      refine gs_iaddx rfl rfl ?_
      refine gxo_put (a := 15) rfl g125 rfl rfl rfl (gx_full (by first | decide | omega)) rfl (fun t129 g129 k129 e129 => ?_)
      have k30 : ai_hv t129 206 5 = some (.inl 1) := (e129 206 5 (by first | decide | omega)).trans k27
      refine gx_ld (i := 2) (d := 0) (v := .inl (0 + meal w L σ 0)) rfl (fun _ => rfl) l1252 rfl rfl ?_
      refine ex_ret (r := (some (.inl (0 + meal w L σ 0)), t129, n, 0)) rfl (fun _ => rfl) ?_
      have he9 : eaten w L σ = 0 + meal w L σ 0 := by unfold eaten; rw [hK9]; rw [if_pos (by decide), if_neg (by decide)]; omega
      refine ⟨_, rfl, t129, by rw [he9], g129, (fun c i h => (e129 c i (by first | decide | omega)).trans ((e125 c i (by first | decide | omega)).trans (e121 c i (by first | decide | omega)))), (by rw [stp_0]; exact k129), (fun i hi => ?_), fun c hc => ?_⟩
      · rw [stp_pl (show i < 6 by omega)]
        exact (e129 16 i (by first | decide | omega)).trans (i125 i hi)
      · rcases (show c = 0 by omega) with rfl
        · refine ⟨?_, ?_, ?_, ?_, ?_⟩
          · rw [stp_bi (by decide), if_pos (by first | decide | omega)]; exact (e129 17 0 (by first | decide | omega)).trans ((e125 17 0 (by first | decide | omega)).trans (b121))
          · rw [stp_mid (by decide) (by decide)]; exact (e129 18 0 (by first | decide | omega)).trans ((e125 18 0 (by first | decide | omega)).trans ((e121 18 0 (by first | decide | omega)).trans (x9_0)))
          · rw [stp_mid (by decide) (by decide)]; exact (e129 19 0 (by first | decide | omega)).trans ((e125 19 0 (by first | decide | omega)).trans ((e121 19 0 (by first | decide | omega)).trans (x11_0)))
          · rw [stp_ha (by decide), if_pos (by first | decide | omega)]; exact (e129 20 0 (by first | decide | omega)).trans ((e125 20 0 (by first | decide | omega)).trans (a121))
          · intro z
            rw [stp_mid (by decide) (by decide)] at z
            rw [stp_sl (by decide), if_pos (by first | decide | omega), if_pos z]
            exact (e129 21 0 (by first | decide | omega)).trans ((e125 21 0 (by first | decide | omega)).trans (c121 z))
    · rw [if_neg (Nat.not_lt_zero i)]
      exact (e121 16 i (by first | decide | omega)).trans (hpl i hi)
  · obtain ⟨x7_0, x9_0, x11_0, x15_0, x13_0⟩ := hcr 0 (by first | decide | omega)
    obtain ⟨x7_1, x9_1, x11_1, x15_1, x13_1⟩ := hcr 1 (by first | decide | omega)
    refine en_u_ex (d := d + 3) rfl ?_
    show en_ex _ _ _ _ (0, [(0, gx_r 15), (1, gx_r 191)], [], t0, n, 0) _
    refine ex_go (S := (1, [(0, gx_r 15), (1, gx_r 191)], [.inl 0], t0, n, 0)) rfl (fun _ => rfl) rfl ?_
    refine ex_go (S := (2, [(2, .inl 0), (0, gx_r 15), (1, gx_r 191)], [], t0, n, 0)) rfl (fun _ => rfl) rfl ?_
    refine ex_go (S := (3, [(2, .inl 0), (0, gx_r 15), (1, gx_r 191)], [.inl 0], t0, n, 0)) rfl (fun _ => rfl) rfl ?_
    refine ex_go (S := (4, [(3, .inl 0), (2, .inl 0), (0, gx_r 15), (1, gx_r 191)], [], t0, n, 0)) rfl (fun _ => rfl) rfl ?_
    refine sc_pc15_191_0 d n (σ := σ) (e := 0) g0 hC hw hb (by first | decide | omega) (q0) (x7_0) (x11_0) x13_0 (by first | decide | omega) rfl rfl rfl rfl (fun cl121 t121 g121 e121 a121 b121 c121 l1210 l1211 l1212 l1213 => ?_)
    have k22 : ai_hv t121 15 0 = some (.inl (σ 0)) := (e121 15 0 (by first | decide | omega)).trans q0
    refine sc_pc15_191_1 d n (σ := σ) (e := 0 + meal w L σ 0) g121 (CW_keep hC (fun c i h => e121 c i (by first | decide | omega))) hw hb (by first | decide | omega) ((e121 15 0 (by first | decide | omega)).trans (q0)) ((e121 17 1 (by first | decide | omega)).trans (x7_1)) ((e121 19 1 (by first | decide | omega)).trans (x11_1)) (fun z => (e121 21 1 (by first | decide | omega)).trans (x13_1 z)) (by first | decide | omega) l1210 l1211 l1212 l1213 (fun cl123 t123 g123 e123 a123 b123 c123 l1230 l1231 l1232 l1233 => ?_)
    have k24 : ai_hv t123 15 0 = some (.inl (σ 0)) := (e123 15 0 (by first | decide | omega)).trans k22
    refine gx_ld (i := 3) (d := 0) (v := .inl 2) rfl (fun _ => rfl) l1233 rfl rfl ?_
    refine gx_ld (i := 1) (d := 2) (v := gx_r 191) rfl (fun _ => rfl) l1231 rfl rfl ?_
    refine gxo_ref (a := 191) (c := 206) rfl g123 rfl rfl rfl rfl rfl ?_
    have k25 := (e123 206 5 (by first | decide | omega)).trans ((e121 206 5 (by first | decide | omega)).trans (kK))
    rw [hK9] at k25
    refine gxo_get (a := 206) rfl g123 rfl rfl k25 rfl ?_
    refine ex_go (S := (91, cl123, [], t123, n, 0)) rfl (fun _ => rfl) rfl ?_
    refine ex_go (S := (92, cl123, [.inl 0], t123, n, 0)) rfl (fun _ => rfl) rfl ?_
    refine gx_sto (i := 3) (d := 0) rfl (fun _ => rfl) rfl rfl (fun l26 hl26 ml26 => ?_)
    have l26_0 : en_ld l26 0 = some (gx_r 15) := ml26 0 _ l1230 rfl
    have l26_1 : en_ld l26 1 = some (gx_r 191) := ml26 1 _ l1231 rfl
    have l26_2 : en_ld l26 2 = some (.inl ((0 + meal w L σ 0) + meal w L σ 1)) := ml26 2 _ l1232 rfl
    refine sc_pt15_191 d n (tb := t123) (w := w) (L := L) (P := fun i => σ (1 + i)) (e := (0 + meal w L σ 0) + meal w L σ 1) (CW_keep hC (fun c i h => (e123 c i (by first | decide | omega)).trans (e121 c i (by first | decide | omega)))) hw hb1 (fun cl127 t127 g127 e127 i127 l1270 l1271 l1272 => ?_) (w 0 2) 0 _ _ (by first | decide | omega) g123 (fun _ _ _ => rfl) (fun i hi => ?_) l26_0 l26_1 l26_2 hl26
    · have k28 : ai_hv t127 15 0 = some (.inl (σ 0)) := (e127 15 0 (by first | decide | omega)).trans k24
      have k29 : ai_hv t127 206 5 = some (.inl 2) := (e127 206 5 (by first | decide | omega)).trans k25
      refine gx_ld (i := 0) (d := 2) (v := gx_r 15) rfl (fun _ => rfl) l1270 rfl rfl ?_
      refine ex_go (S := (129, cl127, [gx_r 15, gx_r 15], t127, n, 0)) rfl (fun _ => rfl) rfl ?_
      refine gxo_get (a := 15) rfl g127 rfl rfl k28 rfl ?_
      refine ex_go (S := (133, cl127, [.inl 1, .inl (σ 0), gx_r 15], t127, n, 0)) rfl (fun _ => rfl) rfl ?_
      have hw30 : en_wrap ((σ 0) + 1) < 4294967296 := wrap_lt
      refine gs_iaddx rfl rfl ?_
      refine gxo_put (a := 15) rfl g127 rfl rfl rfl (gx_full (by first | decide | omega)) rfl (fun t131 g131 k131 e131 => ?_)
      have k32 : ai_hv t131 206 5 = some (.inl 2) := (e131 206 5 (by first | decide | omega)).trans k29
      refine gx_ld (i := 2) (d := 0) (v := .inl ((0 + meal w L σ 0) + meal w L σ 1)) rfl (fun _ => rfl) l1272 rfl rfl ?_
      refine ex_ret (r := (some (.inl ((0 + meal w L σ 0) + meal w L σ 1)), t131, n, 0)) rfl (fun _ => rfl) ?_
      have he9 : eaten w L σ = (0 + meal w L σ 0) + meal w L σ 1 := by unfold eaten; rw [hK9]; rw [if_pos (by decide), if_pos (by decide)]; omega
      refine ⟨_, rfl, t131, by rw [he9], g131, (fun c i h => (e131 c i (by first | decide | omega)).trans ((e127 c i (by first | decide | omega)).trans ((e123 c i (by first | decide | omega)).trans (e121 c i (by first | decide | omega))))), (by rw [stp_0]; exact k131), (fun i hi => ?_), fun c hc => ?_⟩
      · rw [stp_pl (show i < 6 by omega)]
        exact (e131 16 i (by first | decide | omega)).trans (i127 i hi)
      · rcases (show c = 0 ∨ c = 1 by omega) with rfl | rfl
        · refine ⟨?_, ?_, ?_, ?_, ?_⟩
          · rw [stp_bi (by decide), if_pos (by first | decide | omega)]; exact (e131 17 0 (by first | decide | omega)).trans ((e127 17 0 (by first | decide | omega)).trans ((e123 17 0 (by first | decide | omega)).trans (b121)))
          · rw [stp_mid (by decide) (by decide)]; exact (e131 18 0 (by first | decide | omega)).trans ((e127 18 0 (by first | decide | omega)).trans ((e123 18 0 (by first | decide | omega)).trans ((e121 18 0 (by first | decide | omega)).trans (x9_0))))
          · rw [stp_mid (by decide) (by decide)]; exact (e131 19 0 (by first | decide | omega)).trans ((e127 19 0 (by first | decide | omega)).trans ((e123 19 0 (by first | decide | omega)).trans ((e121 19 0 (by first | decide | omega)).trans (x11_0))))
          · rw [stp_ha (by decide), if_pos (by first | decide | omega)]; exact (e131 20 0 (by first | decide | omega)).trans ((e127 20 0 (by first | decide | omega)).trans ((e123 20 0 (by first | decide | omega)).trans (a121)))
          · intro z
            rw [stp_mid (by decide) (by decide)] at z
            rw [stp_sl (by decide), if_pos (by first | decide | omega), if_pos z]
            exact (e131 21 0 (by first | decide | omega)).trans ((e127 21 0 (by first | decide | omega)).trans ((e123 21 0 (by first | decide | omega)).trans (c121 z)))
        · refine ⟨?_, ?_, ?_, ?_, ?_⟩
          · rw [stp_bi (by decide), if_pos (by first | decide | omega)]; exact (e131 17 1 (by first | decide | omega)).trans ((e127 17 1 (by first | decide | omega)).trans (b123))
          · rw [stp_mid (by decide) (by decide)]; exact (e131 18 1 (by first | decide | omega)).trans ((e127 18 1 (by first | decide | omega)).trans ((e123 18 1 (by first | decide | omega)).trans ((e121 18 1 (by first | decide | omega)).trans (x9_1))))
          · rw [stp_mid (by decide) (by decide)]; exact (e131 19 1 (by first | decide | omega)).trans ((e127 19 1 (by first | decide | omega)).trans ((e123 19 1 (by first | decide | omega)).trans ((e121 19 1 (by first | decide | omega)).trans (x11_1))))
          · rw [stp_ha (by decide), if_pos (by first | decide | omega)]; exact (e131 20 1 (by first | decide | omega)).trans ((e127 20 1 (by first | decide | omega)).trans (a123))
          · intro z
            rw [stp_mid (by decide) (by decide)] at z
            rw [stp_sl (by decide), if_pos (by first | decide | omega), if_pos z]
            exact (e131 21 1 (by first | decide | omega)).trans ((e127 21 1 (by first | decide | omega)).trans (c123 z))
    · rw [if_neg (Nat.not_lt_zero i)]
      exact ((e123 16 i (by first | decide | omega)).trans (e121 16 i (by first | decide | omega))).trans (hpl i hi)
theorem sc_app15_257 (d n : Nat) {t0 : en_H} {L : List Nat} {c me ti ou : Nat} (g0 : ai_HG ah_G t0) (hc : c ≤ 1) (km : ai_hv t0 275 c = some (.inl me)) (hm : me < 2147483648) (ko : ai_hv t0 19 c = some (.inl ou)) (ho : ou ≤ 1) (hti : ti < 4294967296) (kL : CLs t0 296 L) (hs : L.length ≤ 1000) (hv : ∀ z, z ∈ L → vo 7 z) (hr : hrun 25 L 0 = some 1) : ∃ r, en_u (d + 3) 140 [gx_r 15, gx_r 257, .inl c, .inl ti] t0 n = some r ∧ ∃ t', r = (some (.inl (eat L me ti ou)), t', n, 0) ∧ ai_HG ah_G t' ∧ (∀ c i, c ≠ 297 → ai_hv t' c i = ai_hv t0 c i) := by
  have hc' : cco t0 296 0 L := cco_of (fun j hj => by rw [Nat.zero_add]; exact kL.2 j hj)
  rcases (show ou = 0 ∨ ou = 1 by omega) with rfl | rfl
  · refine en_u_ex (d := d + 2) rfl ?_
    show en_ex _ _ _ _ (0, [(0, gx_r 15), (1, gx_r 257), (2, .inl c), (3, .inl ti)], [], t0, n, 0) _
    refine ex_go (S := (1, [(0, gx_r 15), (1, gx_r 257), (2, .inl c), (3, .inl ti)], [gx_r 257], t0, n, 0)) rfl (fun _ => rfl) rfl ?_
    refine gxo_ref (a := 257) (c := 296) rfl g0 rfl rfl rfl rfl rfl ?_
    refine ex_go (S := (6, [(0, gx_r 15), (1, gx_r 257), (2, .inl c), (3, .inl ti)], [.inl 99, gx_r 296], t0, n, 0)) rfl (fun _ => rfl) rfl ?_
    refine ex_go (S := (7, [(0, gx_r 15), (1, gx_r 257), (2, .inl c), (3, .inl ti)], [gx_r 257, .inl 99, gx_r 296], t0, n, 0)) rfl (fun _ => rfl) rfl ?_
    refine gxo_ref (a := 257) (c := 272) rfl g0 rfl rfl rfl rfl rfl ?_
    refine gxo_ref (a := 272) (c := 275) rfl g0 rfl rfl rfl rfl rfl ?_
    refine ex_go (S := (14, [(0, gx_r 15), (1, gx_r 257), (2, .inl c), (3, .inl ti)], [.inl c, gx_r 275, .inl 99, gx_r 296], t0, n, 0)) rfl (fun _ => rfl) rfl ?_
    refine gx_ag (v := .inl me) (cb := fun c => Nat.beq c 0) rfl (fun _ => rfl) g0 rfl rfl km (by first | decide | omega) rfl ?_
    refine ex_go (S := (16, [(0, gx_r 15), (1, gx_r 257), (2, .inl c), (3, .inl ti)], [.inl ti, .inl me, .inl 99, gx_r 296], t0, n, 0)) rfl (fun _ => rfl) rfl ?_
    refine ex_go (S := (17, [(0, gx_r 15), (1, gx_r 257), (2, .inl c), (3, .inl ti)], [gx_r 15, .inl ti, .inl me, .inl 99, gx_r 296], t0, n, 0)) rfl (fun _ => rfl) rfl ?_
    refine gxo_ref (a := 15) (c := 19) rfl g0 rfl rfl rfl rfl rfl ?_
    refine ex_go (S := (21, [(0, gx_r 15), (1, gx_r 257), (2, .inl c), (3, .inl ti)], [.inl c, gx_r 19, .inl ti, .inl me, .inl 99, gx_r 296], t0, n, 0)) rfl (fun _ => rfl) rfl ?_
    refine gx_ag (v := .inl 0) (cb := fun c => Nat.beq c 2 || Nat.beq c 1) rfl (fun _ => rfl) g0 rfl rfl ko (by first | decide | omega) rfl ?_
    refine ex_go (S := (29, [(0, gx_r 15), (1, gx_r 257), (2, .inl c), (3, .inl ti)], [.inl ti, .inl me, .inl 99, gx_r 296], t0, n, 0)) rfl (fun _ => rfl) rfl ?_
    refine ex_go (S := (30, [(0, gx_r 15), (1, gx_r 257), (2, .inl c), (3, .inl ti)], [.inl 0, .inl ti, .inl me, .inl 99, gx_r 296], t0, n, 0)) rfl (fun _ => rfl) rfl ?_
    obtain ⟨_, r121, v121, t121, rfl, hv121, -, g121, e121⟩ := pc_value296 d n (mo := 99) (me := me) (ti := ti) (ou := 0) (L := L) g0 (by decide) (by first | decide | omega) hti (by decide) kL.1 hs hc' (fun z hz => ⟨_, hv z hz⟩) hr
    rw [eat_of hv121] at r121
    refine gx_callo (a := 296) rfl rfl g0 rfl rfl rfl r121 rfl ?_
    have k22 : ai_hv t121 275 c = some (.inl me) := (e121 275 c (by first | decide | omega)).trans km
    have k23 : ai_hv t121 19 c = some (.inl 0) := (e121 19 c (by first | decide | omega)).trans ko
    show en_ex _ _ _ _ (33, [(0, gx_r 15), (1, gx_r 257), (2, .inl c), (3, .inl ti)], [.inl (eat L me ti 0)], t121, n, 0) _
    refine ex_ret (r := (some (.inl (eat L me ti 0)), t121, n, 0)) rfl (fun _ => rfl) ?_
    exact ⟨_, rfl, t121, rfl, g121, e121⟩
  · refine en_u_ex (d := d + 2) rfl ?_
    show en_ex _ _ _ _ (0, [(0, gx_r 15), (1, gx_r 257), (2, .inl c), (3, .inl ti)], [], t0, n, 0) _
    refine ex_go (S := (1, [(0, gx_r 15), (1, gx_r 257), (2, .inl c), (3, .inl ti)], [gx_r 257], t0, n, 0)) rfl (fun _ => rfl) rfl ?_
    refine gxo_ref (a := 257) (c := 296) rfl g0 rfl rfl rfl rfl rfl ?_
    refine ex_go (S := (6, [(0, gx_r 15), (1, gx_r 257), (2, .inl c), (3, .inl ti)], [.inl 99, gx_r 296], t0, n, 0)) rfl (fun _ => rfl) rfl ?_
    refine ex_go (S := (7, [(0, gx_r 15), (1, gx_r 257), (2, .inl c), (3, .inl ti)], [gx_r 257, .inl 99, gx_r 296], t0, n, 0)) rfl (fun _ => rfl) rfl ?_
    refine gxo_ref (a := 257) (c := 272) rfl g0 rfl rfl rfl rfl rfl ?_
    refine gxo_ref (a := 272) (c := 275) rfl g0 rfl rfl rfl rfl rfl ?_
    refine ex_go (S := (14, [(0, gx_r 15), (1, gx_r 257), (2, .inl c), (3, .inl ti)], [.inl c, gx_r 275, .inl 99, gx_r 296], t0, n, 0)) rfl (fun _ => rfl) rfl ?_
    refine gx_ag (v := .inl me) (cb := fun c => Nat.beq c 0) rfl (fun _ => rfl) g0 rfl rfl km (by first | decide | omega) rfl ?_
    refine ex_go (S := (16, [(0, gx_r 15), (1, gx_r 257), (2, .inl c), (3, .inl ti)], [.inl ti, .inl me, .inl 99, gx_r 296], t0, n, 0)) rfl (fun _ => rfl) rfl ?_
    refine ex_go (S := (17, [(0, gx_r 15), (1, gx_r 257), (2, .inl c), (3, .inl ti)], [gx_r 15, .inl ti, .inl me, .inl 99, gx_r 296], t0, n, 0)) rfl (fun _ => rfl) rfl ?_
    refine gxo_ref (a := 15) (c := 19) rfl g0 rfl rfl rfl rfl rfl ?_
    refine ex_go (S := (21, [(0, gx_r 15), (1, gx_r 257), (2, .inl c), (3, .inl ti)], [.inl c, gx_r 19, .inl ti, .inl me, .inl 99, gx_r 296], t0, n, 0)) rfl (fun _ => rfl) rfl ?_
    refine gx_ag (v := .inl 1) (cb := fun c => Nat.beq c 2 || Nat.beq c 1) rfl (fun _ => rfl) g0 rfl rfl ko (by first | decide | omega) rfl ?_
    refine ex_go (S := (25, [(0, gx_r 15), (1, gx_r 257), (2, .inl c), (3, .inl ti)], [.inl ti, .inl me, .inl 99, gx_r 296], t0, n, 0)) rfl (fun _ => rfl) rfl ?_
    refine ex_go (S := (26, [(0, gx_r 15), (1, gx_r 257), (2, .inl c), (3, .inl ti)], [.inl 1, .inl ti, .inl me, .inl 99, gx_r 296], t0, n, 0)) rfl (fun _ => rfl) rfl ?_
    refine ex_go (S := (30, [(0, gx_r 15), (1, gx_r 257), (2, .inl c), (3, .inl ti)], [.inl 1, .inl ti, .inl me, .inl 99, gx_r 296], t0, n, 0)) rfl (fun _ => rfl) rfl ?_
    obtain ⟨_, r121, v121, t121, rfl, hv121, -, g121, e121⟩ := pc_value296 d n (mo := 99) (me := me) (ti := ti) (ou := 1) (L := L) g0 (by decide) (by first | decide | omega) hti (by decide) kL.1 hs hc' (fun z hz => ⟨_, hv z hz⟩) hr
    rw [eat_of hv121] at r121
    refine gx_callo (a := 296) rfl rfl g0 rfl rfl rfl r121 rfl ?_
    have k22 : ai_hv t121 275 c = some (.inl me) := (e121 275 c (by first | decide | omega)).trans km
    have k23 : ai_hv t121 19 c = some (.inl 1) := (e121 19 c (by first | decide | omega)).trans ko
    show en_ex _ _ _ _ (33, [(0, gx_r 15), (1, gx_r 257), (2, .inl c), (3, .inl ti)], [.inl (eat L me ti 1)], t121, n, 0) _
    refine ex_ret (r := (some (.inl (eat L me ti 1)), t121, n, 0)) rfl (fun _ => rfl) ?_
    exact ⟨_, rfl, t121, rfl, g121, e121⟩
theorem sc_pc15_257_0 (d n : Nat) {t0 : en_H} {w : Nat → Nat → Nat} {L : List Nat} {σ : Nat → Nat} {e : Nat} {cl : en_L} {Q : en_O → Prop} (g0 : ai_HG ah_G t0) (hC : CW t0 257 w L) (hw : WS w) (hb : sbd σ) (hc : 0 < w 0 4) (k0 : ai_hv t0 15 0 = some (.inl (σ 0))) (k7 : ai_hv t0 17 0 = some (.inl (σ 7))) (k11 : ai_hv t0 19 0 = some (.inl (σ 11))) (k13 : σ 11 = 1 → ai_hv t0 21 0 = some (.inl (σ 13))) (he : e ≤ 1000) (l0 : en_ld cl 0 = some (gx_r 15)) (l1 : en_ld cl 1 = some (gx_r 257)) (l2 : en_ld cl 2 = some (.inl e)) (l3 : en_ld cl 3 = some (.inl 0)) (hQ : ∀ cl' t', ai_HG ah_G t' → (∀ c i, ¬ (c = 297 ∨ ((c = 17 ∨ c = 20 ∨ c = 21) ∧ i = 0)) → ai_hv t' c i = ai_hv t0 c i) → ai_hv t' 20 0 = some (.inl 0) → ai_hv t' 17 0 = some (.inl (σ 7 - meal w L σ 0)) → (σ 11 = 1 → ai_hv t' 21 0 = some (.inl (fto w (σ 13)))) → en_ld cl' 0 = some (gx_r 15) → en_ld cl' 1 = some (gx_r 257) → en_ld cl' 2 = some (.inl (e + meal w L σ 0)) → en_ld cl' 3 = some (.inl 1) → en_ex none (en_u (d + 3)) (en_code 164) (fun _ => false) (4, cl', [], t', n, 0) Q) : en_ex none (en_u (d + 3)) (en_code 164) (fun _ => false) (4, cl, [], t0, n, 0) Q := by
  obtain ⟨⟨-, -, -, -, -, kK⟩, hnx, hcr, -, -, kL, hs, hv, hr⟩ := hC
  obtain ⟨hb1, ⟨hb7, hb8⟩, ⟨hb11, hb12⟩, ⟨hb13, hb14⟩, ⟨hb15, hb16⟩, hb0, -, -⟩ := hb
  obtain ⟨-, km, -⟩ := hcr 0 hc
  obtain ⟨-, hm, -⟩ := hw.2.1 0 hc
  have hea := eat_le (L := L) (me := w 2 0) (ti := σ 0) (ou := σ 11)
  have hml : meal w L σ 0 = min (eat L (w 2 0) (σ 0) (σ 11)) (σ 7) := rfl
  have hK := hw.1.2.2.2.2.1
  have hfl := fto_lt (q := σ 13) hw (by first | decide | omega)
  refine gx_ld (i := 3) (d := 0) (v := .inl 0) rfl (fun _ => rfl) l3 rfl rfl ?_
  refine gx_ld (i := 1) (d := 2) (v := gx_r 257) rfl (fun _ => rfl) l1 rfl rfl ?_
  refine gxo_ref (a := 257) (c := 272) rfl g0 rfl rfl rfl rfl rfl ?_
  refine gxo_get (a := 272) rfl g0 rfl rfl kK rfl ?_
  refine gx_2f (c := .ge) rfl (by first | decide | omega) (by first | decide | omega) (show ¬ (w 0 4 ≤ 0) from by omega) rfl ?_
  refine gx_ld (i := 0) (d := 2) (v := gx_r 15) rfl (fun _ => rfl) l0 rfl rfl ?_
  refine gxo_ref (a := 15) (c := 20) rfl g0 rfl rfl rfl rfl rfl ?_
  refine gx_ld (i := 3) (d := 0) (v := .inl 0) rfl (fun _ => rfl) l3 rfl rfl ?_
  refine ex_go (S := (21, cl, [.inl 0, .inl 0, gx_r 20], t0, n, 0)) rfl (fun _ => rfl) rfl ?_
  refine gx_apv (d := 2) rfl (fun _ => rfl) g0 rfl rfl rfl (show 0 < 2 from by omega) rfl (ai_in_h (by first | decide | omega) (by first | decide | omega) (by first | decide | omega)) rfl (fun t121 g121 k121 e121 => ?_)
  have k22 : ai_hv t121 15 0 = some (.inl (σ 0)) := (e121 15 0 (by first | decide | omega)).trans k0
  have k23 : ai_hv t121 17 0 = some (.inl (σ 7)) := (e121 17 0 (by first | decide | omega)).trans k7
  have k24 : ai_hv t121 19 0 = some (.inl (σ 11)) := (e121 19 0 (by first | decide | omega)).trans k11
  have k25 : ai_hv t121 272 5 = some (.inl (w 0 4)) := (e121 272 5 (by first | decide | omega)).trans kK
  refine gx_ld (i := 0) (d := 2) (v := gx_r 15) rfl (fun _ => rfl) l0 rfl rfl ?_
  refine gxo_ref (a := 15) (c := 17) rfl g121 rfl rfl rfl rfl rfl ?_
  refine gx_ld (i := 3) (d := 0) (v := .inl 0) rfl (fun _ => rfl) l3 rfl rfl ?_
  refine gx_ag (v := .inl (σ 7)) (cb := fun c => Nat.beq c 0) rfl (fun _ => rfl) g121 rfl rfl k23 (by first | decide | omega) rfl ?_
  refine gx_ld (i := 0) (d := 2) (v := gx_r 15) rfl (fun _ => rfl) l0 rfl rfl ?_
  refine gx_ld (i := 1) (d := 2) (v := gx_r 257) rfl (fun _ => rfl) l1 rfl rfl ?_
  refine gx_ld (i := 3) (d := 0) (v := .inl 0) rfl (fun _ => rfl) l3 rfl rfl ?_
  refine gx_ld (i := 0) (d := 2) (v := gx_r 15) rfl (fun _ => rfl) l0 rfl rfl ?_
  refine gxo_get (a := 15) rfl g121 rfl rfl k22 rfl ?_
  obtain ⟨_, r126, t126, rfl, g126, e126⟩ := sc_app15_257 d n (L := L) (c := 0) (me := w 2 0) (ti := σ 0) (ou := σ 11) g121 (by decide) ((e121 275 0 (by first | decide | omega)).trans (km)) (by first | decide | omega) ((e121 19 0 (by first | decide | omega)).trans (k11)) (by first | decide | omega) hb0 (CLs_keep kL (e121 296 2 (by first | decide | omega)) (fun j => e121 298 j (by first | decide | omega))) hs hv hr
  refine gx_callo (a := 15) rfl rfl g121 rfl rfl rfl r126 rfl ?_
  have k27 : ai_hv t126 15 0 = some (.inl (σ 0)) := (e126 15 0 (by first | decide | omega)).trans k22
  have k28 : ai_hv t126 17 0 = some (.inl (σ 7)) := (e126 17 0 (by first | decide | omega)).trans k23
  have k29 : ai_hv t126 19 0 = some (.inl (σ 11)) := (e126 19 0 (by first | decide | omega)).trans k24
  have k30 : ai_hv t126 272 5 = some (.inl (w 0 4)) := (e126 272 5 (by first | decide | omega)).trans k25
  have k31 : ai_hv t126 20 0 = some (.inl 0) := (e126 20 0 (by first | decide | omega)).trans k121
  show en_ex _ _ _ _ (38, cl, [.inl (eat L (w 2 0) (σ 0) (σ 11)), .inl (σ 7)], t126, n, 0) _
  refine gx_inn rfl rfl rfl (zk_min (by first | decide | omega) (by first | decide | omega)) rfl rfl ?_
  refine gx_sto (i := 4) (d := 0) rfl (fun _ => rfl) rfl rfl (fun l32 hl32 ml32 => ?_)
  have l32_0 : en_ld l32 0 = some (gx_r 15) := ml32 0 _ l0 rfl
  have l32_1 : en_ld l32 1 = some (gx_r 257) := ml32 1 _ l1 rfl
  have l32_2 : en_ld l32 2 = some (.inl e) := ml32 2 _ l2 rfl
  have l32_3 : en_ld l32 3 = some (.inl 0) := ml32 3 _ l3 rfl
  refine gx_ld (i := 0) (d := 2) (v := gx_r 15) rfl (fun _ => rfl) l32_0 rfl rfl ?_
  refine gxo_ref (a := 15) (c := 17) rfl g126 rfl rfl rfl rfl rfl ?_
  refine gx_ld (i := 3) (d := 0) (v := .inl 0) rfl (fun _ => rfl) l32_3 rfl rfl ?_
  refine ex_go (S := (49, l32, [.inl 0, gx_r 17, .inl 0, gx_r 17], t126, n, 0)) rfl (fun _ => rfl) rfl ?_
  refine gx_ag (v := .inl (σ 7)) (cb := fun c => Nat.beq c 0) rfl (fun _ => rfl) g126 rfl rfl k28 (by first | decide | omega) rfl ?_
  refine gx_ld (i := 4) (d := 0) (v := .inl (min (σ 7) (eat L (w 2 0) (σ 0) (σ 11)))) rfl (fun _ => rfl) hl32 rfl rfl ?_
  refine gx_isub rfl (by first | decide | omega) (by first | decide | omega) rfl ?_
  refine gx_ap rfl (fun _ => rfl) g126 rfl rfl rfl (show 0 < 2 from by omega) rfl (gx_full (by first | decide | omega)) rfl (fun t133 g133 k133 e133 => ?_)
  have k34 : ai_hv t133 15 0 = some (.inl (σ 0)) := (e133 15 0 (by first | decide | omega)).trans k27
  have k35 : ai_hv t133 19 0 = some (.inl (σ 11)) := (e133 19 0 (by first | decide | omega)).trans k29
  have k36 : ai_hv t133 272 5 = some (.inl (w 0 4)) := (e133 272 5 (by first | decide | omega)).trans k30
  have k37 : ai_hv t133 20 0 = some (.inl 0) := (e133 20 0 (by first | decide | omega)).trans k31
  refine gx_ld (i := 2) (d := 0) (v := .inl e) rfl (fun _ => rfl) l32_2 rfl rfl ?_
  refine gx_ld (i := 4) (d := 0) (v := .inl (min (σ 7) (eat L (w 2 0) (σ 0) (σ 11)))) rfl (fun _ => rfl) hl32 rfl rfl ?_
  refine ex_iadd rfl (by first | decide | omega) rfl ?_
  refine gx_sto (i := 2) (d := 0) rfl (fun _ => rfl) rfl rfl (fun l38 hl38 ml38 => ?_)
  have l38_0 : en_ld l38 0 = some (gx_r 15) := ml38 0 _ l32_0 rfl
  have l38_1 : en_ld l38 1 = some (gx_r 257) := ml38 1 _ l32_1 rfl
  have l38_3 : en_ld l38 3 = some (.inl 0) := ml38 3 _ l32_3 rfl
  have l38_4 : en_ld l38 4 = some (.inl (min (σ 7) (eat L (w 2 0) (σ 0) (σ 11)))) := ml38 4 _ hl32 rfl
  refine gx_ld (i := 0) (d := 2) (v := gx_r 15) rfl (fun _ => rfl) l38_0 rfl rfl ?_
  refine gxo_ref (a := 15) (c := 19) rfl g133 rfl rfl rfl rfl rfl ?_
  refine gx_ld (i := 3) (d := 0) (v := .inl 0) rfl (fun _ => rfl) l38_3 rfl rfl ?_
  refine gx_ag (v := .inl (σ 11)) (cb := fun c => Nat.beq c 2 || Nat.beq c 1) rfl (fun _ => rfl) g133 rfl rfl k35 (by first | decide | omega) rfl ?_
  by_cases hc39 : σ 11 = 0
  · refine gx_1t (c := .eq) rfl (by first | decide | omega) hc39 rfl ?_
    refine gx_incS (i := 3) (a := 0) (x := 1) rfl (fun _ => rfl) l38_3 (by first | decide | omega) rfl (fun l40 hl40 ml40 => ?_)
    have l40_0 : en_ld l40 0 = some (gx_r 15) := ml40 0 _ l38_0 rfl
    have l40_1 : en_ld l40 1 = some (gx_r 257) := ml40 1 _ l38_1 rfl
    have l40_4 : en_ld l40 4 = some (.inl (min (σ 7) (eat L (w 2 0) (σ 0) (σ 11)))) := ml40 4 _ l38_4 rfl
    have l40_2 : en_ld l40 2 = some (.inl (e + (min (σ 7) (eat L (w 2 0) (σ 0) (σ 11))))) := ml40 2 _ hl38 rfl
    refine ex_go (S := (4, l40, [], t133, n, 0)) rfl (fun _ => rfl) rfl ?_
    have hm9 : meal w L σ 0 = min (σ 7) (eat L (w 2 0) (σ 0) (σ 11)) := by omega
    exact hQ _ t133 g133 (fun c i h => (e133 c i (by first | decide | omega)).trans ((e126 c i (by first | decide | omega)).trans (e121 c i (by first | decide | omega)))) k37 (by rw [hm9]; exact k133) (fun z => absurd z (by first | decide | omega)) l40_0 l40_1 (by rw [hm9]; exact l40_2) hl40
  · refine gx_1f (c := .eq) rfl (by first | decide | omega) hc39 rfl ?_
    refine gx_ld (i := 0) (d := 2) (v := gx_r 15) rfl (fun _ => rfl) l38_0 rfl rfl ?_
    refine gxo_ref (a := 15) (c := 21) rfl g133 rfl rfl rfl rfl rfl ?_
    refine gx_ld (i := 3) (d := 0) (v := .inl 0) rfl (fun _ => rfl) l38_3 rfl rfl ?_
    refine gx_ld (i := 1) (d := 2) (v := gx_r 257) rfl (fun _ => rfl) l38_1 rfl rfl ?_
    refine gxo_ref (a := 257) (c := 259) rfl g133 rfl rfl rfl rfl rfl ?_
    refine gx_ld (i := 0) (d := 2) (v := gx_r 15) rfl (fun _ => rfl) l38_0 rfl rfl ?_
    refine gxo_ref (a := 15) (c := 21) rfl g133 rfl rfl rfl rfl rfl ?_
    refine gx_ld (i := 3) (d := 0) (v := .inl 0) rfl (fun _ => rfl) l38_3 rfl rfl ?_
    have k41 := ((e133 21 0 (by first | decide | omega)).trans ((e126 21 0 (by first | decide | omega)).trans (e121 21 0 (by first | decide | omega)))).trans (k13 (by first | decide | omega))
    refine gx_ag (v := .inl (σ 13)) (cb := fun c => Nat.beq c 0) rfl (fun _ => rfl) g133 rfl rfl k41 (by first | decide | omega) rfl ?_
    have k42 := ((e133 259 (σ 13) (by first | decide | omega)).trans ((e126 259 (σ 13) (by first | decide | omega)).trans (e121 259 (σ 13) (by first | decide | omega)))).trans (hnx (σ 13) (by first | decide | omega)).2
    refine gx_ag (v := .inl (fto w (σ 13))) (cb := fun c => Nat.beq c 0) rfl (fun _ => rfl) g133 rfl rfl k42 (by first | decide | omega) rfl ?_
    refine gx_ap rfl (fun _ => rfl) g133 rfl rfl rfl (show 0 < 2 from by omega) rfl (ai_in_h (by first | decide | omega) (by first | decide | omega) (by first | decide | omega)) rfl (fun t143 g143 k143 e143 => ?_)
    have k44 : ai_hv t143 15 0 = some (.inl (σ 0)) := (e143 15 0 (by first | decide | omega)).trans k34
    have k45 : ai_hv t143 19 0 = some (.inl (σ 11)) := (e143 19 0 (by first | decide | omega)).trans k35
    have k46 : ai_hv t143 272 5 = some (.inl (w 0 4)) := (e143 272 5 (by first | decide | omega)).trans k36
    have k47 : ai_hv t143 20 0 = some (.inl 0) := (e143 20 0 (by first | decide | omega)).trans k37
    have k48 : ai_hv t143 17 0 = some (.inl ((σ 7) - (min (σ 7) (eat L (w 2 0) (σ 0) (σ 11))))) := (e143 17 0 (by first | decide | omega)).trans k133
    have k49 : ai_hv t143 259 (σ 13) = some (.inl (fto w (σ 13))) := (e143 259 (σ 13) (by first | decide | omega)).trans k42
    refine gx_incS (i := 3) (a := 0) (x := 1) rfl (fun _ => rfl) l38_3 (by first | decide | omega) rfl (fun l50 hl50 ml50 => ?_)
    have l50_0 : en_ld l50 0 = some (gx_r 15) := ml50 0 _ l38_0 rfl
    have l50_1 : en_ld l50 1 = some (gx_r 257) := ml50 1 _ l38_1 rfl
    have l50_4 : en_ld l50 4 = some (.inl (min (σ 7) (eat L (w 2 0) (σ 0) (σ 11)))) := ml50 4 _ l38_4 rfl
    have l50_2 : en_ld l50 2 = some (.inl (e + (min (σ 7) (eat L (w 2 0) (σ 0) (σ 11))))) := ml50 2 _ hl38 rfl
    refine ex_go (S := (4, l50, [], t143, n, 0)) rfl (fun _ => rfl) rfl ?_
    have hm9 : meal w L σ 0 = min (σ 7) (eat L (w 2 0) (σ 0) (σ 11)) := by omega
    exact hQ _ t143 g143 (fun c i h => (e143 c i (by first | decide | omega)).trans ((e133 c i (by first | decide | omega)).trans ((e126 c i (by first | decide | omega)).trans (e121 c i (by first | decide | omega))))) k47 (by rw [hm9]; exact k48) (fun _ => k143) l50_0 l50_1 (by rw [hm9]; exact l50_2) hl50
theorem sc_pc15_257_1 (d n : Nat) {t0 : en_H} {w : Nat → Nat → Nat} {L : List Nat} {σ : Nat → Nat} {e : Nat} {cl : en_L} {Q : en_O → Prop} (g0 : ai_HG ah_G t0) (hC : CW t0 257 w L) (hw : WS w) (hb : sbd σ) (hc : 1 < w 0 4) (k0 : ai_hv t0 15 0 = some (.inl (σ 0))) (k7 : ai_hv t0 17 1 = some (.inl (σ 8))) (k11 : ai_hv t0 19 1 = some (.inl (σ 12))) (k13 : σ 12 = 1 → ai_hv t0 21 1 = some (.inl (σ 14))) (he : e ≤ 1000) (l0 : en_ld cl 0 = some (gx_r 15)) (l1 : en_ld cl 1 = some (gx_r 257)) (l2 : en_ld cl 2 = some (.inl e)) (l3 : en_ld cl 3 = some (.inl 1)) (hQ : ∀ cl' t', ai_HG ah_G t' → (∀ c i, ¬ (c = 297 ∨ ((c = 17 ∨ c = 20 ∨ c = 21) ∧ i = 1)) → ai_hv t' c i = ai_hv t0 c i) → ai_hv t' 20 1 = some (.inl 0) → ai_hv t' 17 1 = some (.inl (σ 8 - meal w L σ 1)) → (σ 12 = 1 → ai_hv t' 21 1 = some (.inl (fto w (σ 14)))) → en_ld cl' 0 = some (gx_r 15) → en_ld cl' 1 = some (gx_r 257) → en_ld cl' 2 = some (.inl (e + meal w L σ 1)) → en_ld cl' 3 = some (.inl 2) → en_ex none (en_u (d + 3)) (en_code 164) (fun _ => false) (4, cl', [], t', n, 0) Q) : en_ex none (en_u (d + 3)) (en_code 164) (fun _ => false) (4, cl, [], t0, n, 0) Q := by
  obtain ⟨⟨-, -, -, -, -, kK⟩, hnx, hcr, -, -, kL, hs, hv, hr⟩ := hC
  obtain ⟨hb1, ⟨hb7, hb8⟩, ⟨hb11, hb12⟩, ⟨hb13, hb14⟩, ⟨hb15, hb16⟩, hb0, -, -⟩ := hb
  obtain ⟨-, km, -⟩ := hcr 1 hc
  obtain ⟨-, hm, -⟩ := hw.2.1 1 hc
  have hea := eat_le (L := L) (me := w 2 1) (ti := σ 0) (ou := σ 12)
  have hml : meal w L σ 1 = min (eat L (w 2 1) (σ 0) (σ 12)) (σ 8) := rfl
  have hK := hw.1.2.2.2.2.1
  have hfl := fto_lt (q := σ 14) hw (by first | decide | omega)
  refine gx_ld (i := 3) (d := 0) (v := .inl 1) rfl (fun _ => rfl) l3 rfl rfl ?_
  refine gx_ld (i := 1) (d := 2) (v := gx_r 257) rfl (fun _ => rfl) l1 rfl rfl ?_
  refine gxo_ref (a := 257) (c := 272) rfl g0 rfl rfl rfl rfl rfl ?_
  refine gxo_get (a := 272) rfl g0 rfl rfl kK rfl ?_
  refine gx_2f (c := .ge) rfl (by first | decide | omega) (by first | decide | omega) (show ¬ (w 0 4 ≤ 1) from by omega) rfl ?_
  refine gx_ld (i := 0) (d := 2) (v := gx_r 15) rfl (fun _ => rfl) l0 rfl rfl ?_
  refine gxo_ref (a := 15) (c := 20) rfl g0 rfl rfl rfl rfl rfl ?_
  refine gx_ld (i := 3) (d := 0) (v := .inl 1) rfl (fun _ => rfl) l3 rfl rfl ?_
  refine ex_go (S := (21, cl, [.inl 0, .inl 1, gx_r 20], t0, n, 0)) rfl (fun _ => rfl) rfl ?_
  refine gx_apv (d := 2) rfl (fun _ => rfl) g0 rfl rfl rfl (show 1 < 2 from by omega) rfl (ai_in_h (by first | decide | omega) (by first | decide | omega) (by first | decide | omega)) rfl (fun t121 g121 k121 e121 => ?_)
  have k22 : ai_hv t121 15 0 = some (.inl (σ 0)) := (e121 15 0 (by first | decide | omega)).trans k0
  have k23 : ai_hv t121 17 1 = some (.inl (σ 8)) := (e121 17 1 (by first | decide | omega)).trans k7
  have k24 : ai_hv t121 19 1 = some (.inl (σ 12)) := (e121 19 1 (by first | decide | omega)).trans k11
  have k25 : ai_hv t121 272 5 = some (.inl (w 0 4)) := (e121 272 5 (by first | decide | omega)).trans kK
  refine gx_ld (i := 0) (d := 2) (v := gx_r 15) rfl (fun _ => rfl) l0 rfl rfl ?_
  refine gxo_ref (a := 15) (c := 17) rfl g121 rfl rfl rfl rfl rfl ?_
  refine gx_ld (i := 3) (d := 0) (v := .inl 1) rfl (fun _ => rfl) l3 rfl rfl ?_
  refine gx_ag (v := .inl (σ 8)) (cb := fun c => Nat.beq c 0) rfl (fun _ => rfl) g121 rfl rfl k23 (by first | decide | omega) rfl ?_
  refine gx_ld (i := 0) (d := 2) (v := gx_r 15) rfl (fun _ => rfl) l0 rfl rfl ?_
  refine gx_ld (i := 1) (d := 2) (v := gx_r 257) rfl (fun _ => rfl) l1 rfl rfl ?_
  refine gx_ld (i := 3) (d := 0) (v := .inl 1) rfl (fun _ => rfl) l3 rfl rfl ?_
  refine gx_ld (i := 0) (d := 2) (v := gx_r 15) rfl (fun _ => rfl) l0 rfl rfl ?_
  refine gxo_get (a := 15) rfl g121 rfl rfl k22 rfl ?_
  obtain ⟨_, r126, t126, rfl, g126, e126⟩ := sc_app15_257 d n (L := L) (c := 1) (me := w 2 1) (ti := σ 0) (ou := σ 12) g121 (by decide) ((e121 275 1 (by first | decide | omega)).trans (km)) (by first | decide | omega) ((e121 19 1 (by first | decide | omega)).trans (k11)) (by first | decide | omega) hb0 (CLs_keep kL (e121 296 2 (by first | decide | omega)) (fun j => e121 298 j (by first | decide | omega))) hs hv hr
  refine gx_callo (a := 15) rfl rfl g121 rfl rfl rfl r126 rfl ?_
  have k27 : ai_hv t126 15 0 = some (.inl (σ 0)) := (e126 15 0 (by first | decide | omega)).trans k22
  have k28 : ai_hv t126 17 1 = some (.inl (σ 8)) := (e126 17 1 (by first | decide | omega)).trans k23
  have k29 : ai_hv t126 19 1 = some (.inl (σ 12)) := (e126 19 1 (by first | decide | omega)).trans k24
  have k30 : ai_hv t126 272 5 = some (.inl (w 0 4)) := (e126 272 5 (by first | decide | omega)).trans k25
  have k31 : ai_hv t126 20 1 = some (.inl 0) := (e126 20 1 (by first | decide | omega)).trans k121
  show en_ex _ _ _ _ (38, cl, [.inl (eat L (w 2 1) (σ 0) (σ 12)), .inl (σ 8)], t126, n, 0) _
  refine gx_inn rfl rfl rfl (zk_min (by first | decide | omega) (by first | decide | omega)) rfl rfl ?_
  refine gx_sto (i := 4) (d := 0) rfl (fun _ => rfl) rfl rfl (fun l32 hl32 ml32 => ?_)
  have l32_0 : en_ld l32 0 = some (gx_r 15) := ml32 0 _ l0 rfl
  have l32_1 : en_ld l32 1 = some (gx_r 257) := ml32 1 _ l1 rfl
  have l32_2 : en_ld l32 2 = some (.inl e) := ml32 2 _ l2 rfl
  have l32_3 : en_ld l32 3 = some (.inl 1) := ml32 3 _ l3 rfl
  refine gx_ld (i := 0) (d := 2) (v := gx_r 15) rfl (fun _ => rfl) l32_0 rfl rfl ?_
  refine gxo_ref (a := 15) (c := 17) rfl g126 rfl rfl rfl rfl rfl ?_
  refine gx_ld (i := 3) (d := 0) (v := .inl 1) rfl (fun _ => rfl) l32_3 rfl rfl ?_
  refine ex_go (S := (49, l32, [.inl 1, gx_r 17, .inl 1, gx_r 17], t126, n, 0)) rfl (fun _ => rfl) rfl ?_
  refine gx_ag (v := .inl (σ 8)) (cb := fun c => Nat.beq c 0) rfl (fun _ => rfl) g126 rfl rfl k28 (by first | decide | omega) rfl ?_
  refine gx_ld (i := 4) (d := 0) (v := .inl (min (σ 8) (eat L (w 2 1) (σ 0) (σ 12)))) rfl (fun _ => rfl) hl32 rfl rfl ?_
  refine gx_isub rfl (by first | decide | omega) (by first | decide | omega) rfl ?_
  refine gx_ap rfl (fun _ => rfl) g126 rfl rfl rfl (show 1 < 2 from by omega) rfl (gx_full (by first | decide | omega)) rfl (fun t133 g133 k133 e133 => ?_)
  have k34 : ai_hv t133 15 0 = some (.inl (σ 0)) := (e133 15 0 (by first | decide | omega)).trans k27
  have k35 : ai_hv t133 19 1 = some (.inl (σ 12)) := (e133 19 1 (by first | decide | omega)).trans k29
  have k36 : ai_hv t133 272 5 = some (.inl (w 0 4)) := (e133 272 5 (by first | decide | omega)).trans k30
  have k37 : ai_hv t133 20 1 = some (.inl 0) := (e133 20 1 (by first | decide | omega)).trans k31
  refine gx_ld (i := 2) (d := 0) (v := .inl e) rfl (fun _ => rfl) l32_2 rfl rfl ?_
  refine gx_ld (i := 4) (d := 0) (v := .inl (min (σ 8) (eat L (w 2 1) (σ 0) (σ 12)))) rfl (fun _ => rfl) hl32 rfl rfl ?_
  refine ex_iadd rfl (by first | decide | omega) rfl ?_
  refine gx_sto (i := 2) (d := 0) rfl (fun _ => rfl) rfl rfl (fun l38 hl38 ml38 => ?_)
  have l38_0 : en_ld l38 0 = some (gx_r 15) := ml38 0 _ l32_0 rfl
  have l38_1 : en_ld l38 1 = some (gx_r 257) := ml38 1 _ l32_1 rfl
  have l38_3 : en_ld l38 3 = some (.inl 1) := ml38 3 _ l32_3 rfl
  have l38_4 : en_ld l38 4 = some (.inl (min (σ 8) (eat L (w 2 1) (σ 0) (σ 12)))) := ml38 4 _ hl32 rfl
  refine gx_ld (i := 0) (d := 2) (v := gx_r 15) rfl (fun _ => rfl) l38_0 rfl rfl ?_
  refine gxo_ref (a := 15) (c := 19) rfl g133 rfl rfl rfl rfl rfl ?_
  refine gx_ld (i := 3) (d := 0) (v := .inl 1) rfl (fun _ => rfl) l38_3 rfl rfl ?_
  refine gx_ag (v := .inl (σ 12)) (cb := fun c => Nat.beq c 2 || Nat.beq c 1) rfl (fun _ => rfl) g133 rfl rfl k35 (by first | decide | omega) rfl ?_
  by_cases hc39 : σ 12 = 0
  · refine gx_1t (c := .eq) rfl (by first | decide | omega) hc39 rfl ?_
    refine gx_incS (i := 3) (a := 1) (x := 1) rfl (fun _ => rfl) l38_3 (by first | decide | omega) rfl (fun l40 hl40 ml40 => ?_)
    have l40_0 : en_ld l40 0 = some (gx_r 15) := ml40 0 _ l38_0 rfl
    have l40_1 : en_ld l40 1 = some (gx_r 257) := ml40 1 _ l38_1 rfl
    have l40_4 : en_ld l40 4 = some (.inl (min (σ 8) (eat L (w 2 1) (σ 0) (σ 12)))) := ml40 4 _ l38_4 rfl
    have l40_2 : en_ld l40 2 = some (.inl (e + (min (σ 8) (eat L (w 2 1) (σ 0) (σ 12))))) := ml40 2 _ hl38 rfl
    refine ex_go (S := (4, l40, [], t133, n, 0)) rfl (fun _ => rfl) rfl ?_
    have hm9 : meal w L σ 1 = min (σ 8) (eat L (w 2 1) (σ 0) (σ 12)) := by omega
    exact hQ _ t133 g133 (fun c i h => (e133 c i (by first | decide | omega)).trans ((e126 c i (by first | decide | omega)).trans (e121 c i (by first | decide | omega)))) k37 (by rw [hm9]; exact k133) (fun z => absurd z (by first | decide | omega)) l40_0 l40_1 (by rw [hm9]; exact l40_2) hl40
  · refine gx_1f (c := .eq) rfl (by first | decide | omega) hc39 rfl ?_
    refine gx_ld (i := 0) (d := 2) (v := gx_r 15) rfl (fun _ => rfl) l38_0 rfl rfl ?_
    refine gxo_ref (a := 15) (c := 21) rfl g133 rfl rfl rfl rfl rfl ?_
    refine gx_ld (i := 3) (d := 0) (v := .inl 1) rfl (fun _ => rfl) l38_3 rfl rfl ?_
    refine gx_ld (i := 1) (d := 2) (v := gx_r 257) rfl (fun _ => rfl) l38_1 rfl rfl ?_
    refine gxo_ref (a := 257) (c := 259) rfl g133 rfl rfl rfl rfl rfl ?_
    refine gx_ld (i := 0) (d := 2) (v := gx_r 15) rfl (fun _ => rfl) l38_0 rfl rfl ?_
    refine gxo_ref (a := 15) (c := 21) rfl g133 rfl rfl rfl rfl rfl ?_
    refine gx_ld (i := 3) (d := 0) (v := .inl 1) rfl (fun _ => rfl) l38_3 rfl rfl ?_
    have k41 := ((e133 21 1 (by first | decide | omega)).trans ((e126 21 1 (by first | decide | omega)).trans (e121 21 1 (by first | decide | omega)))).trans (k13 (by first | decide | omega))
    refine gx_ag (v := .inl (σ 14)) (cb := fun c => Nat.beq c 0) rfl (fun _ => rfl) g133 rfl rfl k41 (by first | decide | omega) rfl ?_
    have k42 := ((e133 259 (σ 14) (by first | decide | omega)).trans ((e126 259 (σ 14) (by first | decide | omega)).trans (e121 259 (σ 14) (by first | decide | omega)))).trans (hnx (σ 14) (by first | decide | omega)).2
    refine gx_ag (v := .inl (fto w (σ 14))) (cb := fun c => Nat.beq c 0) rfl (fun _ => rfl) g133 rfl rfl k42 (by first | decide | omega) rfl ?_
    refine gx_ap rfl (fun _ => rfl) g133 rfl rfl rfl (show 1 < 2 from by omega) rfl (ai_in_h (by first | decide | omega) (by first | decide | omega) (by first | decide | omega)) rfl (fun t143 g143 k143 e143 => ?_)
    have k44 : ai_hv t143 15 0 = some (.inl (σ 0)) := (e143 15 0 (by first | decide | omega)).trans k34
    have k45 : ai_hv t143 19 1 = some (.inl (σ 12)) := (e143 19 1 (by first | decide | omega)).trans k35
    have k46 : ai_hv t143 272 5 = some (.inl (w 0 4)) := (e143 272 5 (by first | decide | omega)).trans k36
    have k47 : ai_hv t143 20 1 = some (.inl 0) := (e143 20 1 (by first | decide | omega)).trans k37
    have k48 : ai_hv t143 17 1 = some (.inl ((σ 8) - (min (σ 8) (eat L (w 2 1) (σ 0) (σ 12))))) := (e143 17 1 (by first | decide | omega)).trans k133
    have k49 : ai_hv t143 259 (σ 14) = some (.inl (fto w (σ 14))) := (e143 259 (σ 14) (by first | decide | omega)).trans k42
    refine gx_incS (i := 3) (a := 1) (x := 1) rfl (fun _ => rfl) l38_3 (by first | decide | omega) rfl (fun l50 hl50 ml50 => ?_)
    have l50_0 : en_ld l50 0 = some (gx_r 15) := ml50 0 _ l38_0 rfl
    have l50_1 : en_ld l50 1 = some (gx_r 257) := ml50 1 _ l38_1 rfl
    have l50_4 : en_ld l50 4 = some (.inl (min (σ 8) (eat L (w 2 1) (σ 0) (σ 12)))) := ml50 4 _ l38_4 rfl
    have l50_2 : en_ld l50 2 = some (.inl (e + (min (σ 8) (eat L (w 2 1) (σ 0) (σ 12))))) := ml50 2 _ hl38 rfl
    refine ex_go (S := (4, l50, [], t143, n, 0)) rfl (fun _ => rfl) rfl ?_
    have hm9 : meal w L σ 1 = min (σ 8) (eat L (w 2 1) (σ 0) (σ 12)) := by omega
    exact hQ _ t143 g143 (fun c i h => (e143 c i (by first | decide | omega)).trans ((e133 c i (by first | decide | omega)).trans ((e126 c i (by first | decide | omega)).trans (e121 c i (by first | decide | omega))))) k47 (by rw [hm9]; exact k48) (fun _ => k143) l50_0 l50_1 (by rw [hm9]; exact l50_2) hl50
theorem sc_pt15_257 (d n : Nat) {tb : en_H} {w : Nat → Nat → Nat} {L : List Nat} {P : Nat → Nat} {e : Nat} {Q : en_O → Prop} (hC : CW tb 257 w L) (hw : WS w) (hP : ∀ i, i < 6 → P i ≤ 63) (hQ : ∀ cl t1, ai_HG ah_G t1 → (∀ c i, ¬ (c = 16 ∧ i < w 0 2) → ai_hv t1 c i = ai_hv tb c i) → (∀ i, i < w 0 2 → ai_hv t1 16 i = some (.inl (if i < w 0 2 then fto w (P i) else P i))) → en_ld cl 0 = some (gx_r 15) → en_ld cl 1 = some (gx_r 257) → en_ld cl 2 = some (.inl e) → en_ex none (en_u (d + 3)) (en_code 164) (fun _ => false) (127, cl, [], t1, n, 0) Q) : ∀ j k cl t0, k + j = w 0 2 → ai_HG ah_G t0 → (∀ c i, ¬ (c = 16 ∧ i < w 0 2) → ai_hv t0 c i = ai_hv tb c i) → (∀ i, i < w 0 2 → ai_hv t0 16 i = some (.inl (if i < k then fto w (P i) else P i))) → en_ld cl 0 = some (gx_r 15) → en_ld cl 1 = some (gx_r 257) → en_ld cl 2 = some (.inl e) → en_ld cl 3 = some (.inl k) → en_ex none (en_u (d + 3)) (en_code 164) (fun _ => false) (93, cl, [], t0, n, 0) Q := by
  have hT := hw.1.2.2.1
  intro j
  induction j with
  | zero =>
    intro k cl t0 hk g0 e0 i0 l0 l1 l2 l3
    have hk : k = w 0 2 := by omega
    have kT := (e0 260 5 (by first | decide | omega)).trans hC.1.2.2.2.1
    refine gx_ld (i := 3) (d := 0) (v := .inl k) rfl (fun _ => rfl) l3 rfl rfl ?_
    refine gx_ld (i := 1) (d := 2) (v := gx_r 257) rfl (fun _ => rfl) l1 rfl rfl ?_
    refine gxo_ref (a := 257) (c := 260) rfl g0 rfl rfl rfl rfl rfl ?_
    refine gxo_get (a := 260) rfl g0 rfl rfl kT rfl ?_
    refine gx_2t (c := .ge) rfl (by first | decide | omega) (by first | decide | omega) (show w 0 2 ≤ k from by omega) rfl ?_
    rw [hk] at i0
    exact hQ _ t0 g0 e0 i0 l0 l1 l2
  | succ j ih =>
    intro k cl t0 hk g0 e0 i0 l0 l1 l2 l3
    have kT := (e0 260 5 (by first | decide | omega)).trans hC.1.2.2.2.1
    have kp := i0 k (by first | decide | omega)
    rw [if_neg (by first | decide | omega)] at kp
    have hp := hP k (by first | decide | omega)
    have hfl := fto_lt (q := P k) hw (by first | decide | omega)
    have kn := (e0 259 (P k) (by first | decide | omega)).trans (hC.2.1 (P k) (by first | decide | omega)).2
    refine gx_ld (i := 3) (d := 0) (v := .inl k) rfl (fun _ => rfl) l3 rfl rfl ?_
    refine gx_ld (i := 1) (d := 2) (v := gx_r 257) rfl (fun _ => rfl) l1 rfl rfl ?_
    refine gxo_ref (a := 257) (c := 260) rfl g0 rfl rfl rfl rfl rfl ?_
    refine gxo_get (a := 260) rfl g0 rfl rfl kT rfl ?_
    refine gx_2f (c := .ge) rfl (by first | decide | omega) (by first | decide | omega) (show ¬ (w 0 2 ≤ k) from by omega) rfl ?_
    refine gx_ld (i := 0) (d := 2) (v := gx_r 15) rfl (fun _ => rfl) l0 rfl rfl ?_
    refine gxo_ref (a := 15) (c := 16) rfl g0 rfl rfl rfl rfl rfl ?_
    refine gx_ld (i := 3) (d := 0) (v := .inl k) rfl (fun _ => rfl) l3 rfl rfl ?_
    refine gx_ld (i := 1) (d := 2) (v := gx_r 257) rfl (fun _ => rfl) l1 rfl rfl ?_
    refine gxo_ref (a := 257) (c := 259) rfl g0 rfl rfl rfl rfl rfl ?_
    refine gx_ld (i := 0) (d := 2) (v := gx_r 15) rfl (fun _ => rfl) l0 rfl rfl ?_
    refine gxo_ref (a := 15) (c := 16) rfl g0 rfl rfl rfl rfl rfl ?_
    refine gx_ld (i := 3) (d := 0) (v := .inl k) rfl (fun _ => rfl) l3 rfl rfl ?_
    refine gx_ag (v := .inl (P k)) (cb := fun c => Nat.beq c 0) rfl (fun _ => rfl) g0 rfl rfl kp (by first | decide | omega) rfl ?_
    refine gx_ag (v := .inl (fto w (P k))) (cb := fun c => Nat.beq c 0) rfl (fun _ => rfl) g0 rfl rfl kn (by first | decide | omega) rfl ?_
    refine gx_ap rfl (fun _ => rfl) g0 rfl rfl rfl (show k < 6 from by omega) (gx_run1 (show k < 6 from by omega)) (ai_in_h (by first | decide | omega) (by first | decide | omega) (by first | decide | omega)) rfl (fun t121 g121 k121 e121 => ?_)
    have k22 : ai_hv t121 260 5 = some (.inl (w 0 2)) := (e121 260 5 (by first | decide | omega)).trans kT
    have k23 : ai_hv t121 259 (P k) = some (.inl (fto w (P k))) := (e121 259 (P k) (by first | decide | omega)).trans kn
    refine gx_incS (i := 3) (a := k) (x := 1) rfl (fun _ => rfl) l3 (by first | decide | omega) rfl (fun l24 hl24 ml24 => ?_)
    have l24_0 : en_ld l24 0 = some (gx_r 15) := ml24 0 _ l0 rfl
    have l24_1 : en_ld l24 1 = some (gx_r 257) := ml24 1 _ l1 rfl
    have l24_2 : en_ld l24 2 = some (.inl e) := ml24 2 _ l2 rfl
    refine ex_go (S := (93, l24, [], t121, n, 0)) rfl (fun _ => rfl) rfl ?_
    refine ih (k + 1) _ t121 (by first | decide | omega) g121 (fun c i h => (e121 c i (by first | decide | omega)).trans (e0 c i h)) (fun i hi => ?_) l24_0 l24_1 l24_2 hl24
    by_cases e9 : i = k
    · subst e9
      rw [if_pos (by first | decide | omega)]
      exact k121
    · refine (e121 16 i (by first | decide | omega)).trans ((i0 i hi).trans ?_)
      by_cases c9 : i < k
      · rw [if_pos c9, if_pos (by first | decide | omega)]
      · rw [if_neg c9, if_neg (by first | decide | omega)]
theorem sc_pass15_257 (d n : Nat) {t0 : en_H} {w : Nat → Nat → Nat} {L : List Nat} {σ : Nat → Nat} (g0 : ai_HG ah_G t0) (hC : CW t0 257 w L) (hw : WS w) (hb : sbd σ) (hS : SC t0 15 (w 0 2) (w 0 4) σ) : ∃ r, en_u (d + 4) 164 [gx_r 15, gx_r 257] t0 n = some r ∧ ∃ t', r = (some (.inl (eaten w L σ)), t', n, 0) ∧ ai_HG ah_G t' ∧ (∀ c i, ¬ (c = 297 ∨ c = 16 ∨ c = 17 ∨ c = 20 ∨ c = 21 ∨ (c = 15 ∧ i = 0)) → ai_hv t' c i = ai_hv t0 c i) ∧ SC t' 15 (w 0 2) (w 0 4) (stp w L σ) := by
  obtain ⟨q0, hpl, hcr⟩ := hS
  have kK := hC.1.2.2.2.2.2
  have hb9 := hb
  obtain ⟨hb1, ⟨hb7, hb8⟩, ⟨hb11, hb12⟩, ⟨hb13, hb14⟩, -, hb0, -, -⟩ := hb9
  have hm0 := meal_le (w := w) (L := L) (σ := σ) (c := 0)
  have hm1 := meal_le (w := w) (L := L) (σ := σ) (c := 1)
  have hT := hw.1.2.2.1
  have hK := hw.1.2.2.2.2.1
  rcases (show w 0 4 = 0 ∨ w 0 4 = 1 ∨ w 0 4 = 2 by omega) with hK9 | hK9 | hK9
  · refine en_u_ex (d := d + 3) rfl ?_
    show en_ex _ _ _ _ (0, [(0, gx_r 15), (1, gx_r 257)], [], t0, n, 0) _
    refine ex_go (S := (1, [(0, gx_r 15), (1, gx_r 257)], [.inl 0], t0, n, 0)) rfl (fun _ => rfl) rfl ?_
    refine ex_go (S := (2, [(2, .inl 0), (0, gx_r 15), (1, gx_r 257)], [], t0, n, 0)) rfl (fun _ => rfl) rfl ?_
    refine ex_go (S := (3, [(2, .inl 0), (0, gx_r 15), (1, gx_r 257)], [.inl 0], t0, n, 0)) rfl (fun _ => rfl) rfl ?_
    refine ex_go (S := (4, [(3, .inl 0), (2, .inl 0), (0, gx_r 15), (1, gx_r 257)], [], t0, n, 0)) rfl (fun _ => rfl) rfl ?_
    refine ex_go (S := (5, [(3, .inl 0), (2, .inl 0), (0, gx_r 15), (1, gx_r 257)], [.inl 0], t0, n, 0)) rfl (fun _ => rfl) rfl ?_
    refine ex_go (S := (6, [(3, .inl 0), (2, .inl 0), (0, gx_r 15), (1, gx_r 257)], [gx_r 257, .inl 0], t0, n, 0)) rfl (fun _ => rfl) rfl ?_
    refine gxo_ref (a := 257) (c := 272) rfl g0 rfl rfl rfl rfl rfl ?_
    have k21 := kK
    rw [hK9] at k21
    refine gxo_get (a := 272) rfl g0 rfl rfl k21 rfl ?_
    refine ex_go (S := (91, [(3, .inl 0), (2, .inl 0), (0, gx_r 15), (1, gx_r 257)], [], t0, n, 0)) rfl (fun _ => rfl) rfl ?_
    refine ex_go (S := (92, [(3, .inl 0), (2, .inl 0), (0, gx_r 15), (1, gx_r 257)], [.inl 0], t0, n, 0)) rfl (fun _ => rfl) rfl ?_
    refine ex_go (S := (93, [(3, .inl 0), (2, .inl 0), (0, gx_r 15), (1, gx_r 257)], [], t0, n, 0)) rfl (fun _ => rfl) rfl ?_
    refine sc_pt15_257 d n (tb := t0) (w := w) (L := L) (P := fun i => σ (1 + i)) (e := 0) hC hw hb1 (fun cl122 t122 g122 e122 i122 l1220 l1221 l1222 => ?_) (w 0 2) 0 _ _ (by first | decide | omega) g0 (fun _ _ _ => rfl) (fun i hi => ?_) rfl rfl rfl rfl
    · have k23 : ai_hv t122 15 0 = some (.inl (σ 0)) := (e122 15 0 (by first | decide | omega)).trans q0
      have k24 : ai_hv t122 272 5 = some (.inl 0) := (e122 272 5 (by first | decide | omega)).trans k21
      refine gx_ld (i := 0) (d := 2) (v := gx_r 15) rfl (fun _ => rfl) l1220 rfl rfl ?_
      refine ex_go (S := (129, cl122, [gx_r 15, gx_r 15], t122, n, 0)) rfl (fun _ => rfl) rfl ?_
      refine gxo_get (a := 15) rfl g122 rfl rfl k23 rfl ?_
      refine ex_go (S := (133, cl122, [.inl 1, .inl (σ 0), gx_r 15], t122, n, 0)) rfl (fun _ => rfl) rfl ?_
      have hw25 : en_wrap ((σ 0) + 1) < 4294967296 := wrap_lt
      refine gs_iaddx rfl rfl ?_
      refine gxo_put (a := 15) rfl g122 rfl rfl rfl (gx_full (by first | decide | omega)) rfl (fun t126 g126 k126 e126 => ?_)
      have k27 : ai_hv t126 272 5 = some (.inl 0) := (e126 272 5 (by first | decide | omega)).trans k24
      refine gx_ld (i := 2) (d := 0) (v := .inl 0) rfl (fun _ => rfl) l1222 rfl rfl ?_
      refine ex_ret (r := (some (.inl 0), t126, n, 0)) rfl (fun _ => rfl) ?_
      have he9 : eaten w L σ = 0 := by unfold eaten; rw [hK9]; rfl
      refine ⟨_, rfl, t126, by rw [he9], g126, (fun c i h => (e126 c i (by first | decide | omega)).trans (e122 c i (by first | decide | omega))), (by rw [stp_0]; exact k126), (fun i hi => ?_), fun c hc => ?_⟩
      · rw [stp_pl (show i < 6 by omega)]
        exact (e126 16 i (by first | decide | omega)).trans (i122 i hi)
      · exact absurd hc (by first | decide | omega)
    · rw [if_neg (Nat.not_lt_zero i)]
      exact hpl i hi
  · obtain ⟨x7_0, x9_0, x11_0, x15_0, x13_0⟩ := hcr 0 (by first | decide | omega)
    refine en_u_ex (d := d + 3) rfl ?_
    show en_ex _ _ _ _ (0, [(0, gx_r 15), (1, gx_r 257)], [], t0, n, 0) _
    refine ex_go (S := (1, [(0, gx_r 15), (1, gx_r 257)], [.inl 0], t0, n, 0)) rfl (fun _ => rfl) rfl ?_
    refine ex_go (S := (2, [(2, .inl 0), (0, gx_r 15), (1, gx_r 257)], [], t0, n, 0)) rfl (fun _ => rfl) rfl ?_
    refine ex_go (S := (3, [(2, .inl 0), (0, gx_r 15), (1, gx_r 257)], [.inl 0], t0, n, 0)) rfl (fun _ => rfl) rfl ?_
    refine ex_go (S := (4, [(3, .inl 0), (2, .inl 0), (0, gx_r 15), (1, gx_r 257)], [], t0, n, 0)) rfl (fun _ => rfl) rfl ?_
    refine sc_pc15_257_0 d n (σ := σ) (e := 0) g0 hC hw hb (by first | decide | omega) (q0) (x7_0) (x11_0) x13_0 (by first | decide | omega) rfl rfl rfl rfl (fun cl121 t121 g121 e121 a121 b121 c121 l1210 l1211 l1212 l1213 => ?_)
    have k22 : ai_hv t121 15 0 = some (.inl (σ 0)) := (e121 15 0 (by first | decide | omega)).trans q0
    refine gx_ld (i := 3) (d := 0) (v := .inl 1) rfl (fun _ => rfl) l1213 rfl rfl ?_
    refine gx_ld (i := 1) (d := 2) (v := gx_r 257) rfl (fun _ => rfl) l1211 rfl rfl ?_
    refine gxo_ref (a := 257) (c := 272) rfl g121 rfl rfl rfl rfl rfl ?_
    have k23 := (e121 272 5 (by first | decide | omega)).trans (kK)
    rw [hK9] at k23
    refine gxo_get (a := 272) rfl g121 rfl rfl k23 rfl ?_
    refine ex_go (S := (91, cl121, [], t121, n, 0)) rfl (fun _ => rfl) rfl ?_
    refine ex_go (S := (92, cl121, [.inl 0], t121, n, 0)) rfl (fun _ => rfl) rfl ?_
    refine gx_sto (i := 3) (d := 0) rfl (fun _ => rfl) rfl rfl (fun l24 hl24 ml24 => ?_)
    have l24_0 : en_ld l24 0 = some (gx_r 15) := ml24 0 _ l1210 rfl
    have l24_1 : en_ld l24 1 = some (gx_r 257) := ml24 1 _ l1211 rfl
    have l24_2 : en_ld l24 2 = some (.inl (0 + meal w L σ 0)) := ml24 2 _ l1212 rfl
    refine sc_pt15_257 d n (tb := t121) (w := w) (L := L) (P := fun i => σ (1 + i)) (e := 0 + meal w L σ 0) (CW_keep hC (fun c i h => e121 c i (by first | decide | omega))) hw hb1 (fun cl125 t125 g125 e125 i125 l1250 l1251 l1252 => ?_) (w 0 2) 0 _ _ (by first | decide | omega) g121 (fun _ _ _ => rfl) (fun i hi => ?_) l24_0 l24_1 l24_2 hl24
    · have k26 : ai_hv t125 15 0 = some (.inl (σ 0)) := (e125 15 0 (by first | decide | omega)).trans k22
      have k27 : ai_hv t125 272 5 = some (.inl 1) := (e125 272 5 (by first | decide | omega)).trans k23
      refine gx_ld (i := 0) (d := 2) (v := gx_r 15) rfl (fun _ => rfl) l1250 rfl rfl ?_
      refine ex_go (S := (129, cl125, [gx_r 15, gx_r 15], t125, n, 0)) rfl (fun _ => rfl) rfl ?_
      refine gxo_get (a := 15) rfl g125 rfl rfl k26 rfl ?_
      refine ex_go (S := (133, cl125, [.inl 1, .inl (σ 0), gx_r 15], t125, n, 0)) rfl (fun _ => rfl) rfl ?_
      have hw28 : en_wrap ((σ 0) + 1) < 4294967296 := wrap_lt
      refine gs_iaddx rfl rfl ?_
      refine gxo_put (a := 15) rfl g125 rfl rfl rfl (gx_full (by first | decide | omega)) rfl (fun t129 g129 k129 e129 => ?_)
      have k30 : ai_hv t129 272 5 = some (.inl 1) := (e129 272 5 (by first | decide | omega)).trans k27
      refine gx_ld (i := 2) (d := 0) (v := .inl (0 + meal w L σ 0)) rfl (fun _ => rfl) l1252 rfl rfl ?_
      refine ex_ret (r := (some (.inl (0 + meal w L σ 0)), t129, n, 0)) rfl (fun _ => rfl) ?_
      have he9 : eaten w L σ = 0 + meal w L σ 0 := by unfold eaten; rw [hK9]; rw [if_pos (by decide), if_neg (by decide)]; omega
      refine ⟨_, rfl, t129, by rw [he9], g129, (fun c i h => (e129 c i (by first | decide | omega)).trans ((e125 c i (by first | decide | omega)).trans (e121 c i (by first | decide | omega)))), (by rw [stp_0]; exact k129), (fun i hi => ?_), fun c hc => ?_⟩
      · rw [stp_pl (show i < 6 by omega)]
        exact (e129 16 i (by first | decide | omega)).trans (i125 i hi)
      · rcases (show c = 0 by omega) with rfl
        · refine ⟨?_, ?_, ?_, ?_, ?_⟩
          · rw [stp_bi (by decide), if_pos (by first | decide | omega)]; exact (e129 17 0 (by first | decide | omega)).trans ((e125 17 0 (by first | decide | omega)).trans (b121))
          · rw [stp_mid (by decide) (by decide)]; exact (e129 18 0 (by first | decide | omega)).trans ((e125 18 0 (by first | decide | omega)).trans ((e121 18 0 (by first | decide | omega)).trans (x9_0)))
          · rw [stp_mid (by decide) (by decide)]; exact (e129 19 0 (by first | decide | omega)).trans ((e125 19 0 (by first | decide | omega)).trans ((e121 19 0 (by first | decide | omega)).trans (x11_0)))
          · rw [stp_ha (by decide), if_pos (by first | decide | omega)]; exact (e129 20 0 (by first | decide | omega)).trans ((e125 20 0 (by first | decide | omega)).trans (a121))
          · intro z
            rw [stp_mid (by decide) (by decide)] at z
            rw [stp_sl (by decide), if_pos (by first | decide | omega), if_pos z]
            exact (e129 21 0 (by first | decide | omega)).trans ((e125 21 0 (by first | decide | omega)).trans (c121 z))
    · rw [if_neg (Nat.not_lt_zero i)]
      exact (e121 16 i (by first | decide | omega)).trans (hpl i hi)
  · obtain ⟨x7_0, x9_0, x11_0, x15_0, x13_0⟩ := hcr 0 (by first | decide | omega)
    obtain ⟨x7_1, x9_1, x11_1, x15_1, x13_1⟩ := hcr 1 (by first | decide | omega)
    refine en_u_ex (d := d + 3) rfl ?_
    show en_ex _ _ _ _ (0, [(0, gx_r 15), (1, gx_r 257)], [], t0, n, 0) _
    refine ex_go (S := (1, [(0, gx_r 15), (1, gx_r 257)], [.inl 0], t0, n, 0)) rfl (fun _ => rfl) rfl ?_
    refine ex_go (S := (2, [(2, .inl 0), (0, gx_r 15), (1, gx_r 257)], [], t0, n, 0)) rfl (fun _ => rfl) rfl ?_
    refine ex_go (S := (3, [(2, .inl 0), (0, gx_r 15), (1, gx_r 257)], [.inl 0], t0, n, 0)) rfl (fun _ => rfl) rfl ?_
    refine ex_go (S := (4, [(3, .inl 0), (2, .inl 0), (0, gx_r 15), (1, gx_r 257)], [], t0, n, 0)) rfl (fun _ => rfl) rfl ?_
    refine sc_pc15_257_0 d n (σ := σ) (e := 0) g0 hC hw hb (by first | decide | omega) (q0) (x7_0) (x11_0) x13_0 (by first | decide | omega) rfl rfl rfl rfl (fun cl121 t121 g121 e121 a121 b121 c121 l1210 l1211 l1212 l1213 => ?_)
    have k22 : ai_hv t121 15 0 = some (.inl (σ 0)) := (e121 15 0 (by first | decide | omega)).trans q0
    refine sc_pc15_257_1 d n (σ := σ) (e := 0 + meal w L σ 0) g121 (CW_keep hC (fun c i h => e121 c i (by first | decide | omega))) hw hb (by first | decide | omega) ((e121 15 0 (by first | decide | omega)).trans (q0)) ((e121 17 1 (by first | decide | omega)).trans (x7_1)) ((e121 19 1 (by first | decide | omega)).trans (x11_1)) (fun z => (e121 21 1 (by first | decide | omega)).trans (x13_1 z)) (by first | decide | omega) l1210 l1211 l1212 l1213 (fun cl123 t123 g123 e123 a123 b123 c123 l1230 l1231 l1232 l1233 => ?_)
    have k24 : ai_hv t123 15 0 = some (.inl (σ 0)) := (e123 15 0 (by first | decide | omega)).trans k22
    refine gx_ld (i := 3) (d := 0) (v := .inl 2) rfl (fun _ => rfl) l1233 rfl rfl ?_
    refine gx_ld (i := 1) (d := 2) (v := gx_r 257) rfl (fun _ => rfl) l1231 rfl rfl ?_
    refine gxo_ref (a := 257) (c := 272) rfl g123 rfl rfl rfl rfl rfl ?_
    have k25 := (e123 272 5 (by first | decide | omega)).trans ((e121 272 5 (by first | decide | omega)).trans (kK))
    rw [hK9] at k25
    refine gxo_get (a := 272) rfl g123 rfl rfl k25 rfl ?_
    refine ex_go (S := (91, cl123, [], t123, n, 0)) rfl (fun _ => rfl) rfl ?_
    refine ex_go (S := (92, cl123, [.inl 0], t123, n, 0)) rfl (fun _ => rfl) rfl ?_
    refine gx_sto (i := 3) (d := 0) rfl (fun _ => rfl) rfl rfl (fun l26 hl26 ml26 => ?_)
    have l26_0 : en_ld l26 0 = some (gx_r 15) := ml26 0 _ l1230 rfl
    have l26_1 : en_ld l26 1 = some (gx_r 257) := ml26 1 _ l1231 rfl
    have l26_2 : en_ld l26 2 = some (.inl ((0 + meal w L σ 0) + meal w L σ 1)) := ml26 2 _ l1232 rfl
    refine sc_pt15_257 d n (tb := t123) (w := w) (L := L) (P := fun i => σ (1 + i)) (e := (0 + meal w L σ 0) + meal w L σ 1) (CW_keep hC (fun c i h => (e123 c i (by first | decide | omega)).trans (e121 c i (by first | decide | omega)))) hw hb1 (fun cl127 t127 g127 e127 i127 l1270 l1271 l1272 => ?_) (w 0 2) 0 _ _ (by first | decide | omega) g123 (fun _ _ _ => rfl) (fun i hi => ?_) l26_0 l26_1 l26_2 hl26
    · have k28 : ai_hv t127 15 0 = some (.inl (σ 0)) := (e127 15 0 (by first | decide | omega)).trans k24
      have k29 : ai_hv t127 272 5 = some (.inl 2) := (e127 272 5 (by first | decide | omega)).trans k25
      refine gx_ld (i := 0) (d := 2) (v := gx_r 15) rfl (fun _ => rfl) l1270 rfl rfl ?_
      refine ex_go (S := (129, cl127, [gx_r 15, gx_r 15], t127, n, 0)) rfl (fun _ => rfl) rfl ?_
      refine gxo_get (a := 15) rfl g127 rfl rfl k28 rfl ?_
      refine ex_go (S := (133, cl127, [.inl 1, .inl (σ 0), gx_r 15], t127, n, 0)) rfl (fun _ => rfl) rfl ?_
      have hw30 : en_wrap ((σ 0) + 1) < 4294967296 := wrap_lt
      refine gs_iaddx rfl rfl ?_
      refine gxo_put (a := 15) rfl g127 rfl rfl rfl (gx_full (by first | decide | omega)) rfl (fun t131 g131 k131 e131 => ?_)
      have k32 : ai_hv t131 272 5 = some (.inl 2) := (e131 272 5 (by first | decide | omega)).trans k29
      refine gx_ld (i := 2) (d := 0) (v := .inl ((0 + meal w L σ 0) + meal w L σ 1)) rfl (fun _ => rfl) l1272 rfl rfl ?_
      refine ex_ret (r := (some (.inl ((0 + meal w L σ 0) + meal w L σ 1)), t131, n, 0)) rfl (fun _ => rfl) ?_
      have he9 : eaten w L σ = (0 + meal w L σ 0) + meal w L σ 1 := by unfold eaten; rw [hK9]; rw [if_pos (by decide), if_pos (by decide)]; omega
      refine ⟨_, rfl, t131, by rw [he9], g131, (fun c i h => (e131 c i (by first | decide | omega)).trans ((e127 c i (by first | decide | omega)).trans ((e123 c i (by first | decide | omega)).trans (e121 c i (by first | decide | omega))))), (by rw [stp_0]; exact k131), (fun i hi => ?_), fun c hc => ?_⟩
      · rw [stp_pl (show i < 6 by omega)]
        exact (e131 16 i (by first | decide | omega)).trans (i127 i hi)
      · rcases (show c = 0 ∨ c = 1 by omega) with rfl | rfl
        · refine ⟨?_, ?_, ?_, ?_, ?_⟩
          · rw [stp_bi (by decide), if_pos (by first | decide | omega)]; exact (e131 17 0 (by first | decide | omega)).trans ((e127 17 0 (by first | decide | omega)).trans ((e123 17 0 (by first | decide | omega)).trans (b121)))
          · rw [stp_mid (by decide) (by decide)]; exact (e131 18 0 (by first | decide | omega)).trans ((e127 18 0 (by first | decide | omega)).trans ((e123 18 0 (by first | decide | omega)).trans ((e121 18 0 (by first | decide | omega)).trans (x9_0))))
          · rw [stp_mid (by decide) (by decide)]; exact (e131 19 0 (by first | decide | omega)).trans ((e127 19 0 (by first | decide | omega)).trans ((e123 19 0 (by first | decide | omega)).trans ((e121 19 0 (by first | decide | omega)).trans (x11_0))))
          · rw [stp_ha (by decide), if_pos (by first | decide | omega)]; exact (e131 20 0 (by first | decide | omega)).trans ((e127 20 0 (by first | decide | omega)).trans ((e123 20 0 (by first | decide | omega)).trans (a121)))
          · intro z
            rw [stp_mid (by decide) (by decide)] at z
            rw [stp_sl (by decide), if_pos (by first | decide | omega), if_pos z]
            exact (e131 21 0 (by first | decide | omega)).trans ((e127 21 0 (by first | decide | omega)).trans ((e123 21 0 (by first | decide | omega)).trans (c121 z)))
        · refine ⟨?_, ?_, ?_, ?_, ?_⟩
          · rw [stp_bi (by decide), if_pos (by first | decide | omega)]; exact (e131 17 1 (by first | decide | omega)).trans ((e127 17 1 (by first | decide | omega)).trans (b123))
          · rw [stp_mid (by decide) (by decide)]; exact (e131 18 1 (by first | decide | omega)).trans ((e127 18 1 (by first | decide | omega)).trans ((e123 18 1 (by first | decide | omega)).trans ((e121 18 1 (by first | decide | omega)).trans (x9_1))))
          · rw [stp_mid (by decide) (by decide)]; exact (e131 19 1 (by first | decide | omega)).trans ((e127 19 1 (by first | decide | omega)).trans ((e123 19 1 (by first | decide | omega)).trans ((e121 19 1 (by first | decide | omega)).trans (x11_1))))
          · rw [stp_ha (by decide), if_pos (by first | decide | omega)]; exact (e131 20 1 (by first | decide | omega)).trans ((e127 20 1 (by first | decide | omega)).trans (a123))
          · intro z
            rw [stp_mid (by decide) (by decide)] at z
            rw [stp_sl (by decide), if_pos (by first | decide | omega), if_pos z]
            exact (e131 21 1 (by first | decide | omega)).trans ((e127 21 1 (by first | decide | omega)).trans (c123 z))
    · rw [if_neg (Nat.not_lt_zero i)]
      exact ((e123 16 i (by first | decide | omega)).trans (e121 16 i (by first | decide | omega))).trans (hpl i hi)
end SSB
