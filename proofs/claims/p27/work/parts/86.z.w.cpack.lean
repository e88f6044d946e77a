section SPX
variable {oc : Option (List en_V)} {f : en_F} {code : Nat → Option en_I} {stop : Nat → Bool} {P : en_O → Prop}
variable {pc nx : Nat} {ls : en_L} {st : List en_V} {t : en_H} {n sl : Nat}
theorem gxo_putr {i x1 x2 a : Nat} {v : en_V} {g : ai_g} {h : ai_h} (hc : code pc = some (.putfield i, nx, x1, x2)) (hG : ai_HG ah_G t) (hg : ah_G a = some g) (hk : ((!g.1) && (Nat.beq g.2.1 (x2 % 16) && en_fit (x2 / 16 % 4) v && Nat.blt x1 g.2.2.1)) = true) (hr : ai_run g.2.2.2 x1 = some h) (hb : ai_rh h v) (hp : stop nx = false) (hh : ∀ t' : en_H, ai_HG ah_G t' → ai_hv t' a x1 = some v → (∀ c j, ¬ (c = a ∧ j = x1) → ai_hv t' c j = ai_hv t c j) → en_ex oc f code stop (nx, ls, st, t', n, sl) P) : en_ex oc f code stop (pc, ls, v :: gx_r a :: st, t, n, sl) P := by
  obtain ⟨vs, h1, h2, -⟩ := hG a g hg
  rw [Bool.and_eq_true] at hk
  obtain ⟨hk1, hx⟩ := hk
  have hlt : x1 < vs.length := by
    rw [h2]
    rw [Bool.and_eq_true] at hx
    exact Nat.le_of_ble_eq_true hx.2
  have hv := ai_set_hv (v := v) h1 hlt
  have h4 := hh _ (ai_set_HG hG hg h1 hlt hr hb) ((hv a x1).trans (if_pos ⟨rfl, rfl⟩)) (fun c j hn => (hv c j).trans (if_neg hn))
  rw [gxo_mk hk1] at h1 h4
  refine ex_go (S := (nx, ls, st, en_set t a (.inr (g.2.1, en_upd vs x1 v)), n, sl)) hc (fun k => ?_) hp h4
  show (match en_get t a with
    | some (.inr q) => bif Nat.beq q.1 (x2 % 16) && en_fit (x2 / 16 % 4) v && Nat.blt x1 (en_len q.2) then k nx ls st (en_set t a (.inr (q.1, en_upd q.2 x1 v))) n sl else none
    | _ => none) = _
  rw [h1]
  dsimp only
  rw [en_len_eq, h2, hx]
  rfl
theorem refin_r {c : Nat} {l : List Nat} (h : c + 100 ∈ l) : ai_rh (.inr (.inr l)) (gx_r c) := ⟨c + 100, h, Or.inr (Or.inr (Or.inr (Or.inl ⟨c, rfl, rfl⟩)))⟩
theorem refin_w {w : Nat} {l : List Nat} (h : 1 ∈ l) (hw : w < 42) : ai_rh (.inr (.inr l)) (gx_w w) := ⟨1, h, Or.inr (Or.inl ⟨rfl, w, hw, rfl⟩)⟩
theorem frz_ge {c : Nat} (h : ai_frz c = true) : 305 ≤ c := by
  unfold ai_frz ai_fzl at h
  simp only [Bool.or_eq_true, Bool.and_eq_true] at h
  rcases h with ((h | h | h) | (h | h | h)) | h | h | h
  · have := Nat.eq_of_beq_eq_true h; omega
  · have := Nat.eq_of_beq_eq_true h; omega
  · have := Nat.eq_of_beq_eq_true h; omega
  · have := Nat.eq_of_beq_eq_true h; omega
  · have := Nat.eq_of_beq_eq_true h; omega
  · have := Nat.eq_of_beq_eq_true h; omega
  · have := Nat.le_of_ble_eq_true h.1; omega
  · have := Nat.eq_of_beq_eq_true h; omega
  · have := Nat.eq_of_beq_eq_true h; omega
/-- a law's codes in the class -/
noncomputable def CLs (t : en_H) (LC : Nat) (L : List Nat) : Prop := ai_hv t LC 2 = some (.inl L.length) ∧ ∀ j, j < L.length → ai_hv t (LC + 2) j = some (.inl ((L[j]?).getD 0))
noncomputable def cdf (k : Nat) : Nat := if k = 0 then 4294967287 else 1
/-- the laws' codes that the class's draft holds -/
noncomputable def CLw (t : en_H) (p : Nat) (S : Nat → Nat) (m N : Nat) (σ : Nat → Nat → Nat) : Prop := ∀ k, k < 3 → ∃ L, ((σ 9 k = 1 ∧ Ec S m N (sp_fh k) 0 0 (σ 24 k, 0) L) ∨ (σ 9 k = 0 ∧ L = [cdf k])) ∧ CLs t (p + 39 + 3 * k) L
theorem CLs_keep {t t' : en_H} {LC : Nat} {L : List Nat} (h : CLs t LC L) (e1 : ai_hv t' LC 2 = ai_hv t LC 2) (e2 : ∀ j, ai_hv t' (LC + 2) j = ai_hv t (LC + 2) j) : CLs t' LC L := ⟨e1.trans h.1, fun j hj => (e2 j).trans (h.2 j hj)⟩
theorem CLs_of {t t' : en_H} {LC : Nat} {L : List Nat} (h : cLs t t' LC 0 L) : CLs t' LC L := ⟨by have h9 := h.1; rw [Nat.zero_add] at h9; exact h9, fun j hj => by have h9 := h.2.2 j hj; rw [Nat.zero_add] at h9; exact h9⟩
theorem CLw_keep {t t' : en_H} {p : Nat} {S : Nat → Nat} {m N : Nat} {σ τ : Nat → Nat → Nat} (h : CLw t p S m N σ) (e : ∀ c i, p + 39 ≤ c → c ≤ p + 47 → ai_hv t' c i = ai_hv t c i) (e1 : ∀ l, τ 9 l = σ 9 l ∧ τ 24 l = σ 24 l) : CLw t' p S m N τ := fun k hk => by
  obtain ⟨L, h1, h2⟩ := h k hk
  refine ⟨L, ?_, CLs_keep h2 (e _ _ (by first | decide | omega) (by first | decide | omega)) (fun j => e _ _ (by first | decide | omega) (by first | decide | omega))⟩
  rw [(e1 k).1, (e1 k).2]
  exact h1
theorem CLw_up {t t' : en_H} {p k a : Nat} {S : Nat → Nat} {m N : Nat} {σ : Nat → Nat → Nat} {L : List Nat} (h : CLw t p S m N σ) (e : ∀ c i, p + 39 ≤ c → c ≤ p + 47 → c ≠ p + 39 + 3 * k → c ≠ p + 39 + 3 * k + 2 → ai_hv t' c i = ai_hv t c i) (h1 : Ec S m N (sp_fh k) 0 0 (a, 0) L) (h2 : CLs t' (p + 39 + 3 * k) L) : CLw t' p S m N (up (up σ 9 k 1) 24 k a) := fun l hl => by
  by_cases e9 : l = k
  · subst e9
    refine ⟨L, Or.inl ⟨upk_9, ?_⟩, h2⟩
    rw [upk_24]; exact h1
  · obtain ⟨L', q1, q2⟩ := h l hl
    refine ⟨L', ?_, CLs_keep q2 (e _ _ (by first | decide | omega) (by first | decide | omega) (by first | decide | omega) (by first | decide | omega)) (fun j => e _ _ (by first | decide | omega) (by first | decide | omega) (by first | decide | omega) (by first | decide | omega))⟩
    rw [upl_9 e9, upl_24 e9]
    exact q1
theorem CA_up9 {t t' : en_H} {p k v : Nat} {S : Nat → Nat} {m : Nat} {σ : Nat → Nat → Nat} (hk : k < 3) (h : CA t p S m σ) (hp : 8 ≤ p) (e : ∀ c i, ¬ (c = 7 ∧ i = 5 + k) → ai_hv t' c i = ai_hv t c i) (h1 : ai_hv t' 7 (5 + k) = some (.inl 1)) : CA t' p S m (up (up σ 9 k 1) 24 k v) := by
  obtain ⟨⟨k0, k1, k2, k3, k4, k5, k6, k7, k8, k9, k10, k11⟩, h1', h2, h3, h4, h5, h6, gcb0, gcb1, gcb2, gcb3, gcb4, gcb5, gcb6, gcb7, gcb8, gcb9, gcb10, gcb11, gcb12, gcb13⟩ := h
  refine ⟨⟨(e _ _ (by first | decide | omega)).trans k0, (e _ _ (by first | decide | omega)).trans k1, (e _ _ (by first | decide | omega)).trans k2, (e _ _ (by first | decide | omega)).trans k3, (e _ _ (by first | decide | omega)).trans k4, (e _ _ (by first | decide | omega)).trans k5, (e _ _ (by first | decide | omega)).trans k6, (e _ _ (by first | decide | omega)).trans k7, (e _ _ (by first | decide | omega)).trans k8, ?_, ?_, ?_⟩, fun i hi => ⟨(e _ _ (by first | decide | omega)).trans (h1' i hi).1, (e _ _ (by first | decide | omega)).trans (h1' i hi).2⟩, fun i hi => (e _ _ (by first | decide | omega)).trans (h2 i hi), fun i hi => (e _ _ (by first | decide | omega)).trans (h3 i hi), fun i hi => (e _ _ (by first | decide | omega)).trans (h4 i hi), fun i hi => (e _ _ (by first | decide | omega)).trans (h5 i hi), fun i hi => (e _ _ (by first | decide | omega)).trans (h6 i hi), fun i hi => (e _ _ (by first | decide | omega)).trans (gcb0 i hi), fun i hi => (e _ _ (by first | decide | omega)).trans (gcb1 i hi), fun i hi => (e _ _ (by first | decide | omega)).trans (gcb2 i hi), fun i hi => (e _ _ (by first | decide | omega)).trans (gcb3 i hi), fun i hi => (e _ _ (by first | decide | omega)).trans (gcb4 i hi), fun i hi => (e _ _ (by first | decide | omega)).trans (gcb5 i hi), fun i hi => (e _ _ (by first | decide | omega)).trans (gcb6 i hi), fun i hi => (e _ _ (by first | decide | omega)).trans (gcb7 i hi), fun i hi => (e _ _ (by first | decide | omega)).trans (gcb8 i hi), fun i hi => (e _ _ (by first | decide | omega)).trans (gcb9 i hi), fun i hi => (e _ _ (by first | decide | omega)).trans (gcb10 i hi), fun i hi => (e _ _ (by first | decide | omega)).trans (gcb11 i hi), (e _ _ (by first | decide | omega)).trans gcb12, fun i hi => (e _ _ (by first | decide | omega)).trans (gcb13 i hi)⟩
  all_goals rcases (show k = 0 ∨ k = 1 ∨ k = 2 by omega) with rfl | rfl | rfl
  all_goals first | exact h1 | exact (e _ _ (by first | decide | omega)).trans k9 | exact (e _ _ (by first | decide | omega)).trans k10 | exact (e _ _ (by first | decide | omega)).trans k11
theorem pc_lawLine191_0 (d n : Nat) {t0 : en_H} {a : Nat} {S : Nat → Nat} {m N : Nat} {σ : Nat → Nat → Nat} (s0 : cS t0 a 0) (hT : cT t0 S m N) (ha : a < N) (hP : ai_hv t0 7 1 = some (gx_r 191)) (hA : CA t0 191 S m σ) (h3 : W3 S m N σ) (h9 : σ 9 0 ≤ 1) : ∃ r, en_u (d + 39) 239 [gx_r 7, gx_w 20, gx_r 230, .inl (σ 9 0)] t0 n = some r ∧ ∃ t' a' f', r = (some (.inl 1), t', n, 0) ∧ cS t' a' f' ∧ cT t' S m N ∧ ai_hv t' 7 1 = some (gx_r 191) ∧ cV 191 t0 t' ∧ (∃ q, Ev S m N (sp_fh 0) 0 0 (fr S m (σ 9 0 ≠ 0) 3 (a, 0)) q ∧ (a', f') = fs S m N 59 q) ∧ a' ≤ N ∧ (f' = 0 → a < a' ∧ ∃ L, Ec S m N (sp_fh 0) 0 0 (a + 1, 0) L ∧ CLs t' 230 L) ∧ CA t' 191 S m σ ∧ ∀ c i, 230 ≤ c → c ≤ 238 → c ≠ 230 → c ≠ 232 → ai_hv t' c i = ai_hv t0 c i := by
  have b0 := s0.2.2.2
  have hN := hT.2.2.2.2.2.2.1
  refine en_u_ex (d := d + 38) rfl ?_
  show en_ex _ _ _ _ (0, [(0, gx_r 7), (1, gx_w 20), (2, gx_r 230), (3, .inl (σ 9 0))], [], t0, n, 0) _
  refine ex_go (S := (1, [(0, gx_r 7), (1, gx_w 20), (2, gx_r 230), (3, .inl (σ 9 0))], [.inl (σ 9 0)], t0, n, 0)) rfl (fun _ => rfl) rfl ?_
  by_cases hc1 : σ 9 0 = 0
  · refine gx_1t (c := .eq) rfl (by first | decide | omega) hc1 rfl ?_
    refine ex_go (S := (13, [(0, gx_r 7), (1, gx_w 20), (2, gx_r 230), (3, .inl (σ 9 0))], [gx_r 7], t0, n, 0)) rfl (fun _ => rfl) rfl ?_
    refine gxo_ref (a := 7) (c := 1) rfl s0.1 rfl rfl rfl rfl rfl ?_
    obtain ⟨_, r102, t102, a102, f102, rfl, s102, e102, q102⟩ := pc_goOn (d + 37) n (s0) hT (by first | decide | omega) 
    have b102 := s102.2.2.2
    refine gx_callo (a := 1) rfl rfl s0.1 rfl rfl rfl r102 rfl ?_
    have k3 : ai_hv t102 7 1 = some (gx_r 191) := (e102 7 1 (by first | decide | omega)).trans hP
    show en_ex _ _ _ _ (19, [(0, gx_r 7), (1, gx_w 20), (2, gx_r 230), (3, .inl (σ 9 0))], [], t102, n, 0) _
    have ya : (a102, f102) = fr S m (σ 9 0 ≠ 0) 3 (a, 0) := by
      rw [fr_yes (show ¬ σ 9 0 ≠ 0 by omega)]; exact Prod.ext (by show a102 = a + 1; omega) (by show f102 = 0; omega)
    refine ex_go (S := (20, [(0, gx_r 7), (1, gx_w 20), (2, gx_r 230), (3, .inl (σ 9 0))], [gx_r 7], t102, n, 0)) rfl (fun _ => rfl) rfl ?_
    refine ex_go (S := (21, [(0, gx_r 7), (1, gx_w 20), (2, gx_r 230), (3, .inl (σ 9 0))], [gx_r 230, gx_r 7], t102, n, 0)) rfl (fun _ => rfl) rfl ?_
    refine gxo_putr (a := 7) (h := .inr (.inr [0, 330, 333, 336, 396, 399, 402])) rfl s102.1 rfl rfl rfl (refin_r (by decide)) rfl (fun t104 g104 k104 e104 => ?_)
    have k5 : ai_hv t104 7 1 = some (gx_r 191) := (e104 7 1 (by first | decide | omega)).trans k3
    have s104 : cS t104 a102 f102 := ⟨g104, (e104 1 8 (by first | decide | omega)).trans s102.2.1, (e104 1 1 (by first | decide | omega)).trans s102.2.2.1, s102.2.2.2⟩
    refine ex_go (S := (25, [(0, gx_r 7), (1, gx_w 20), (2, gx_r 230), (3, .inl (σ 9 0))], [gx_r 7], t104, n, 0)) rfl (fun _ => rfl) rfl ?_
    refine ex_go (S := (26, [(0, gx_r 7), (1, gx_w 20), (2, gx_r 230), (3, .inl (σ 9 0))], [gx_w 20, gx_r 7], t104, n, 0)) rfl (fun _ => rfl) rfl ?_
    refine gxo_putr (a := 7) (h := .inr (.inr [0, 1])) rfl s104.1 rfl rfl rfl (refin_w (by decide) (by first | decide | omega)) rfl (fun t106 g106 k106 e106 => ?_)
    have k7 : ai_hv t106 7 1 = some (gx_r 191) := (e106 7 1 (by first | decide | omega)).trans k5
    have k8 : ai_hv t106 7 2 = some (gx_r 230) := (e106 7 2 (by first | decide | omega)).trans k104
    have s106 : cS t106 a102 f102 := ⟨g106, (e106 1 8 (by first | decide | omega)).trans s104.2.1, (e106 1 1 (by first | decide | omega)).trans s104.2.2.1, s104.2.2.2⟩
    refine ex_go (S := (30, [(0, gx_r 7), (1, gx_w 20), (2, gx_r 230), (3, .inl (σ 9 0))], [gx_r 7], t106, n, 0)) rfl (fun _ => rfl) rfl ?_
    refine gxo_get (a := 7) rfl s106.1 rfl rfl k8 rfl ?_
    obtain ⟨_, r109, t109, rfl, g109, e109, kl109⟩ := pc_lclear230 (d + 37) n s106.1
    refine gx_callo (a := 230) rfl rfl s106.1 rfl rfl rfl r109 rfl ?_
    have k10 : ai_hv t109 7 1 = some (gx_r 191) := (e109 7 1 (by first | decide | omega)).trans k7
    have k11 : ai_hv t109 7 2 = some (gx_r 230) := (e109 7 2 (by first | decide | omega)).trans k8
    have k12 : ai_hv t109 7 3 = some (gx_w 20) := (e109 7 3 (by first | decide | omega)).trans k106
    have s109 : cS t109 a102 f102 := ⟨g109, (e109 1 8 (by first | decide | omega)).trans s106.2.1, (e109 1 1 (by first | decide | omega)).trans s106.2.2.1, s106.2.2.2⟩
    show en_ex _ _ _ _ (36, [(0, gx_r 7), (1, gx_w 20), (2, gx_r 230), (3, .inl (σ 9 0))], [], t109, n, 0) _
    refine ex_go (S := (37, [(0, gx_r 7), (1, gx_w 20), (2, gx_r 230), (3, .inl (σ 9 0))], [gx_r 7], t109, n, 0)) rfl (fun _ => rfl) rfl ?_
    refine ex_go (S := (38, [(0, gx_r 7), (1, gx_w 20), (2, gx_r 230), (3, .inl (σ 9 0))], [.inl 0, gx_r 7], t109, n, 0)) rfl (fun _ => rfl) rfl ?_
    refine ex_go (S := (39, [(0, gx_r 7), (1, gx_w 20), (2, gx_r 230), (3, .inl (σ 9 0))], [.inl 0, .inl 0, gx_r 7], t109, n, 0)) rfl (fun _ => rfl) rfl ?_
    have hT14 := cT_keep (t' := t109) hT (fun c i h => (e109 c i (by first | decide | omega)).trans ((e106 c i (by first | decide | omega)).trans ((e104 c i (by first | decide | omega)).trans (e102 c i (by first | decide | omega)))))
    obtain ⟨_, r113, t113, a113, f113, rfl, s113, e113, w113, qN113, qA113, q113, qE113⟩ := pc_law0 (S := S) (m := m) (N := N) (fh := 7) (lw := 20) cLaw230 (by unfold cFh; omega) d n _ _ _ s109 hT14 (by first | decide | omega) k11 k12
    have b113 := s113.2.2.2
    refine gx_callo (a := 7) rfl rfl s109.1 rfl rfl rfl r113 rfl ?_
    have k15 : ai_hv t113 7 1 = some (gx_r 191) := (e113 7 1 (by first | decide | omega)).trans k10
    have k16 : ai_hv t113 7 2 = some (gx_r 230) := (e113 7 2 (by first | decide | omega)).trans k11
    have k17 : ai_hv t113 7 3 = some (gx_w 20) := (e113 7 3 (by first | decide | omega)).trans k12
    show en_ex _ _ _ _ (42, [(0, gx_r 7), (1, gx_w 20), (2, gx_r 230), (3, .inl (σ 9 0))], [], t113, n, 0) _
    refine ex_go (S := (43, [(0, gx_r 7), (1, gx_w 20), (2, gx_r 230), (3, .inl (σ 9 0))], [gx_r 7], t113, n, 0)) rfl (fun _ => rfl) rfl ?_
    refine gxo_ref (a := 7) (c := 1) rfl s113.1 rfl rfl rfl rfl rfl ?_
    refine ex_go (S := (48, [(0, gx_r 7), (1, gx_w 20), (2, gx_r 230), (3, .inl (σ 9 0))], [.inl 59, gx_r 1], t113, n, 0)) rfl (fun _ => rfl) rfl ?_
    have hT19 := cT_keep (t' := t113) hT (fun c i h => (e113 c i (by first | decide | omega)).trans ((e109 c i (by first | decide | omega)).trans ((e106 c i (by first | decide | omega)).trans ((e104 c i (by first | decide | omega)).trans (e102 c i (by first | decide | omega))))))
    obtain ⟨_, r118, t118, a118, f118, rfl, s118, e118, z118, q118⟩ := pc_takeSign (d + 36) n (s113) hT19 (by first | decide | omega) (w := 59) (by first | decide | omega)
    have b118 := s118.2.2.2
    have y118 := z118.trans (congrArg (fs S m N 59) (rfl : (a113, f113) = (a113, f113)))
    refine gx_callo (a := 1) rfl rfl s113.1 rfl rfl rfl r118 rfl ?_
    have k20 : ai_hv t118 7 1 = some (gx_r 191) := (e118 7 1 (by first | decide | omega)).trans k15
    have k21 : ai_hv t118 7 2 = some (gx_r 230) := (e118 7 2 (by first | decide | omega)).trans k16
    have k22 : ai_hv t118 7 3 = some (gx_w 20) := (e118 7 3 (by first | decide | omega)).trans k17
    show en_ex _ _ _ _ (51, [(0, gx_r 7), (1, gx_w 20), (2, gx_r 230), (3, .inl (σ 9 0))], [], t118, n, 0) _
    refine ex_go (S := (52, [(0, gx_r 7), (1, gx_w 20), (2, gx_r 230), (3, .inl (σ 9 0))], [.inl 1], t118, n, 0)) rfl (fun _ => rfl) rfl ?_
    refine ex_ret (r := (some (.inl 1), t118, n, 0)) rfl (fun _ => rfl) ?_
    have hT23 := cT_keep (t' := t118) hT (fun c i h => (e118 c i (by first | decide | omega)).trans ((e113 c i (by first | decide | omega)).trans ((e109 c i (by first | decide | omega)).trans ((e106 c i (by first | decide | omega)).trans ((e104 c i (by first | decide | omega)).trans (e102 c i (by first | decide | omega)))))))
    refine ⟨_, rfl, t118, a118, f118, rfl, s118, hT23, k20, (fun c i h => (e118 c i (by first | decide | omega)).trans ((e113 c i (by first | decide | omega)).trans ((e109 c i (by first | decide | omega)).trans ((e106 c i (by first | decide | omega)).trans ((e104 c i (by first | decide | omega)).trans (e102 c i (by first | decide | omega))))))), ⟨(a113, f113), ?_, z118⟩, by omega, fun z9 => ⟨by omega, ?_⟩, CA_keep (by first | decide | omega) hA (fun c i h h2 => (e118 c i (by first | decide | omega)).trans ((e113 c i (by first | decide | omega)).trans ((e109 c i (by first | decide | omega)).trans ((e106 c i (by first | decide | omega)).trans ((e104 c i (by first | decide | omega)).trans (e102 c i (by first | decide | omega))))))), fun c i l1 l2 l3 l4 => (e118 c i (by first | decide | omega)).trans ((e113 c i (by first | decide | omega)).trans ((e109 c i (by first | decide | omega)).trans ((e106 c i (by first | decide | omega)).trans ((e104 c i (by first | decide | omega)).trans (e102 c i (by first | decide | omega))))))⟩
    · rw [← ya]
      exact w113
    · obtain ⟨L9, c9, l9, m9⟩ := qE113 0 kl109 (Nat.zero_le _) (by first | decide | omega)
      exact ⟨L9, Ec_at c9 (by show a102 = a + 1; omega) (by first | rfl | (show f102 = 0; omega)), CLs_keep (CLs_of m9) (e118 230 2 (by first | decide | omega)) (fun j => e118 232 j (by first | decide | omega))⟩
  · refine gx_1f (c := .eq) rfl (by first | decide | omega) hc1 rfl ?_
    refine ex_go (S := (5, [(0, gx_r 7), (1, gx_w 20), (2, gx_r 230), (3, .inl (σ 9 0))], [gx_r 7], t0, n, 0)) rfl (fun _ => rfl) rfl ?_
    refine gxo_ref (a := 7) (c := 1) rfl s0.1 rfl rfl rfl rfl rfl ?_
    refine ex_go (S := (9, [(0, gx_r 7), (1, gx_w 20), (2, gx_r 230), (3, .inl (σ 9 0))], [.inl 3, gx_r 1], t0, n, 0)) rfl (fun _ => rfl) rfl ?_
    obtain ⟨_, r124, t124, a124, f124, rfl, s124, e124, q124⟩ := pc_wrong (d + 37) n (s0) hT (by first | decide | omega) (w := 3) (by first | decide | omega)
    have b124 := s124.2.2.2
    refine gx_callo (a := 1) rfl rfl s0.1 rfl rfl rfl r124 rfl ?_
    have k25 : ai_hv t124 7 1 = some (gx_r 191) := (e124 7 1 (by first | decide | omega)).trans hP
    show en_ex _ _ _ _ (12, [(0, gx_r 7), (1, gx_w 20), (2, gx_r 230), (3, .inl (σ 9 0))], [], t124, n, 0) _
    refine ex_go (S := (13, [(0, gx_r 7), (1, gx_w 20), (2, gx_r 230), (3, .inl (σ 9 0))], [gx_r 7], t124, n, 0)) rfl (fun _ => rfl) rfl ?_
    refine gxo_ref (a := 7) (c := 1) rfl s124.1 rfl rfl rfl rfl rfl ?_
    have hT27 := cT_keep (t' := t124) hT (fun c i h => e124 c i (by first | decide | omega))
    obtain ⟨_, r126, t126, a126, f126, rfl, s126, e126, q126⟩ := pc_goOn (d + 37) n (s124) hT27 (by first | decide | omega) 
    have b126 := s126.2.2.2
    refine gx_callo (a := 1) rfl rfl s124.1 rfl rfl rfl r126 rfl ?_
    have k28 : ai_hv t126 7 1 = some (gx_r 191) := (e126 7 1 (by first | decide | omega)).trans k25
    show en_ex _ _ _ _ (19, [(0, gx_r 7), (1, gx_w 20), (2, gx_r 230), (3, .inl (σ 9 0))], [], t126, n, 0) _
    have ya : (a126, f126) = fr S m (σ 9 0 ≠ 0) 3 (a, 0) := by
      rw [fr_w (show σ 9 0 ≠ 0 by omega)]; exact Prod.ext (by show a126 = a; omega) (by show f126 = 3 + 16 * sp_st S m a; omega)
    refine ex_go (S := (20, [(0, gx_r 7), (1, gx_w 20), (2, gx_r 230), (3, .inl (σ 9 0))], [gx_r 7], t126, n, 0)) rfl (fun _ => rfl) rfl ?_
    refine ex_go (S := (21, [(0, gx_r 7), (1, gx_w 20), (2, gx_r 230), (3, .inl (σ 9 0))], [gx_r 230, gx_r 7], t126, n, 0)) rfl (fun _ => rfl) rfl ?_
    refine gxo_putr (a := 7) (h := .inr (.inr [0, 330, 333, 336, 396, 399, 402])) rfl s126.1 rfl rfl rfl (refin_r (by decide)) rfl (fun t129 g129 k129 e129 => ?_)
    have k30 : ai_hv t129 7 1 = some (gx_r 191) := (e129 7 1 (by first | decide | omega)).trans k28
    have s129 : cS t129 a126 f126 := ⟨g129, (e129 1 8 (by first | decide | omega)).trans s126.2.1, (e129 1 1 (by first | decide | omega)).trans s126.2.2.1, s126.2.2.2⟩
    refine ex_go (S := (25, [(0, gx_r 7), (1, gx_w 20), (2, gx_r 230), (3, .inl (σ 9 0))], [gx_r 7], t129, n, 0)) rfl (fun _ => rfl) rfl ?_
    refine ex_go (S := (26, [(0, gx_r 7), (1, gx_w 20), (2, gx_r 230), (3, .inl (σ 9 0))], [gx_w 20, gx_r 7], t129, n, 0)) rfl (fun _ => rfl) rfl ?_
    refine gxo_putr (a := 7) (h := .inr (.inr [0, 1])) rfl s129.1 rfl rfl rfl (refin_w (by decide) (by first | decide | omega)) rfl (fun t131 g131 k131 e131 => ?_)
    have k32 : ai_hv t131 7 1 = some (gx_r 191) := (e131 7 1 (by first | decide | omega)).trans k30
    have k33 : ai_hv t131 7 2 = some (gx_r 230) := (e131 7 2 (by first | decide | omega)).trans k129
    have s131 : cS t131 a126 f126 := ⟨g131, (e131 1 8 (by first | decide | omega)).trans s129.2.1, (e131 1 1 (by first | decide | omega)).trans s129.2.2.1, s129.2.2.2⟩
    refine ex_go (S := (30, [(0, gx_r 7), (1, gx_w 20), (2, gx_r 230), (3, .inl (σ 9 0))], [gx_r 7], t131, n, 0)) rfl (fun _ => rfl) rfl ?_
    refine gxo_get (a := 7) rfl s131.1 rfl rfl k33 rfl ?_
    obtain ⟨_, r134, t134, rfl, g134, e134, kl134⟩ := pc_lclear230 (d + 37) n s131.1
    refine gx_callo (a := 230) rfl rfl s131.1 rfl rfl rfl r134 rfl ?_
    have k35 : ai_hv t134 7 1 = some (gx_r 191) := (e134 7 1 (by first | decide | omega)).trans k32
    have k36 : ai_hv t134 7 2 = some (gx_r 230) := (e134 7 2 (by first | decide | omega)).trans k33
    have k37 : ai_hv t134 7 3 = some (gx_w 20) := (e134 7 3 (by first | decide | omega)).trans k131
    have s134 : cS t134 a126 f126 := ⟨g134, (e134 1 8 (by first | decide | omega)).trans s131.2.1, (e134 1 1 (by first | decide | omega)).trans s131.2.2.1, s131.2.2.2⟩
    show en_ex _ _ _ _ (36, [(0, gx_r 7), (1, gx_w 20), (2, gx_r 230), (3, .inl (σ 9 0))], [], t134, n, 0) _
    refine ex_go (S := (37, [(0, gx_r 7), (1, gx_w 20), (2, gx_r 230), (3, .inl (σ 9 0))], [gx_r 7], t134, n, 0)) rfl (fun _ => rfl) rfl ?_
    refine ex_go (S := (38, [(0, gx_r 7), (1, gx_w 20), (2, gx_r 230), (3, .inl (σ 9 0))], [.inl 0, gx_r 7], t134, n, 0)) rfl (fun _ => rfl) rfl ?_
    refine ex_go (S := (39, [(0, gx_r 7), (1, gx_w 20), (2, gx_r 230), (3, .inl (σ 9 0))], [.inl 0, .inl 0, gx_r 7], t134, n, 0)) rfl (fun _ => rfl) rfl ?_
    have hT39 := cT_keep (t' := t134) hT (fun c i h => (e134 c i (by first | decide | omega)).trans ((e131 c i (by first | decide | omega)).trans ((e129 c i (by first | decide | omega)).trans ((e126 c i (by first | decide | omega)).trans (e124 c i (by first | decide | omega))))))
    obtain ⟨_, r138, t138, a138, f138, rfl, s138, e138, w138, qN138, qA138, q138, qE138⟩ := pc_law0 (S := S) (m := m) (N := N) (fh := 7) (lw := 20) cLaw230 (by unfold cFh; omega) d n _ _ _ s134 hT39 (by first | decide | omega) k36 k37
    have b138 := s138.2.2.2
    refine gx_callo (a := 7) rfl rfl s134.1 rfl rfl rfl r138 rfl ?_
    have k40 : ai_hv t138 7 1 = some (gx_r 191) := (e138 7 1 (by first | decide | omega)).trans k35
    have k41 : ai_hv t138 7 2 = some (gx_r 230) := (e138 7 2 (by first | decide | omega)).trans k36
    have k42 : ai_hv t138 7 3 = some (gx_w 20) := (e138 7 3 (by first | decide | omega)).trans k37
    show en_ex _ _ _ _ (42, [(0, gx_r 7), (1, gx_w 20), (2, gx_r 230), (3, .inl (σ 9 0))], [], t138, n, 0) _
    refine ex_go (S := (43, [(0, gx_r 7), (1, gx_w 20), (2, gx_r 230), (3, .inl (σ 9 0))], [gx_r 7], t138, n, 0)) rfl (fun _ => rfl) rfl ?_
    refine gxo_ref (a := 7) (c := 1) rfl s138.1 rfl rfl rfl rfl rfl ?_
    refine ex_go (S := (48, [(0, gx_r 7), (1, gx_w 20), (2, gx_r 230), (3, .inl (σ 9 0))], [.inl 59, gx_r 1], t138, n, 0)) rfl (fun _ => rfl) rfl ?_
    have hT44 := cT_keep (t' := t138) hT (fun c i h => (e138 c i (by first | decide | omega)).trans ((e134 c i (by first | decide | omega)).trans ((e131 c i (by first | decide | omega)).trans ((e129 c i (by first | decide | omega)).trans ((e126 c i (by first | decide | omega)).trans (e124 c i (by first | decide | omega)))))))
    obtain ⟨_, r143, t143, a143, f143, rfl, s143, e143, z143, q143⟩ := pc_takeSign (d + 36) n (s138) hT44 (by first | decide | omega) (w := 59) (by first | decide | omega)
    have b143 := s143.2.2.2
    have y143 := z143.trans (congrArg (fs S m N 59) (rfl : (a138, f138) = (a138, f138)))
    refine gx_callo (a := 1) rfl rfl s138.1 rfl rfl rfl r143 rfl ?_
    have k45 : ai_hv t143 7 1 = some (gx_r 191) := (e143 7 1 (by first | decide | omega)).trans k40
    have k46 : ai_hv t143 7 2 = some (gx_r 230) := (e143 7 2 (by first | decide | omega)).trans k41
    have k47 : ai_hv t143 7 3 = some (gx_w 20) := (e143 7 3 (by first | decide | omega)).trans k42
    show en_ex _ _ _ _ (51, [(0, gx_r 7), (1, gx_w 20), (2, gx_r 230), (3, .inl (σ 9 0))], [], t143, n, 0) _
    refine ex_go (S := (52, [(0, gx_r 7), (1, gx_w 20), (2, gx_r 230), (3, .inl (σ 9 0))], [.inl 1], t143, n, 0)) rfl (fun _ => rfl) rfl ?_
    refine ex_ret (r := (some (.inl 1), t143, n, 0)) rfl (fun _ => rfl) ?_
    have hT48 := cT_keep (t' := t143) hT (fun c i h => (e143 c i (by first | decide | omega)).trans ((e138 c i (by first | decide | omega)).trans ((e134 c i (by first | decide | omega)).trans ((e131 c i (by first | decide | omega)).trans ((e129 c i (by first | decide | omega)).trans ((e126 c i (by first | decide | omega)).trans (e124 c i (by first | decide | omega))))))))
    refine ⟨_, rfl, t143, a143, f143, rfl, s143, hT48, k45, (fun c i h => (e143 c i (by first | decide | omega)).trans ((e138 c i (by first | decide | omega)).trans ((e134 c i (by first | decide | omega)).trans ((e131 c i (by first | decide | omega)).trans ((e129 c i (by first | decide | omega)).trans ((e126 c i (by first | decide | omega)).trans (e124 c i (by first | decide | omega)))))))), ⟨(a138, f138), ?_, z143⟩, by omega, fun z9 => ⟨by omega, ?_⟩, CA_keep (by first | decide | omega) hA (fun c i h h2 => (e143 c i (by first | decide | omega)).trans ((e138 c i (by first | decide | omega)).trans ((e134 c i (by first | decide | omega)).trans ((e131 c i (by first | decide | omega)).trans ((e129 c i (by first | decide | omega)).trans ((e126 c i (by first | decide | omega)).trans (e124 c i (by first | decide | omega)))))))), fun c i l1 l2 l3 l4 => (e143 c i (by first | decide | omega)).trans ((e138 c i (by first | decide | omega)).trans ((e134 c i (by first | decide | omega)).trans ((e131 c i (by first | decide | omega)).trans ((e129 c i (by first | decide | omega)).trans ((e126 c i (by first | decide | omega)).trans (e124 c i (by first | decide | omega)))))))⟩
    · rw [← ya]
      exact w138
    · obtain ⟨L9, c9, l9, m9⟩ := qE138 0 kl134 (Nat.zero_le _) (by first | decide | omega)
      exact ⟨L9, Ec_at c9 (by show a126 = a + 1; omega) (by first | rfl | (show f126 = 0; omega)), CLs_keep (CLs_of m9) (e143 230 2 (by first | decide | omega)) (fun j => e143 232 j (by first | decide | omega))⟩
theorem pc_lawLine191_1 (d n : Nat) {t0 : en_H} {a : Nat} {S : Nat → Nat} {m N : Nat} {σ : Nat → Nat → Nat} (s0 : cS t0 a 0) (hT : cT t0 S m N) (ha : a < N) (hP : ai_hv t0 7 1 = some (gx_r 191)) (hA : CA t0 191 S m σ) (h3 : W3 S m N σ) (h9 : σ 9 1 ≤ 1) : ∃ r, en_u (d + 39) 239 [gx_r 7, gx_w 21, gx_r 233, .inl (σ 9 1)] t0 n = some r ∧ ∃ t' a' f', r = (some (.inl 1), t', n, 0) ∧ cS t' a' f' ∧ cT t' S m N ∧ ai_hv t' 7 1 = some (gx_r 191) ∧ cV 191 t0 t' ∧ (∃ q, Ev S m N (sp_fh 1) 0 0 (fr S m (σ 9 1 ≠ 0) 3 (a, 0)) q ∧ (a', f') = fs S m N 59 q) ∧ a' ≤ N ∧ (f' = 0 → a < a' ∧ ∃ L, Ec S m N (sp_fh 1) 0 0 (a + 1, 0) L ∧ CLs t' 233 L) ∧ CA t' 191 S m σ ∧ ∀ c i, 230 ≤ c → c ≤ 238 → c ≠ 233 → c ≠ 235 → ai_hv t' c i = ai_hv t0 c i := by
  have b0 := s0.2.2.2
  have hN := hT.2.2.2.2.2.2.1
  refine en_u_ex (d := d + 38) rfl ?_
  show en_ex _ _ _ _ (0, [(0, gx_r 7), (1, gx_w 21), (2, gx_r 233), (3, .inl (σ 9 1))], [], t0, n, 0) _
  refine ex_go (S := (1, [(0, gx_r 7), (1, gx_w 21), (2, gx_r 233), (3, .inl (σ 9 1))], [.inl (σ 9 1)], t0, n, 0)) rfl (fun _ => rfl) rfl ?_
  by_cases hc1 : σ 9 1 = 0
  · refine gx_1t (c := .eq) rfl (by first | decide | omega) hc1 rfl ?_
    refine ex_go (S := (13, [(0, gx_r 7), (1, gx_w 21), (2, gx_r 233), (3, .inl (σ 9 1))], [gx_r 7], t0, n, 0)) rfl (fun _ => rfl) rfl ?_
    refine gxo_ref (a := 7) (c := 1) rfl s0.1 rfl rfl rfl rfl rfl ?_
    obtain ⟨_, r102, t102, a102, f102, rfl, s102, e102, q102⟩ := pc_goOn (d + 37) n (s0) hT (by first | decide | omega) 
    have b102 := s102.2.2.2
    refine gx_callo (a := 1) rfl rfl s0.1 rfl rfl rfl r102 rfl ?_
    have k3 : ai_hv t102 7 1 = some (gx_r 191) := (e102 7 1 (by first | decide | omega)).trans hP
    show en_ex _ _ _ _ (19, [(0, gx_r 7), (1, gx_w 21), (2, gx_r 233), (3, .inl (σ 9 1))], [], t102, n, 0) _
    have ya : (a102, f102) = fr S m (σ 9 1 ≠ 0) 3 (a, 0) := by
      rw [fr_yes (show ¬ σ 9 1 ≠ 0 by omega)]; exact Prod.ext (by show a102 = a + 1; omega) (by show f102 = 0; omega)
    refine ex_go (S := (20, [(0, gx_r 7), (1, gx_w 21), (2, gx_r 233), (3, .inl (σ 9 1))], [gx_r 7], t102, n, 0)) rfl (fun _ => rfl) rfl ?_
    refine ex_go (S := (21, [(0, gx_r 7), (1, gx_w 21), (2, gx_r 233), (3, .inl (σ 9 1))], [gx_r 233, gx_r 7], t102, n, 0)) rfl (fun _ => rfl) rfl ?_
    refine gxo_putr (a := 7) (h := .inr (.inr [0, 330, 333, 336, 396, 399, 402])) rfl s102.1 rfl rfl rfl (refin_r (by decide)) rfl (fun t104 g104 k104 e104 => ?_)
    have k5 : ai_hv t104 7 1 = some (gx_r 191) := (e104 7 1 (by first | decide | omega)).trans k3
    have s104 : cS t104 a102 f102 := ⟨g104, (e104 1 8 (by first | decide | omega)).trans s102.2.1, (e104 1 1 (by first | decide | omega)).trans s102.2.2.1, s102.2.2.2⟩
    refine ex_go (S := (25, [(0, gx_r 7), (1, gx_w 21), (2, gx_r 233), (3, .inl (σ 9 1))], [gx_r 7], t104, n, 0)) rfl (fun _ => rfl) rfl ?_
    refine ex_go (S := (26, [(0, gx_r 7), (1, gx_w 21), (2, gx_r 233), (3, .inl (σ 9 1))], [gx_w 21, gx_r 7], t104, n, 0)) rfl (fun _ => rfl) rfl ?_
    refine gxo_putr (a := 7) (h := .inr (.inr [0, 1])) rfl s104.1 rfl rfl rfl (refin_w (by decide) (by first | decide | omega)) rfl (fun t106 g106 k106 e106 => ?_)
    have k7 : ai_hv t106 7 1 = some (gx_r 191) := (e106 7 1 (by first | decide | omega)).trans k5
    have k8 : ai_hv t106 7 2 = some (gx_r 233) := (e106 7 2 (by first | decide | omega)).trans k104
    have s106 : cS t106 a102 f102 := ⟨g106, (e106 1 8 (by first | decide | omega)).trans s104.2.1, (e106 1 1 (by first | decide | omega)).trans s104.2.2.1, s104.2.2.2⟩
    refine ex_go (S := (30, [(0, gx_r 7), (1, gx_w 21), (2, gx_r 233), (3, .inl (σ 9 1))], [gx_r 7], t106, n, 0)) rfl (fun _ => rfl) rfl ?_
    refine gxo_get (a := 7) rfl s106.1 rfl rfl k8 rfl ?_
    obtain ⟨_, r109, t109, rfl, g109, e109, kl109⟩ := pc_lclear233 (d + 37) n s106.1
    refine gx_callo (a := 233) rfl rfl s106.1 rfl rfl rfl r109 rfl ?_
    have k10 : ai_hv t109 7 1 = some (gx_r 191) := (e109 7 1 (by first | decide | omega)).trans k7
    have k11 : ai_hv t109 7 2 = some (gx_r 233) := (e109 7 2 (by first | decide | omega)).trans k8
    have k12 : ai_hv t109 7 3 = some (gx_w 21) := (e109 7 3 (by first | decide | omega)).trans k106
    have s109 : cS t109 a102 f102 := ⟨g109, (e109 1 8 (by first | decide | omega)).trans s106.2.1, (e109 1 1 (by first | decide | omega)).trans s106.2.2.1, s106.2.2.2⟩
    show en_ex _ _ _ _ (36, [(0, gx_r 7), (1, gx_w 21), (2, gx_r 233), (3, .inl (σ 9 1))], [], t109, n, 0) _
    refine ex_go (S := (37, [(0, gx_r 7), (1, gx_w 21), (2, gx_r 233), (3, .inl (σ 9 1))], [gx_r 7], t109, n, 0)) rfl (fun _ => rfl) rfl ?_
    refine ex_go (S := (38, [(0, gx_r 7), (1, gx_w 21), (2, gx_r 233), (3, .inl (σ 9 1))], [.inl 0, gx_r 7], t109, n, 0)) rfl (fun _ => rfl) rfl ?_
    refine ex_go (S := (39, [(0, gx_r 7), (1, gx_w 21), (2, gx_r 233), (3, .inl (σ 9 1))], [.inl 0, .inl 0, gx_r 7], t109, n, 0)) rfl (fun _ => rfl) rfl ?_
    have hT14 := cT_keep (t' := t109) hT (fun c i h => (e109 c i (by first | decide | omega)).trans ((e106 c i (by first | decide | omega)).trans ((e104 c i (by first | decide | omega)).trans (e102 c i (by first | decide | omega)))))
    obtain ⟨_, r113, t113, a113, f113, rfl, s113, e113, w113, qN113, qA113, q113, qE113⟩ := pc_law0 (S := S) (m := m) (N := N) (fh := 8) (lw := 21) cLaw233 (by unfold cFh; omega) d n _ _ _ s109 hT14 (by first | decide | omega) k11 k12
    have b113 := s113.2.2.2
    refine gx_callo (a := 7) rfl rfl s109.1 rfl rfl rfl r113 rfl ?_
    have k15 : ai_hv t113 7 1 = some (gx_r 191) := (e113 7 1 (by first | decide | omega)).trans k10
    have k16 : ai_hv t113 7 2 = some (gx_r 233) := (e113 7 2 (by first | decide | omega)).trans k11
    have k17 : ai_hv t113 7 3 = some (gx_w 21) := (e113 7 3 (by first | decide | omega)).trans k12
    show en_ex _ _ _ _ (42, [(0, gx_r 7), (1, gx_w 21), (2, gx_r 233), (3, .inl (σ 9 1))], [], t113, n, 0) _
    refine ex_go (S := (43, [(0, gx_r 7), (1, gx_w 21), (2, gx_r 233), (3, .inl (σ 9 1))], [gx_r 7], t113, n, 0)) rfl (fun _ => rfl) rfl ?_
    refine gxo_ref (a := 7) (c := 1) rfl s113.1 rfl rfl rfl rfl rfl ?_
    refine ex_go (S := (48, [(0, gx_r 7), (1, gx_w 21), (2, gx_r 233), (3, .inl (σ 9 1))], [.inl 59, gx_r 1], t113, n, 0)) rfl (fun _ => rfl) rfl ?_
    have hT19 := cT_keep (t' := t113) hT (fun c i h => (e113 c i (by first | decide | omega)).trans ((e109 c i (by first | decide | omega)).trans ((e106 c i (by first | decide | omega)).trans ((e104 c i (by first | decide | omega)).trans (e102 c i (by first | decide | omega))))))
    obtain ⟨_, r118, t118, a118, f118, rfl, s118, e118, z118, q118⟩ := pc_takeSign (d + 36) n (s113) hT19 (by first | decide | omega) (w := 59) (by first | decide | omega)
    have b118 := s118.2.2.2
    have y118 := z118.trans (congrArg (fs S m N 59) (rfl : (a113, f113) = (a113, f113)))
    refine gx_callo (a := 1) rfl rfl s113.1 rfl rfl rfl r118 rfl ?_
    have k20 : ai_hv t118 7 1 = some (gx_r 191) := (e118 7 1 (by first | decide | omega)).trans k15
    have k21 : ai_hv t118 7 2 = some (gx_r 233) := (e118 7 2 (by first | decide | omega)).trans k16
    have k22 : ai_hv t118 7 3 = some (gx_w 21) := (e118 7 3 (by first | decide | omega)).trans k17
    show en_ex _ _ _ _ (51, [(0, gx_r 7), (1, gx_w 21), (2, gx_r 233), (3, .inl (σ 9 1))], [], t118, n, 0) _
    refine ex_go (S := (52, [(0, gx_r 7), (1, gx_w 21), (2, gx_r 233), (3, .inl (σ 9 1))], [.inl 1], t118, n, 0)) rfl (fun _ => rfl) rfl ?_
    refine ex_ret (r := (some (.inl 1), t118, n, 0)) rfl (fun _ => rfl) ?_
    have hT23 := cT_keep (t' := t118) hT (fun c i h => (e118 c i (by first | decide | omega)).trans ((e113 c i (by first | decide | omega)).trans ((e109 c i (by first | decide | omega)).trans ((e106 c i (by first | decide | omega)).trans ((e104 c i (by first | decide | omega)).trans (e102 c i (by first | decide | omega)))))))
    refine ⟨_, rfl, t118, a118, f118, rfl, s118, hT23, k20, (fun c i h => (e118 c i (by first | decide | omega)).trans ((e113 c i (by first | decide | omega)).trans ((e109 c i (by first | decide | omega)).trans ((e106 c i (by first | decide | omega)).trans ((e104 c i (by first | decide | omega)).trans (e102 c i (by first | decide | omega))))))), ⟨(a113, f113), ?_, z118⟩, by omega, fun z9 => ⟨by omega, ?_⟩, CA_keep (by first | decide | omega) hA (fun c i h h2 => (e118 c i (by first | decide | omega)).trans ((e113 c i (by first | decide | omega)).trans ((e109 c i (by first | decide | omega)).trans ((e106 c i (by first | decide | omega)).trans ((e104 c i (by first | decide | omega)).trans (e102 c i (by first | decide | omega))))))), fun c i l1 l2 l3 l4 => (e118 c i (by first | decide | omega)).trans ((e113 c i (by first | decide | omega)).trans ((e109 c i (by first | decide | omega)).trans ((e106 c i (by first | decide | omega)).trans ((e104 c i (by first | decide | omega)).trans (e102 c i (by first | decide | omega))))))⟩
    · rw [← ya]
      exact w113
    · obtain ⟨L9, c9, l9, m9⟩ := qE113 0 kl109 (Nat.zero_le _) (by first | decide | omega)
      exact ⟨L9, Ec_at c9 (by show a102 = a + 1; omega) (by first | rfl | (show f102 = 0; omega)), CLs_keep (CLs_of m9) (e118 233 2 (by first | decide | omega)) (fun j => e118 235 j (by first | decide | omega))⟩
  · refine gx_1f (c := .eq) rfl (by first | decide | omega) hc1 rfl ?_
    refine ex_go (S := (5, [(0, gx_r 7), (1, gx_w 21), (2, gx_r 233), (3, .inl (σ 9 1))], [gx_r 7], t0, n, 0)) rfl (fun _ => rfl) rfl ?_
    refine gxo_ref (a := 7) (c := 1) rfl s0.1 rfl rfl rfl rfl rfl ?_
    refine ex_go (S := (9, [(0, gx_r 7), (1, gx_w 21), (2, gx_r 233), (3, .inl (σ 9 1))], [.inl 3, gx_r 1], t0, n, 0)) rfl (fun _ => rfl) rfl ?_
    obtain ⟨_, r124, t124, a124, f124, rfl, s124, e124, q124⟩ := pc_wrong (d + 37) n (s0) hT (by first | decide | omega) (w := 3) (by first | decide | omega)
    have b124 := s124.2.2.2
    refine gx_callo (a := 1) rfl rfl s0.1 rfl rfl rfl r124 rfl ?_
    have k25 : ai_hv t124 7 1 = some (gx_r 191) := (e124 7 1 (by first | decide | omega)).trans hP
    show en_ex _ _ _ _ (12, [(0, gx_r 7), (1, gx_w 21), (2, gx_r 233), (3, .inl (σ 9 1))], [], t124, n, 0) _
    refine ex_go (S := (13, [(0, gx_r 7), (1, gx_w 21), (2, gx_r 233), (3, .inl (σ 9 1))], [gx_r 7], t124, n, 0)) rfl (fun _ => rfl) rfl ?_
    refine gxo_ref (a := 7) (c := 1) rfl s124.1 rfl rfl rfl rfl rfl ?_
    have hT27 := cT_keep (t' := t124) hT (fun c i h => e124 c i (by first | decide | omega))
    obtain ⟨_, r126, t126, a126, f126, rfl, s126, e126, q126⟩ := pc_goOn (d + 37) n (s124) hT27 (by first | decide | omega) 
    have b126 := s126.2.2.2
    refine gx_callo (a := 1) rfl rfl s124.1 rfl rfl rfl r126 rfl ?_
    have k28 : ai_hv t126 7 1 = some (gx_r 191) := (e126 7 1 (by first | decide | omega)).trans k25
    show en_ex _ _ _ _ (19, [(0, gx_r 7), (1, gx_w 21), (2, gx_r 233), (3, .inl (σ 9 1))], [], t126, n, 0) _
    have ya : (a126, f126) = fr S m (σ 9 1 ≠ 0) 3 (a, 0) := by
      rw [fr_w (show σ 9 1 ≠ 0 by omega)]; exact Prod.ext (by show a126 = a; omega) (by show f126 = 3 + 16 * sp_st S m a; omega)
    refine ex_go (S := (20, [(0, gx_r 7), (1, gx_w 21), (2, gx_r 233), (3, .inl (σ 9 1))], [gx_r 7], t126, n, 0)) rfl (fun _ => rfl) rfl ?_
    refine ex_go (S := (21, [(0, gx_r 7), (1, gx_w 21), (2, gx_r 233), (3, .inl (σ 9 1))], [gx_r 233, gx_r 7], t126, n, 0)) rfl (fun _ => rfl) rfl ?_
    refine gxo_putr (a := 7) (h := .inr (.inr [0, 330, 333, 336, 396, 399, 402])) rfl s126.1 rfl rfl rfl (refin_r (by decide)) rfl (fun t129 g129 k129 e129 => ?_)
    have k30 : ai_hv t129 7 1 = some (gx_r 191) := (e129 7 1 (by first | decide | omega)).trans k28
    have s129 : cS t129 a126 f126 := ⟨g129, (e129 1 8 (by first | decide | omega)).trans s126.2.1, (e129 1 1 (by first | decide | omega)).trans s126.2.2.1, s126.2.2.2⟩
    refine ex_go (S := (25, [(0, gx_r 7), (1, gx_w 21), (2, gx_r 233), (3, .inl (σ 9 1))], [gx_r 7], t129, n, 0)) rfl (fun _ => rfl) rfl ?_
    refine ex_go (S := (26, [(0, gx_r 7), (1, gx_w 21), (2, gx_r 233), (3, .inl (σ 9 1))], [gx_w 21, gx_r 7], t129, n, 0)) rfl (fun _ => rfl) rfl ?_
    refine gxo_putr (a := 7) (h := .inr (.inr [0, 1])) rfl s129.1 rfl rfl rfl (refin_w (by decide) (by first | decide | omega)) rfl (fun t131 g131 k131 e131 => ?_)
    have k32 : ai_hv t131 7 1 = some (gx_r 191) := (e131 7 1 (by first | decide | omega)).trans k30
    have k33 : ai_hv t131 7 2 = some (gx_r 233) := (e131 7 2 (by first | decide | omega)).trans k129
    have s131 : cS t131 a126 f126 := ⟨g131, (e131 1 8 (by first | decide | omega)).trans s129.2.1, (e131 1 1 (by first | decide | omega)).trans s129.2.2.1, s129.2.2.2⟩
    refine ex_go (S := (30, [(0, gx_r 7), (1, gx_w 21), (2, gx_r 233), (3, .inl (σ 9 1))], [gx_r 7], t131, n, 0)) rfl (fun _ => rfl) rfl ?_
    refine gxo_get (a := 7) rfl s131.1 rfl rfl k33 rfl ?_
    obtain ⟨_, r134, t134, rfl, g134, e134, kl134⟩ := pc_lclear233 (d + 37) n s131.1
    refine gx_callo (a := 233) rfl rfl s131.1 rfl rfl rfl r134 rfl ?_
    have k35 : ai_hv t134 7 1 = some (gx_r 191) := (e134 7 1 (by first | decide | omega)).trans k32
    have k36 : ai_hv t134 7 2 = some (gx_r 233) := (e134 7 2 (by first | decide | omega)).trans k33
    have k37 : ai_hv t134 7 3 = some (gx_w 21) := (e134 7 3 (by first | decide | omega)).trans k131
    have s134 : cS t134 a126 f126 := ⟨g134, (e134 1 8 (by first | decide | omega)).trans s131.2.1, (e134 1 1 (by first | decide | omega)).trans s131.2.2.1, s131.2.2.2⟩
    show en_ex _ _ _ _ (36, [(0, gx_r 7), (1, gx_w 21), (2, gx_r 233), (3, .inl (σ 9 1))], [], t134, n, 0) _
    refine ex_go (S := (37, [(0, gx_r 7), (1, gx_w 21), (2, gx_r 233), (3, .inl (σ 9 1))], [gx_r 7], t134, n, 0)) rfl (fun _ => rfl) rfl ?_
    refine ex_go (S := (38, [(0, gx_r 7), (1, gx_w 21), (2, gx_r 233), (3, .inl (σ 9 1))], [.inl 0, gx_r 7], t134, n, 0)) rfl (fun _ => rfl) rfl ?_
    refine ex_go (S := (39, [(0, gx_r 7), (1, gx_w 21), (2, gx_r 233), (3, .inl (σ 9 1))], [.inl 0, .inl 0, gx_r 7], t134, n, 0)) rfl (fun _ => rfl) rfl ?_
    have hT39 := cT_keep (t' := t134) hT (fun c i h => (e134 c i (by first | decide | omega)).trans ((e131 c i (by first | decide | omega)).trans ((e129 c i (by first | decide | omega)).trans ((e126 c i (by first | decide | omega)).trans (e124 c i (by first | decide | omega))))))
    obtain ⟨_, r138, t138, a138, f138, rfl, s138, e138, w138, qN138, qA138, q138, qE138⟩ := pc_law0 (S := S) (m := m) (N := N) (fh := 8) (lw := 21) cLaw233 (by unfold cFh; omega) d n _ _ _ s134 hT39 (by first | decide | omega) k36 k37
    have b138 := s138.2.2.2
    refine gx_callo (a := 7) rfl rfl s134.1 rfl rfl rfl r138 rfl ?_
    have k40 : ai_hv t138 7 1 = some (gx_r 191) := (e138 7 1 (by first | decide | omega)).trans k35
    have k41 : ai_hv t138 7 2 = some (gx_r 233) := (e138 7 2 (by first | decide | omega)).trans k36
    have k42 : ai_hv t138 7 3 = some (gx_w 21) := (e138 7 3 (by first | decide | omega)).trans k37
    show en_ex _ _ _ _ (42, [(0, gx_r 7), (1, gx_w 21), (2, gx_r 233), (3, .inl (σ 9 1))], [], t138, n, 0) _
    refine ex_go (S := (43, [(0, gx_r 7), (1, gx_w 21), (2, gx_r 233), (3, .inl (σ 9 1))], [gx_r 7], t138, n, 0)) rfl (fun _ => rfl) rfl ?_
    refine gxo_ref (a := 7) (c := 1) rfl s138.1 rfl rfl rfl rfl rfl ?_
    refine ex_go (S := (48, [(0, gx_r 7), (1, gx_w 21), (2, gx_r 233), (3, .inl (σ 9 1))], [.inl 59, gx_r 1], t138, n, 0)) rfl (fun _ => rfl) rfl ?_
    have hT44 := cT_keep (t' := t138) hT (fun c i h => (e138 c i (by first | decide | omega)).trans ((e134 c i (by first | decide | omega)).trans ((e131 c i (by first | decide | omega)).trans ((e129 c i (by first | decide | omega)).trans ((e126 c i (by first | decide | omega)).trans (e124 c i (by first | decide | omega)))))))
    obtain ⟨_, r143, t143, a143, f143, rfl, s143, e143, z143, q143⟩ := pc_takeSign (d + 36) n (s138) hT44 (by first | decide | omega) (w := 59) (by first | decide | omega)
    have b143 := s143.2.2.2
    have y143 := z143.trans (congrArg (fs S m N 59) (rfl : (a138, f138) = (a138, f138)))
    refine gx_callo (a := 1) rfl rfl s138.1 rfl rfl rfl r143 rfl ?_
    have k45 : ai_hv t143 7 1 = some (gx_r 191) := (e143 7 1 (by first | decide | omega)).trans k40
    have k46 : ai_hv t143 7 2 = some (gx_r 233) := (e143 7 2 (by first | decide | omega)).trans k41
    have k47 : ai_hv t143 7 3 = some (gx_w 21) := (e143 7 3 (by first | decide | omega)).trans k42
    show en_ex _ _ _ _ (51, [(0, gx_r 7), (1, gx_w 21), (2, gx_r 233), (3, .inl (σ 9 1))], [], t143, n, 0) _
    refine ex_go (S := (52, [(0, gx_r 7), (1, gx_w 21), (2, gx_r 233), (3, .inl (σ 9 1))], [.inl 1], t143, n, 0)) rfl (fun _ => rfl) rfl ?_
    refine ex_ret (r := (some (.inl 1), t143, n, 0)) rfl (fun _ => rfl) ?_
    have hT48 := cT_keep (t' := t143) hT (fun c i h => (e143 c i (by first | decide | omega)).trans ((e138 c i (by first | decide | omega)).trans ((e134 c i (by first | decide | omega)).trans ((e131 c i (by first | decide | omega)).trans ((e129 c i (by first | decide | omega)).trans ((e126 c i (by first | decide | omega)).trans (e124 c i (by first | decide | omega))))))))
    refine ⟨_, rfl, t143, a143, f143, rfl, s143, hT48, k45, (fun c i h => (e143 c i (by first | decide | omega)).trans ((e138 c i (by first | decide | omega)).trans ((e134 c i (by first | decide | omega)).trans ((e131 c i (by first | decide | omega)).trans ((e129 c i (by first | decide | omega)).trans ((e126 c i (by first | decide | omega)).trans (e124 c i (by first | decide | omega)))))))), ⟨(a138, f138), ?_, z143⟩, by omega, fun z9 => ⟨by omega, ?_⟩, CA_keep (by first | decide | omega) hA (fun c i h h2 => (e143 c i (by first | decide | omega)).trans ((e138 c i (by first | decide | omega)).trans ((e134 c i (by first | decide | omega)).trans ((e131 c i (by first | decide | omega)).trans ((e129 c i (by first | decide | omega)).trans ((e126 c i (by first | decide | omega)).trans (e124 c i (by first | decide | omega)))))))), fun c i l1 l2 l3 l4 => (e143 c i (by first | decide | omega)).trans ((e138 c i (by first | decide | omega)).trans ((e134 c i (by first | decide | omega)).trans ((e131 c i (by first | decide | omega)).trans ((e129 c i (by first | decide | omega)).trans ((e126 c i (by first | decide | omega)).trans (e124 c i (by first | decide | omega)))))))⟩
    · rw [← ya]
      exact w138
    · obtain ⟨L9, c9, l9, m9⟩ := qE138 0 kl134 (Nat.zero_le _) (by first | decide | omega)
      exact ⟨L9, Ec_at c9 (by show a126 = a + 1; omega) (by first | rfl | (show f126 = 0; omega)), CLs_keep (CLs_of m9) (e143 233 2 (by first | decide | omega)) (fun j => e143 235 j (by first | decide | omega))⟩
theorem pc_lawLine191_2 (d n : Nat) {t0 : en_H} {a : Nat} {S : Nat → Nat} {m N : Nat} {σ : Nat → Nat → Nat} (s0 : cS t0 a 0) (hT : cT t0 S m N) (ha : a < N) (hP : ai_hv t0 7 1 = some (gx_r 191)) (hA : CA t0 191 S m σ) (h3 : W3 S m N σ) (h9 : σ 9 2 ≤ 1) : ∃ r, en_u (d + 39) 239 [gx_r 7, gx_w 22, gx_r 236, .inl (σ 9 2)] t0 n = some r ∧ ∃ t' a' f', r = (some (.inl 1), t', n, 0) ∧ cS t' a' f' ∧ cT t' S m N ∧ ai_hv t' 7 1 = some (gx_r 191) ∧ cV 191 t0 t' ∧ (∃ q, Ev S m N (sp_fh 2) 0 0 (fr S m (σ 9 2 ≠ 0) 3 (a, 0)) q ∧ (a', f') = fs S m N 59 q) ∧ a' ≤ N ∧ (f' = 0 → a < a' ∧ ∃ L, Ec S m N (sp_fh 2) 0 0 (a + 1, 0) L ∧ CLs t' 236 L) ∧ CA t' 191 S m σ ∧ ∀ c i, 230 ≤ c → c ≤ 238 → c ≠ 236 → c ≠ 238 → ai_hv t' c i = ai_hv t0 c i := by
  have b0 := s0.2.2.2
  have hN := hT.2.2.2.2.2.2.1
  refine en_u_ex (d := d + 38) rfl ?_
  show en_ex _ _ _ _ (0, [(0, gx_r 7), (1, gx_w 22), (2, gx_r 236), (3, .inl (σ 9 2))], [], t0, n, 0) _
  refine ex_go (S := (1, [(0, gx_r 7), (1, gx_w 22), (2, gx_r 236), (3, .inl (σ 9 2))], [.inl (σ 9 2)], t0, n, 0)) rfl (fun _ => rfl) rfl ?_
  by_cases hc1 : σ 9 2 = 0
  · refine gx_1t (c := .eq) rfl (by first | decide | omega) hc1 rfl ?_
    refine ex_go (S := (13, [(0, gx_r 7), (1, gx_w 22), (2, gx_r 236), (3, .inl (σ 9 2))], [gx_r 7], t0, n, 0)) rfl (fun _ => rfl) rfl ?_
    refine gxo_ref (a := 7) (c := 1) rfl s0.1 rfl rfl rfl rfl rfl ?_
    obtain ⟨_, r102, t102, a102, f102, rfl, s102, e102, q102⟩ := pc_goOn (d + 37) n (s0) hT (by first | decide | omega) 
    have b102 := s102.2.2.2
    refine gx_callo (a := 1) rfl rfl s0.1 rfl rfl rfl r102 rfl ?_
    have k3 : ai_hv t102 7 1 = some (gx_r 191) := (e102 7 1 (by first | decide | omega)).trans hP
    show en_ex _ _ _ _ (19, [(0, gx_r 7), (1, gx_w 22), (2, gx_r 236), (3, .inl (σ 9 2))], [], t102, n, 0) _
    have ya : (a102, f102) = fr S m (σ 9 2 ≠ 0) 3 (a, 0) := by
      rw [fr_yes (show ¬ σ 9 2 ≠ 0 by omega)]; exact Prod.ext (by show a102 = a + 1; omega) (by show f102 = 0; omega)
    refine ex_go (S := (20, [(0, gx_r 7), (1, gx_w 22), (2, gx_r 236), (3, .inl (σ 9 2))], [gx_r 7], t102, n, 0)) rfl (fun _ => rfl) rfl ?_
    refine ex_go (S := (21, [(0, gx_r 7), (1, gx_w 22), (2, gx_r 236), (3, .inl (σ 9 2))], [gx_r 236, gx_r 7], t102, n, 0)) rfl (fun _ => rfl) rfl ?_
    refine gxo_putr (a := 7) (h := .inr (.inr [0, 330, 333, 336, 396, 399, 402])) rfl s102.1 rfl rfl rfl (refin_r (by decide)) rfl (fun t104 g104 k104 e104 => ?_)
    have k5 : ai_hv t104 7 1 = some (gx_r 191) := (e104 7 1 (by first | decide | omega)).trans k3
    have s104 : cS t104 a102 f102 := ⟨g104, (e104 1 8 (by first | decide | omega)).trans s102.2.1, (e104 1 1 (by first | decide | omega)).trans s102.2.2.1, s102.2.2.2⟩
    refine ex_go (S := (25, [(0, gx_r 7), (1, gx_w 22), (2, gx_r 236), (3, .inl (σ 9 2))], [gx_r 7], t104, n, 0)) rfl (fun _ => rfl) rfl ?_
    refine ex_go (S := (26, [(0, gx_r 7), (1, gx_w 22), (2, gx_r 236), (3, .inl (σ 9 2))], [gx_w 22, gx_r 7], t104, n, 0)) rfl (fun _ => rfl) rfl ?_
    refine gxo_putr (a := 7) (h := .inr (.inr [0, 1])) rfl s104.1 rfl rfl rfl (refin_w (by decide) (by first | decide | omega)) rfl (fun t106 g106 k106 e106 => ?_)
    have k7 : ai_hv t106 7 1 = some (gx_r 191) := (e106 7 1 (by first | decide | omega)).trans k5
    have k8 : ai_hv t106 7 2 = some (gx_r 236) := (e106 7 2 (by first | decide | omega)).trans k104
    have s106 : cS t106 a102 f102 := ⟨g106, (e106 1 8 (by first | decide | omega)).trans s104.2.1, (e106 1 1 (by first | decide | omega)).trans s104.2.2.1, s104.2.2.2⟩
    refine ex_go (S := (30, [(0, gx_r 7), (1, gx_w 22), (2, gx_r 236), (3, .inl (σ 9 2))], [gx_r 7], t106, n, 0)) rfl (fun _ => rfl) rfl ?_
    refine gxo_get (a := 7) rfl s106.1 rfl rfl k8 rfl ?_
    obtain ⟨_, r109, t109, rfl, g109, e109, kl109⟩ := pc_lclear236 (d + 37) n s106.1
    refine gx_callo (a := 236) rfl rfl s106.1 rfl rfl rfl r109 rfl ?_
    have k10 : ai_hv t109 7 1 = some (gx_r 191) := (e109 7 1 (by first | decide | omega)).trans k7
    have k11 : ai_hv t109 7 2 = some (gx_r 236) := (e109 7 2 (by first | decide | omega)).trans k8
    have k12 : ai_hv t109 7 3 = some (gx_w 22) := (e109 7 3 (by first | decide | omega)).trans k106
    have s109 : cS t109 a102 f102 := ⟨g109, (e109 1 8 (by first | decide | omega)).trans s106.2.1, (e109 1 1 (by first | decide | omega)).trans s106.2.2.1, s106.2.2.2⟩
    show en_ex _ _ _ _ (36, [(0, gx_r 7), (1, gx_w 22), (2, gx_r 236), (3, .inl (σ 9 2))], [], t109, n, 0) _
    refine ex_go (S := (37, [(0, gx_r 7), (1, gx_w 22), (2, gx_r 236), (3, .inl (σ 9 2))], [gx_r 7], t109, n, 0)) rfl (fun _ => rfl) rfl ?_
    refine ex_go (S := (38, [(0, gx_r 7), (1, gx_w 22), (2, gx_r 236), (3, .inl (σ 9 2))], [.inl 0, gx_r 7], t109, n, 0)) rfl (fun _ => rfl) rfl ?_
    refine ex_go (S := (39, [(0, gx_r 7), (1, gx_w 22), (2, gx_r 236), (3, .inl (σ 9 2))], [.inl 0, .inl 0, gx_r 7], t109, n, 0)) rfl (fun _ => rfl) rfl ?_
    have hT14 := cT_keep (t' := t109) hT (fun c i h => (e109 c i (by first | decide | omega)).trans ((e106 c i (by first | decide | omega)).trans ((e104 c i (by first | decide | omega)).trans (e102 c i (by first | decide | omega)))))
    obtain ⟨_, r113, t113, a113, f113, rfl, s113, e113, w113, qN113, qA113, q113, qE113⟩ := pc_law0 (S := S) (m := m) (N := N) (fh := 2) (lw := 22) cLaw236 (by unfold cFh; omega) d n _ _ _ s109 hT14 (by first | decide | omega) k11 k12
    have b113 := s113.2.2.2
    refine gx_callo (a := 7) rfl rfl s109.1 rfl rfl rfl r113 rfl ?_
    have k15 : ai_hv t113 7 1 = some (gx_r 191) := (e113 7 1 (by first | decide | omega)).trans k10
    have k16 : ai_hv t113 7 2 = some (gx_r 236) := (e113 7 2 (by first | decide | omega)).trans k11
    have k17 : ai_hv t113 7 3 = some (gx_w 22) := (e113 7 3 (by first | decide | omega)).trans k12
    show en_ex _ _ _ _ (42, [(0, gx_r 7), (1, gx_w 22), (2, gx_r 236), (3, .inl (σ 9 2))], [], t113, n, 0) _
    refine ex_go (S := (43, [(0, gx_r 7), (1, gx_w 22), (2, gx_r 236), (3, .inl (σ 9 2))], [gx_r 7], t113, n, 0)) rfl (fun _ => rfl) rfl ?_
    refine gxo_ref (a := 7) (c := 1) rfl s113.1 rfl rfl rfl rfl rfl ?_
    refine ex_go (S := (48, [(0, gx_r 7), (1, gx_w 22), (2, gx_r 236), (3, .inl (σ 9 2))], [.inl 59, gx_r 1], t113, n, 0)) rfl (fun _ => rfl) rfl ?_
    have hT19 := cT_keep (t' := t113) hT (fun c i h => (e113 c i (by first | decide | omega)).trans ((e109 c i (by first | decide | omega)).trans ((e106 c i (by first | decide | omega)).trans ((e104 c i (by first | decide | omega)).trans (e102 c i (by first | decide | omega))))))
    obtain ⟨_, r118, t118, a118, f118, rfl, s118, e118, z118, q118⟩ := pc_takeSign (d + 36) n (s113) hT19 (by first | decide | omega) (w := 59) (by first | decide | omega)
    have b118 := s118.2.2.2
    have y118 := z118.trans (congrArg (fs S m N 59) (rfl : (a113, f113) = (a113, f113)))
    refine gx_callo (a := 1) rfl rfl s113.1 rfl rfl rfl r118 rfl ?_
    have k20 : ai_hv t118 7 1 = some (gx_r 191) := (e118 7 1 (by first | decide | omega)).trans k15
    have k21 : ai_hv t118 7 2 = some (gx_r 236) := (e118 7 2 (by first | decide | omega)).trans k16
    have k22 : ai_hv t118 7 3 = some (gx_w 22) := (e118 7 3 (by first | decide | omega)).trans k17
    show en_ex _ _ _ _ (51, [(0, gx_r 7), (1, gx_w 22), (2, gx_r 236), (3, .inl (σ 9 2))], [], t118, n, 0) _
    refine ex_go (S := (52, [(0, gx_r 7), (1, gx_w 22), (2, gx_r 236), (3, .inl (σ 9 2))], [.inl 1], t118, n, 0)) rfl (fun _ => rfl) rfl ?_
    refine ex_ret (r := (some (.inl 1), t118, n, 0)) rfl (fun _ => rfl) ?_
    have hT23 := cT_keep (t' := t118) hT (fun c i h => (e118 c i (by first | decide | omega)).trans ((e113 c i (by first | decide | omega)).trans ((e109 c i (by first | decide | omega)).trans ((e106 c i (by first | decide | omega)).trans ((e104 c i (by first | decide | omega)).trans (e102 c i (by first | decide | omega)))))))
    refine ⟨_, rfl, t118, a118, f118, rfl, s118, hT23, k20, (fun c i h => (e118 c i (by first | decide | omega)).trans ((e113 c i (by first | decide | omega)).trans ((e109 c i (by first | decide | omega)).trans ((e106 c i (by first | decide | omega)).trans ((e104 c i (by first | decide | omega)).trans (e102 c i (by first | decide | omega))))))), ⟨(a113, f113), ?_, z118⟩, by omega, fun z9 => ⟨by omega, ?_⟩, CA_keep (by first | decide | omega) hA (fun c i h h2 => (e118 c i (by first | decide | omega)).trans ((e113 c i (by first | decide | omega)).trans ((e109 c i (by first | decide | omega)).trans ((e106 c i (by first | decide | omega)).trans ((e104 c i (by first | decide | omega)).trans (e102 c i (by first | decide | omega))))))), fun c i l1 l2 l3 l4 => (e118 c i (by first | decide | omega)).trans ((e113 c i (by first | decide | omega)).trans ((e109 c i (by first | decide | omega)).trans ((e106 c i (by first | decide | omega)).trans ((e104 c i (by first | decide | omega)).trans (e102 c i (by first | decide | omega))))))⟩
    · rw [← ya]
      exact w113
    · obtain ⟨L9, c9, l9, m9⟩ := qE113 0 kl109 (Nat.zero_le _) (by first | decide | omega)
      exact ⟨L9, Ec_at c9 (by show a102 = a + 1; omega) (by first | rfl | (show f102 = 0; omega)), CLs_keep (CLs_of m9) (e118 236 2 (by first | decide | omega)) (fun j => e118 238 j (by first | decide | omega))⟩
  · refine gx_1f (c := .eq) rfl (by first | decide | omega) hc1 rfl ?_
    refine ex_go (S := (5, [(0, gx_r 7), (1, gx_w 22), (2, gx_r 236), (3, .inl (σ 9 2))], [gx_r 7], t0, n, 0)) rfl (fun _ => rfl) rfl ?_
    refine gxo_ref (a := 7) (c := 1) rfl s0.1 rfl rfl rfl rfl rfl ?_
    refine ex_go (S := (9, [(0, gx_r 7), (1, gx_w 22), (2, gx_r 236), (3, .inl (σ 9 2))], [.inl 3, gx_r 1], t0, n, 0)) rfl (fun _ => rfl) rfl ?_
    obtain ⟨_, r124, t124, a124, f124, rfl, s124, e124, q124⟩ := pc_wrong (d + 37) n (s0) hT (by first | decide | omega) (w := 3) (by first | decide | omega)
    have b124 := s124.2.2.2
    refine gx_callo (a := 1) rfl rfl s0.1 rfl rfl rfl r124 rfl ?_
    have k25 : ai_hv t124 7 1 = some (gx_r 191) := (e124 7 1 (by first | decide | omega)).trans hP
    show en_ex _ _ _ _ (12, [(0, gx_r 7), (1, gx_w 22), (2, gx_r 236), (3, .inl (σ 9 2))], [], t124, n, 0) _
    refine ex_go (S := (13, [(0, gx_r 7), (1, gx_w 22), (2, gx_r 236), (3, .inl (σ 9 2))], [gx_r 7], t124, n, 0)) rfl (fun _ => rfl) rfl ?_
    refine gxo_ref (a := 7) (c := 1) rfl s124.1 rfl rfl rfl rfl rfl ?_
    have hT27 := cT_keep (t' := t124) hT (fun c i h => e124 c i (by first | decide | omega))
    obtain ⟨_, r126, t126, a126, f126, rfl, s126, e126, q126⟩ := pc_goOn (d + 37) n (s124) hT27 (by first | decide | omega) 
    have b126 := s126.2.2.2
    refine gx_callo (a := 1) rfl rfl s124.1 rfl rfl rfl r126 rfl ?_
    have k28 : ai_hv t126 7 1 = some (gx_r 191) := (e126 7 1 (by first | decide | omega)).trans k25
    show en_ex _ _ _ _ (19, [(0, gx_r 7), (1, gx_w 22), (2, gx_r 236), (3, .inl (σ 9 2))], [], t126, n, 0) _
    have ya : (a126, f126) = fr S m (σ 9 2 ≠ 0) 3 (a, 0) := by
      rw [fr_w (show σ 9 2 ≠ 0 by omega)]; exact Prod.ext (by show a126 = a; omega) (by show f126 = 3 + 16 * sp_st S m a; omega)
    refine ex_go (S := (20, [(0, gx_r 7), (1, gx_w 22), (2, gx_r 236), (3, .inl (σ 9 2))], [gx_r 7], t126, n, 0)) rfl (fun _ => rfl) rfl ?_
    refine ex_go (S := (21, [(0, gx_r 7), (1, gx_w 22), (2, gx_r 236), (3, .inl (σ 9 2))], [gx_r 236, gx_r 7], t126, n, 0)) rfl (fun _ => rfl) rfl ?_
    refine gxo_putr (a := 7) (h := .inr (.inr [0, 330, 333, 336, 396, 399, 402])) rfl s126.1 rfl rfl rfl (refin_r (by decide)) rfl (fun t129 g129 k129 e129 => ?_)
    have k30 : ai_hv t129 7 1 = some (gx_r 191) := (e129 7 1 (by first | decide | omega)).trans k28
    have s129 : cS t129 a126 f126 := ⟨g129, (e129 1 8 (by first | decide | omega)).trans s126.2.1, (e129 1 1 (by first | decide | omega)).trans s126.2.2.1, s126.2.2.2⟩
    refine ex_go (S := (25, [(0, gx_r 7), (1, gx_w 22), (2, gx_r 236), (3, .inl (σ 9 2))], [gx_r 7], t129, n, 0)) rfl (fun _ => rfl) rfl ?_
    refine ex_go (S := (26, [(0, gx_r 7), (1, gx_w 22), (2, gx_r 236), (3, .inl (σ 9 2))], [gx_w 22, gx_r 7], t129, n, 0)) rfl (fun _ => rfl) rfl ?_
    refine gxo_putr (a := 7) (h := .inr (.inr [0, 1])) rfl s129.1 rfl rfl rfl (refin_w (by decide) (by first | decide | omega)) rfl (fun t131 g131 k131 e131 => ?_)
    have k32 : ai_hv t131 7 1 = some (gx_r 191) := (e131 7 1 (by first | decide | omega)).trans k30
    have k33 : ai_hv t131 7 2 = some (gx_r 236) := (e131 7 2 (by first | decide | omega)).trans k129
    have s131 : cS t131 a126 f126 := ⟨g131, (e131 1 8 (by first | decide | omega)).trans s129.2.1, (e131 1 1 (by first | decide | omega)).trans s129.2.2.1, s129.2.2.2⟩
    refine ex_go (S := (30, [(0, gx_r 7), (1, gx_w 22), (2, gx_r 236), (3, .inl (σ 9 2))], [gx_r 7], t131, n, 0)) rfl (fun _ => rfl) rfl ?_
    refine gxo_get (a := 7) rfl s131.1 rfl rfl k33 rfl ?_
    obtain ⟨_, r134, t134, rfl, g134, e134, kl134⟩ := pc_lclear236 (d + 37) n s131.1
    refine gx_callo (a := 236) rfl rfl s131.1 rfl rfl rfl r134 rfl ?_
    have k35 : ai_hv t134 7 1 = some (gx_r 191) := (e134 7 1 (by first | decide | omega)).trans k32
    have k36 : ai_hv t134 7 2 = some (gx_r 236) := (e134 7 2 (by first | decide | omega)).trans k33
    have k37 : ai_hv t134 7 3 = some (gx_w 22) := (e134 7 3 (by first | decide | omega)).trans k131
    have s134 : cS t134 a126 f126 := ⟨g134, (e134 1 8 (by first | decide | omega)).trans s131.2.1, (e134 1 1 (by first | decide | omega)).trans s131.2.2.1, s131.2.2.2⟩
    show en_ex _ _ _ _ (36, [(0, gx_r 7), (1, gx_w 22), (2, gx_r 236), (3, .inl (σ 9 2))], [], t134, n, 0) _
    refine ex_go (S := (37, [(0, gx_r 7), (1, gx_w 22), (2, gx_r 236), (3, .inl (σ 9 2))], [gx_r 7], t134, n, 0)) rfl (fun _ => rfl) rfl ?_
    refine ex_go (S := (38, [(0, gx_r 7), (1, gx_w 22), (2, gx_r 236), (3, .inl (σ 9 2))], [.inl 0, gx_r 7], t134, n, 0)) rfl (fun _ => rfl) rfl ?_
    refine ex_go (S := (39, [(0, gx_r 7), (1, gx_w 22), (2, gx_r 236), (3, .inl (σ 9 2))], [.inl 0, .inl 0, gx_r 7], t134, n, 0)) rfl (fun _ => rfl) rfl ?_
    have hT39 := cT_keep (t' := t134) hT (fun c i h => (e134 c i (by first | decide | omega)).trans ((e131 c i (by first | decide | omega)).trans ((e129 c i (by first | decide | omega)).trans ((e126 c i (by first | decide | omega)).trans (e124 c i (by first | decide | omega))))))
    obtain ⟨_, r138, t138, a138, f138, rfl, s138, e138, w138, qN138, qA138, q138, qE138⟩ := pc_law0 (S := S) (m := m) (N := N) (fh := 2) (lw := 22) cLaw236 (by unfold cFh; omega) d n _ _ _ s134 hT39 (by first | decide | omega) k36 k37
    have b138 := s138.2.2.2
    refine gx_callo (a := 7) rfl rfl s134.1 rfl rfl rfl r138 rfl ?_
    have k40 : ai_hv t138 7 1 = some (gx_r 191) := (e138 7 1 (by first | decide | omega)).trans k35
    have k41 : ai_hv t138 7 2 = some (gx_r 236) := (e138 7 2 (by first | decide | omega)).trans k36
    have k42 : ai_hv t138 7 3 = some (gx_w 22) := (e138 7 3 (by first | decide | omega)).trans k37
    show en_ex _ _ _ _ (42, [(0, gx_r 7), (1, gx_w 22), (2, gx_r 236), (3, .inl (σ 9 2))], [], t138, n, 0) _
    refine ex_go (S := (43, [(0, gx_r 7), (1, gx_w 22), (2, gx_r 236), (3, .inl (σ 9 2))], [gx_r 7], t138, n, 0)) rfl (fun _ => rfl) rfl ?_
    refine gxo_ref (a := 7) (c := 1) rfl s138.1 rfl rfl rfl rfl rfl ?_
    refine ex_go (S := (48, [(0, gx_r 7), (1, gx_w 22), (2, gx_r 236), (3, .inl (σ 9 2))], [.inl 59, gx_r 1], t138, n, 0)) rfl (fun _ => rfl) rfl ?_
    have hT44 := cT_keep (t' := t138) hT (fun c i h => (e138 c i (by first | decide | omega)).trans ((e134 c i (by first | decide | omega)).trans ((e131 c i (by first | decide | omega)).trans ((e129 c i (by first | decide | omega)).trans ((e126 c i (by first | decide | omega)).trans (e124 c i (by first | decide | omega)))))))
    obtain ⟨_, r143, t143, a143, f143, rfl, s143, e143, z143, q143⟩ := pc_takeSign (d + 36) n (s138) hT44 (by first | decide | omega) (w := 59) (by first | decide | omega)
    have b143 := s143.2.2.2
    have y143 := z143.trans (congrArg (fs S m N 59) (rfl : (a138, f138) = (a138, f138)))
    refine gx_callo (a := 1) rfl rfl s138.1 rfl rfl rfl r143 rfl ?_
    have k45 : ai_hv t143 7 1 = some (gx_r 191) := (e143 7 1 (by first | decide | omega)).trans k40
    have k46 : ai_hv t143 7 2 = some (gx_r 236) := (e143 7 2 (by first | decide | omega)).trans k41
    have k47 : ai_hv t143 7 3 = some (gx_w 22) := (e143 7 3 (by first | decide | omega)).trans k42
    show en_ex _ _ _ _ (51, [(0, gx_r 7), (1, gx_w 22), (2, gx_r 236), (3, .inl (σ 9 2))], [], t143, n, 0) _
    refine ex_go (S := (52, [(0, gx_r 7), (1, gx_w 22), (2, gx_r 236), (3, .inl (σ 9 2))], [.inl 1], t143, n, 0)) rfl (fun _ => rfl) rfl ?_
    refine ex_ret (r := (some (.inl 1), t143, n, 0)) rfl (fun _ => rfl) ?_
    have hT48 := cT_keep (t' := t143) hT (fun c i h => (e143 c i (by first | decide | omega)).trans ((e138 c i (by first | decide | omega)).trans ((e134 c i (by first | decide | omega)).trans ((e131 c i (by first | decide | omega)).trans ((e129 c i (by first | decide | omega)).trans ((e126 c i (by first | decide | omega)).trans (e124 c i (by first | decide | omega))))))))
    refine ⟨_, rfl, t143, a143, f143, rfl, s143, hT48, k45, (fun c i h => (e143 c i (by first | decide | omega)).trans ((e138 c i (by first | decide | omega)).trans ((e134 c i (by first | decide | omega)).trans ((e131 c i (by first | decide | omega)).trans ((e129 c i (by first | decide | omega)).trans ((e126 c i (by first | decide | omega)).trans (e124 c i (by first | decide | omega)))))))), ⟨(a138, f138), ?_, z143⟩, by omega, fun z9 => ⟨by omega, ?_⟩, CA_keep (by first | decide | omega) hA (fun c i h h2 => (e143 c i (by first | decide | omega)).trans ((e138 c i (by first | decide | omega)).trans ((e134 c i (by first | decide | omega)).trans ((e131 c i (by first | decide | omega)).trans ((e129 c i (by first | decide | omega)).trans ((e126 c i (by first | decide | omega)).trans (e124 c i (by first | decide | omega)))))))), fun c i l1 l2 l3 l4 => (e143 c i (by first | decide | omega)).trans ((e138 c i (by first | decide | omega)).trans ((e134 c i (by first | decide | omega)).trans ((e131 c i (by first | decide | omega)).trans ((e129 c i (by first | decide | omega)).trans ((e126 c i (by first | decide | omega)).trans (e124 c i (by first | decide | omega)))))))⟩
    · rw [← ya]
      exact w138
    · obtain ⟨L9, c9, l9, m9⟩ := qE138 0 kl134 (Nat.zero_le _) (by first | decide | omega)
      exact ⟨L9, Ec_at c9 (by show a126 = a + 1; omega) (by first | rfl | (show f126 = 0; omega)), CLs_keep (CLs_of m9) (e143 236 2 (by first | decide | omega)) (fun j => e143 238 j (by first | decide | omega))⟩
theorem pc_packLine191_0 (d n : Nat) {t0 : en_H} {a : Nat} {S : Nat → Nat} {m N : Nat} {σ : Nat → Nat → Nat} (s0 : cS t0 a 0) (hT : cT t0 S m N) (ha : a < N) (hP : ai_hv t0 7 1 = some (gx_r 191)) (hA : CA t0 191 S m σ) (h3 : W3 S m N σ) (hw2 : ∀ w, w < 42 → ¬ sp_wd S m N a w) (hC : CLw t0 191 S m N σ) (h9 : σ 9 0 ≤ 1 ∧ σ 9 1 ≤ 1 ∧ σ 9 2 ≤ 1) : ∃ r, en_u (d + 40) 179 [gx_r 7, .inr (.inr (.inl none))] t0 n = some r ∧ ∃ t' a' f', r = (none, t', n, 0) ∧ cS t' a' f' ∧ cT t' S m N ∧ ai_hv t' 7 1 = some (gx_r 191) ∧ cV 191 t0 t' ∧ (∃ q τ, Ln S m N σ a q τ ∧ (a', f') = fs S m N 59 q ∧ (f' = 0 → a < a' ∧ CA t' 191 S m τ ∧ CLw t' 191 S m N τ)) ∧ a' ≤ N := by
  have b0 := s0.2.2.2
  have hN := hT.2.2.2.2.2.2.1
  obtain ⟨⟨kk0, kk1, kk2, kk3, kk4, kk5, kk6, kk7, kk8, kk9, kk10, kk11⟩, -⟩ := id hA
  refine en_u_ex (d := d + 39) rfl ?_
  show en_ex _ _ _ _ (0, [(0, gx_r 7), (1, .inr (.inr (.inl none)))], [], t0, n, 0) _
  refine ex_go (S := (1, [(0, gx_r 7), (1, .inr (.inr (.inl none)))], [.inr (.inr (.inl none))], t0, n, 0)) rfl (fun _ => rfl) rfl ?_
  refine ex_go (S := (4, [(0, gx_r 7), (1, .inr (.inr (.inl none)))], [gx_w 1, .inr (.inr (.inl none))], t0, n, 0)) rfl (fun _ => rfl) rfl ?_
  refine ex_go (S := (14, [(0, gx_r 7), (1, .inr (.inr (.inl none)))], [], t0, n, 0)) rfl (fun _ => rfl) rfl ?_
  refine ex_go (S := (15, [(0, gx_r 7), (1, .inr (.inr (.inl none)))], [.inr (.inr (.inl none))], t0, n, 0)) rfl (fun _ => rfl) rfl ?_
  refine ex_go (S := (18, [(0, gx_r 7), (1, .inr (.inr (.inl none)))], [gx_w 2, .inr (.inr (.inl none))], t0, n, 0)) rfl (fun _ => rfl) rfl ?_
  refine ex_go (S := (28, [(0, gx_r 7), (1, .inr (.inr (.inl none)))], [], t0, n, 0)) rfl (fun _ => rfl) rfl ?_
  refine ex_go (S := (29, [(0, gx_r 7), (1, .inr (.inr (.inl none)))], [.inr (.inr (.inl none))], t0, n, 0)) rfl (fun _ => rfl) rfl ?_
  refine ex_go (S := (32, [(0, gx_r 7), (1, .inr (.inr (.inl none)))], [gx_w 4, .inr (.inr (.inl none))], t0, n, 0)) rfl (fun _ => rfl) rfl ?_
  refine ex_go (S := (42, [(0, gx_r 7), (1, .inr (.inr (.inl none)))], [], t0, n, 0)) rfl (fun _ => rfl) rfl ?_
  refine ex_go (S := (43, [(0, gx_r 7), (1, .inr (.inr (.inl none)))], [.inr (.inr (.inl none))], t0, n, 0)) rfl (fun _ => rfl) rfl ?_
  refine ex_go (S := (46, [(0, gx_r 7), (1, .inr (.inr (.inl none)))], [gx_w 8, .inr (.inr (.inl none))], t0, n, 0)) rfl (fun _ => rfl) rfl ?_
  refine ex_go (S := (56, [(0, gx_r 7), (1, .inr (.inr (.inl none)))], [], t0, n, 0)) rfl (fun _ => rfl) rfl ?_
  refine ex_go (S := (57, [(0, gx_r 7), (1, .inr (.inr (.inl none)))], [.inr (.inr (.inl none))], t0, n, 0)) rfl (fun _ => rfl) rfl ?_
  refine ex_go (S := (60, [(0, gx_r 7), (1, .inr (.inr (.inl none)))], [gx_w 11, .inr (.inr (.inl none))], t0, n, 0)) rfl (fun _ => rfl) rfl ?_
  refine ex_go (S := (70, [(0, gx_r 7), (1, .inr (.inr (.inl none)))], [], t0, n, 0)) rfl (fun _ => rfl) rfl ?_
  refine ex_go (S := (71, [(0, gx_r 7), (1, .inr (.inr (.inl none)))], [.inr (.inr (.inl none))], t0, n, 0)) rfl (fun _ => rfl) rfl ?_
  refine ex_go (S := (74, [(0, gx_r 7), (1, .inr (.inr (.inl none)))], [gx_w 12, .inr (.inr (.inl none))], t0, n, 0)) rfl (fun _ => rfl) rfl ?_
  refine ex_go (S := (84, [(0, gx_r 7), (1, .inr (.inr (.inl none)))], [], t0, n, 0)) rfl (fun _ => rfl) rfl ?_
  refine ex_go (S := (85, [(0, gx_r 7), (1, .inr (.inr (.inl none)))], [.inr (.inr (.inl none))], t0, n, 0)) rfl (fun _ => rfl) rfl ?_
  refine ex_go (S := (88, [(0, gx_r 7), (1, .inr (.inr (.inl none)))], [gx_w 15, .inr (.inr (.inl none))], t0, n, 0)) rfl (fun _ => rfl) rfl ?_
  refine ex_go (S := (98, [(0, gx_r 7), (1, .inr (.inr (.inl none)))], [], t0, n, 0)) rfl (fun _ => rfl) rfl ?_
  refine ex_go (S := (99, [(0, gx_r 7), (1, .inr (.inr (.inl none)))], [.inr (.inr (.inl none))], t0, n, 0)) rfl (fun _ => rfl) rfl ?_
  refine ex_go (S := (102, [(0, gx_r 7), (1, .inr (.inr (.inl none)))], [gx_w 17, .inr (.inr (.inl none))], t0, n, 0)) rfl (fun _ => rfl) rfl ?_
  refine ex_go (S := (112, [(0, gx_r 7), (1, .inr (.inr (.inl none)))], [], t0, n, 0)) rfl (fun _ => rfl) rfl ?_
  refine ex_go (S := (113, [(0, gx_r 7), (1, .inr (.inr (.inl none)))], [.inr (.inr (.inl none))], t0, n, 0)) rfl (fun _ => rfl) rfl ?_
  refine ex_go (S := (116, [(0, gx_r 7), (1, .inr (.inr (.inl none)))], [gx_w 20, .inr (.inr (.inl none))], t0, n, 0)) rfl (fun _ => rfl) rfl ?_
  refine ex_go (S := (142, [(0, gx_r 7), (1, .inr (.inr (.inl none)))], [], t0, n, 0)) rfl (fun _ => rfl) rfl ?_
  refine ex_go (S := (143, [(0, gx_r 7), (1, .inr (.inr (.inl none)))], [.inr (.inr (.inl none))], t0, n, 0)) rfl (fun _ => rfl) rfl ?_
  refine ex_go (S := (146, [(0, gx_r 7), (1, .inr (.inr (.inl none)))], [gx_w 21, .inr (.inr (.inl none))], t0, n, 0)) rfl (fun _ => rfl) rfl ?_
  refine ex_go (S := (172, [(0, gx_r 7), (1, .inr (.inr (.inl none)))], [], t0, n, 0)) rfl (fun _ => rfl) rfl ?_
  refine ex_go (S := (173, [(0, gx_r 7), (1, .inr (.inr (.inl none)))], [.inr (.inr (.inl none))], t0, n, 0)) rfl (fun _ => rfl) rfl ?_
  refine ex_go (S := (176, [(0, gx_r 7), (1, .inr (.inr (.inl none)))], [gx_w 22, .inr (.inr (.inl none))], t0, n, 0)) rfl (fun _ => rfl) rfl ?_
  refine ex_go (S := (202, [(0, gx_r 7), (1, .inr (.inr (.inl none)))], [], t0, n, 0)) rfl (fun _ => rfl) rfl ?_
  refine ex_go (S := (203, [(0, gx_r 7), (1, .inr (.inr (.inl none)))], [gx_r 7], t0, n, 0)) rfl (fun _ => rfl) rfl ?_
  refine gxo_ref (a := 7) (c := 1) rfl s0.1 rfl rfl rfl rfl rfl ?_
  refine ex_go (S := (207, [(0, gx_r 7), (1, .inr (.inr (.inl none)))], [.inl 1, gx_r 1], t0, n, 0)) rfl (fun _ => rfl) rfl ?_
  obtain ⟨_, r101, t101, a101, f101, rfl, s101, e101, q101⟩ := pc_wrong (d + 38) n (s0) hT (by first | decide | omega) (w := 1) (by first | decide | omega)
  have b101 := s101.2.2.2
  refine gx_callo (a := 1) rfl rfl s0.1 rfl rfl rfl r101 rfl ?_
  have k2 : ai_hv t101 7 1 = some (gx_r 191) := (e101 7 1 (by first | decide | omega)).trans hP
  have k3 : ai_hv t101 7 5 = some (.inl (σ 9 0)) := (e101 7 5 (by first | decide | omega)).trans kk9
  have k4 : ai_hv t101 7 6 = some (.inl (σ 9 1)) := (e101 7 6 (by first | decide | omega)).trans kk10
  have k5 : ai_hv t101 7 7 = some (.inl (σ 9 2)) := (e101 7 7 (by first | decide | omega)).trans kk11
  show en_ex _ _ _ _ (210, [(0, gx_r 7), (1, .inr (.inr (.inl none)))], [], t101, n, 0) _
  refine ex_ret (r := (none, t101, n, 0)) rfl (fun _ => rfl) ?_
  have hno : ∀ w, w = 1 ∨ w = 2 ∨ w = 4 ∨ w = 8 ∨ w = 12 ∨ w = 15 ∨ w = 17 ∨ w = 11 ∨ w = 20 ∨ w = 21 ∨ w = 22 → ¬ sp_wd S m N a w := fun w hw z => hw2 w (by first | decide | omega) z
  have hT6 := cT_keep (t' := t101) hT (fun c i h => e101 c i (by first | decide | omega))
  refine ⟨_, rfl, t101, a101, f101, rfl, s101, hT6, k2, (fun c i h => e101 c i (by first | decide | omega)), ⟨fx S m 1 a, σ, Or.inr (Or.inr (Or.inr (Or.inr (Or.inr (Or.inr (Or.inr (Or.inr (Or.inr (⟨hno, rfl, rfl⟩))))))))), ?_, fun h0 => by omega⟩, by omega⟩
  unfold fx
  rw [fs_no (by first | decide | omega)]; exact Prod.ext (by show a101 = a; omega) (by show f101 = 1 + 16 * sp_st S m a; omega)
theorem pc_packLine191_1 (d n : Nat) {t0 : en_H} {a w : Nat} {S : Nat → Nat} {m N : Nat} {σ : Nat → Nat → Nat} (s0 : cS t0 a 0) (hT : cT t0 S m N) (ha : a < N) (hP : ai_hv t0 7 1 = some (gx_r 191)) (hA : CA t0 191 S m σ) (h3 : W3 S m N σ) (hw : w < 42) (hw2 : sp_wd S m N a w) (hC : CLw t0 191 S m N σ) (h9 : σ 9 0 ≤ 1 ∧ σ 9 1 ≤ 1 ∧ σ 9 2 ≤ 1) : ∃ r, en_u (d + 40) 179 [gx_r 7, gx_w w] t0 n = some r ∧ ∃ t' a' f', r = (none, t', n, 0) ∧ cS t' a' f' ∧ cT t' S m N ∧ ai_hv t' 7 1 = some (gx_r 191) ∧ cV 191 t0 t' ∧ (∃ q τ, Ln S m N σ a q τ ∧ (a', f') = fs S m N 59 q ∧ (f' = 0 → a < a' ∧ CA t' 191 S m τ ∧ CLw t' 191 S m N τ)) ∧ a' ≤ N := by
  have b0 := s0.2.2.2
  have hN := hT.2.2.2.2.2.2.1
  obtain ⟨⟨kk0, kk1, kk2, kk3, kk4, kk5, kk6, kk7, kk8, kk9, kk10, kk11⟩, -⟩ := id hA
  refine en_u_ex (d := d + 39) rfl ?_
  show en_ex _ _ _ _ (0, [(0, gx_r 7), (1, gx_w w)], [], t0, n, 0) _
  refine ex_go (S := (1, [(0, gx_r 7), (1, gx_w w)], [gx_w w], t0, n, 0)) rfl (fun _ => rfl) rfl ?_
  refine ex_go (S := (4, [(0, gx_r 7), (1, gx_w w)], [gx_w 1, gx_w w], t0, n, 0)) rfl (fun _ => rfl) rfl ?_
  by_cases hc1 : w = 1
  · refine gx_acnt rfl (by first | decide | omega) (by first | decide | omega) hc1 rfl ?_
    refine ex_go (S := (8, [(0, gx_r 7), (1, gx_w w)], [gx_r 7], t0, n, 0)) rfl (fun _ => rfl) rfl ?_
    obtain ⟨_, r102, t102, a102, f102, rfl, s102, hT102, hP102, hW102, z102, hN102, y102⟩ := pc_driftLine191 (d + 35) n s0 hT ha hP hA h3
    have hwd : sp_wd S m N a 1 := by rw [← hc1]; exact hw2
    refine gx_callo (a := 7) rfl rfl s0.1 rfl rfl rfl r102 rfl ?_
    show en_ex _ _ _ _ (11, [(0, gx_r 7), (1, gx_w w)], [], t102, n, 0) _
    refine ex_go (S := (210, [(0, gx_r 7), (1, gx_w w)], [], t102, n, 0)) rfl (fun _ => rfl) rfl ?_
    refine ex_ret (r := (none, t102, n, 0)) rfl (fun _ => rfl) ?_
    exact ⟨_, rfl, t102, a102, f102, rfl, s102, hT102, hP102, cW_V hW102, ⟨_, sn_drift S m N σ a, Or.inl (⟨hwd, rfl, rfl⟩), z102, fun h0 => ⟨(y102 h0).1, (y102 h0).2, CLw_keep hC (fun c i l1 l2 => hW102 c i (by first | decide | omega)) (fun _ => ⟨rfl, rfl⟩)⟩⟩, hN102⟩
  · refine gx_acnf rfl (by first | decide | omega) (by first | decide | omega) hc1 rfl ?_
    refine ex_go (S := (15, [(0, gx_r 7), (1, gx_w w)], [gx_w w], t0, n, 0)) rfl (fun _ => rfl) rfl ?_
    refine ex_go (S := (18, [(0, gx_r 7), (1, gx_w w)], [gx_w 2, gx_w w], t0, n, 0)) rfl (fun _ => rfl) rfl ?_
    by_cases hc3 : w = 2
    · refine gx_acnt rfl (by first | decide | omega) (by first | decide | omega) hc3 rfl ?_
      refine ex_go (S := (22, [(0, gx_r 7), (1, gx_w w)], [gx_r 7], t0, n, 0)) rfl (fun _ => rfl) rfl ?_
      obtain ⟨_, r104, t104, a104, f104, rfl, s104, hT104, hP104, hW104, z104, hN104, y104⟩ := pc_thingLine191 (d + 35) n s0 hT ha hP hA h3
      have hwd : sp_wd S m N a 2 := by rw [← hc3]; exact hw2
      refine gx_callo (a := 7) rfl rfl s0.1 rfl rfl rfl r104 rfl ?_
      show en_ex _ _ _ _ (25, [(0, gx_r 7), (1, gx_w w)], [], t104, n, 0) _
      refine ex_go (S := (210, [(0, gx_r 7), (1, gx_w w)], [], t104, n, 0)) rfl (fun _ => rfl) rfl ?_
      refine ex_ret (r := (none, t104, n, 0)) rfl (fun _ => rfl) ?_
      exact ⟨_, rfl, t104, a104, f104, rfl, s104, hT104, hP104, cW_V hW104, ⟨_, sn_thing S m N σ a, Or.inr (Or.inl (⟨hwd, rfl, rfl⟩)), z104, fun h0 => ⟨(y104 h0).1, (y104 h0).2, CLw_keep hC (fun c i l1 l2 => hW104 c i (by first | decide | omega)) (fun _ => ⟨rfl, rfl⟩)⟩⟩, hN104⟩
    · refine gx_acnf rfl (by first | decide | omega) (by first | decide | omega) hc3 rfl ?_
      refine ex_go (S := (29, [(0, gx_r 7), (1, gx_w w)], [gx_w w], t0, n, 0)) rfl (fun _ => rfl) rfl ?_
      refine ex_go (S := (32, [(0, gx_r 7), (1, gx_w w)], [gx_w 4, gx_w w], t0, n, 0)) rfl (fun _ => rfl) rfl ?_
      by_cases hc5 : w = 4
      · refine gx_acnt rfl (by first | decide | omega) (by first | decide | omega) hc5 rfl ?_
        refine ex_go (S := (36, [(0, gx_r 7), (1, gx_w w)], [gx_r 7], t0, n, 0)) rfl (fun _ => rfl) rfl ?_
        obtain ⟨_, r106, t106, a106, f106, rfl, s106, hT106, hP106, hW106, z106, hN106, y106⟩ := pc_leadLine191 (d + 35) n s0 hT ha hP hA h3
        have hwd : sp_wd S m N a 4 := by rw [← hc5]; exact hw2
        refine gx_callo (a := 7) rfl rfl s0.1 rfl rfl rfl r106 rfl ?_
        show en_ex _ _ _ _ (39, [(0, gx_r 7), (1, gx_w w)], [], t106, n, 0) _
        refine ex_go (S := (210, [(0, gx_r 7), (1, gx_w w)], [], t106, n, 0)) rfl (fun _ => rfl) rfl ?_
        refine ex_ret (r := (none, t106, n, 0)) rfl (fun _ => rfl) ?_
        exact ⟨_, rfl, t106, a106, f106, rfl, s106, hT106, hP106, cW_V hW106, ⟨_, sn_lead S m σ a, Or.inr (Or.inr (Or.inl (⟨hwd, rfl, rfl⟩))), z106, fun h0 => ⟨(y106 h0).1, (y106 h0).2, CLw_keep hC (fun c i l1 l2 => hW106 c i (by first | decide | omega)) (fun _ => ⟨rfl, rfl⟩)⟩⟩, hN106⟩
      · refine gx_acnf rfl (by first | decide | omega) (by first | decide | omega) hc5 rfl ?_
        refine ex_go (S := (43, [(0, gx_r 7), (1, gx_w w)], [gx_w w], t0, n, 0)) rfl (fun _ => rfl) rfl ?_
        refine ex_go (S := (46, [(0, gx_r 7), (1, gx_w w)], [gx_w 8, gx_w w], t0, n, 0)) rfl (fun _ => rfl) rfl ?_
        by_cases hc7 : w = 8
        · refine gx_acnt rfl (by first | decide | omega) (by first | decide | omega) hc7 rfl ?_
          refine ex_go (S := (50, [(0, gx_r 7), (1, gx_w w)], [gx_r 7], t0, n, 0)) rfl (fun _ => rfl) rfl ?_
          obtain ⟨_, r108, t108, a108, f108, rfl, s108, hT108, hP108, hW108, z108, hN108, y108⟩ := pc_crewLine191 (d + 35) n s0 hT ha hP hA h3
          have hwd : sp_wd S m N a 8 := by rw [← hc7]; exact hw2
          refine gx_callo (a := 7) rfl rfl s0.1 rfl rfl rfl r108 rfl ?_
          show en_ex _ _ _ _ (53, [(0, gx_r 7), (1, gx_w w)], [], t108, n, 0) _
          refine ex_go (S := (210, [(0, gx_r 7), (1, gx_w w)], [], t108, n, 0)) rfl (fun _ => rfl) rfl ?_
          refine ex_ret (r := (none, t108, n, 0)) rfl (fun _ => rfl) ?_
          exact ⟨_, rfl, t108, a108, f108, rfl, s108, hT108, hP108, cW_V hW108, ⟨_, sn_crew S m σ a, Or.inr (Or.inr (Or.inr (Or.inl (⟨hwd, rfl, rfl⟩)))), z108, fun h0 => ⟨(y108 h0).1, (y108 h0).2, CLw_keep hC (fun c i l1 l2 => hW108 c i (by first | decide | omega)) (fun _ => ⟨rfl, rfl⟩)⟩⟩, hN108⟩
        · refine gx_acnf rfl (by first | decide | omega) (by first | decide | omega) hc7 rfl ?_
          refine ex_go (S := (57, [(0, gx_r 7), (1, gx_w w)], [gx_w w], t0, n, 0)) rfl (fun _ => rfl) rfl ?_
          refine ex_go (S := (60, [(0, gx_r 7), (1, gx_w w)], [gx_w 11, gx_w w], t0, n, 0)) rfl (fun _ => rfl) rfl ?_
          by_cases hc9 : w = 11
          · refine gx_acnt rfl (by first | decide | omega) (by first | decide | omega) hc9 rfl ?_
            refine ex_go (S := (64, [(0, gx_r 7), (1, gx_w w)], [gx_r 7], t0, n, 0)) rfl (fun _ => rfl) rfl ?_
            obtain ⟨_, r110, t110, a110, f110, rfl, s110, hT110, hP110, hW110, z110, hN110, y110⟩ := pc_paceLine191 (d + 35) n s0 hT ha hP hA h3
            have hwd : sp_wd S m N a 11 := by rw [← hc9]; exact hw2
            refine gx_callo (a := 7) rfl rfl s0.1 rfl rfl rfl r110 rfl ?_
            show en_ex _ _ _ _ (67, [(0, gx_r 7), (1, gx_w w)], [], t110, n, 0) _
            refine ex_go (S := (210, [(0, gx_r 7), (1, gx_w w)], [], t110, n, 0)) rfl (fun _ => rfl) rfl ?_
            refine ex_ret (r := (none, t110, n, 0)) rfl (fun _ => rfl) ?_
            exact ⟨_, rfl, t110, a110, f110, rfl, s110, hT110, hP110, cW_V hW110, ⟨_, sn_pace σ a, Or.inr (Or.inr (Or.inr (Or.inr (Or.inr (Or.inr (Or.inr (Or.inl (⟨hwd, rfl, rfl⟩)))))))), z110, fun h0 => ⟨(y110 h0).1, (y110 h0).2, CLw_keep hC (fun c i l1 l2 => hW110 c i (by first | decide | omega)) (fun _ => ⟨rfl, rfl⟩)⟩⟩, hN110⟩
          · refine gx_acnf rfl (by first | decide | omega) (by first | decide | omega) hc9 rfl ?_
            refine ex_go (S := (71, [(0, gx_r 7), (1, gx_w w)], [gx_w w], t0, n, 0)) rfl (fun _ => rfl) rfl ?_
            refine ex_go (S := (74, [(0, gx_r 7), (1, gx_w w)], [gx_w 12, gx_w w], t0, n, 0)) rfl (fun _ => rfl) rfl ?_
            by_cases hc11 : w = 12
            · refine gx_acnt rfl (by first | decide | omega) (by first | decide | omega) hc11 rfl ?_
              refine ex_go (S := (78, [(0, gx_r 7), (1, gx_w w)], [gx_r 7], t0, n, 0)) rfl (fun _ => rfl) rfl ?_
              obtain ⟨_, r112, t112, a112, f112, rfl, s112, hT112, hP112, hW112, z112, hN112, y112⟩ := pc_gapLine191 (d + 35) n s0 hT ha hP hA h3
              have hwd : sp_wd S m N a 12 := by rw [← hc11]; exact hw2
              refine gx_callo (a := 7) rfl rfl s0.1 rfl rfl rfl r112 rfl ?_
              show en_ex _ _ _ _ (81, [(0, gx_r 7), (1, gx_w w)], [], t112, n, 0) _
              refine ex_go (S := (210, [(0, gx_r 7), (1, gx_w w)], [], t112, n, 0)) rfl (fun _ => rfl) rfl ?_
              refine ex_ret (r := (none, t112, n, 0)) rfl (fun _ => rfl) ?_
              exact ⟨_, rfl, t112, a112, f112, rfl, s112, hT112, hP112, cW_V hW112, ⟨_, sn_gap σ a, Or.inr (Or.inr (Or.inr (Or.inr (Or.inl (⟨hwd, rfl, rfl⟩))))), z112, fun h0 => ⟨(y112 h0).1, (y112 h0).2, CLw_keep hC (fun c i l1 l2 => hW112 c i (by first | decide | omega)) (fun _ => ⟨rfl, rfl⟩)⟩⟩, hN112⟩
            · refine gx_acnf rfl (by first | decide | omega) (by first | decide | omega) hc11 rfl ?_
              refine ex_go (S := (85, [(0, gx_r 7), (1, gx_w w)], [gx_w w], t0, n, 0)) rfl (fun _ => rfl) rfl ?_
              refine ex_go (S := (88, [(0, gx_r 7), (1, gx_w w)], [gx_w 15, gx_w w], t0, n, 0)) rfl (fun _ => rfl) rfl ?_
              by_cases hc13 : w = 15
              · refine gx_acnt rfl (by first | decide | omega) (by first | decide | omega) hc13 rfl ?_
                refine ex_go (S := (92, [(0, gx_r 7), (1, gx_w w)], [gx_r 7], t0, n, 0)) rfl (fun _ => rfl) rfl ?_
                obtain ⟨_, r114, t114, a114, f114, rfl, s114, hT114, hP114, hW114, z114, hN114, y114⟩ := pc_signLine191 (d + 35) n s0 hT ha hP hA h3
                have hwd : sp_wd S m N a 15 := by rw [← hc13]; exact hw2
                refine gx_callo (a := 7) rfl rfl s0.1 rfl rfl rfl r114 rfl ?_
                show en_ex _ _ _ _ (95, [(0, gx_r 7), (1, gx_w w)], [], t114, n, 0) _
                refine ex_go (S := (210, [(0, gx_r 7), (1, gx_w w)], [], t114, n, 0)) rfl (fun _ => rfl) rfl ?_
                refine ex_ret (r := (none, t114, n, 0)) rfl (fun _ => rfl) ?_
                exact ⟨_, rfl, t114, a114, f114, rfl, s114, hT114, hP114, cW_V hW114, ⟨_, sn_sign σ a, Or.inr (Or.inr (Or.inr (Or.inr (Or.inr (Or.inl (⟨hwd, rfl, rfl⟩)))))), z114, fun h0 => ⟨(y114 h0).1, (y114 h0).2, CLw_keep hC (fun c i l1 l2 => hW114 c i (by first | decide | omega)) (fun _ => ⟨rfl, rfl⟩)⟩⟩, hN114⟩
              · refine gx_acnf rfl (by first | decide | omega) (by first | decide | omega) hc13 rfl ?_
                refine ex_go (S := (99, [(0, gx_r 7), (1, gx_w w)], [gx_w w], t0, n, 0)) rfl (fun _ => rfl) rfl ?_
                refine ex_go (S := (102, [(0, gx_r 7), (1, gx_w w)], [gx_w 17, gx_w w], t0, n, 0)) rfl (fun _ => rfl) rfl ?_
                by_cases hc15 : w = 17
                · refine gx_acnt rfl (by first | decide | omega) (by first | decide | omega) hc15 rfl ?_
                  refine ex_go (S := (106, [(0, gx_r 7), (1, gx_w w)], [gx_r 7], t0, n, 0)) rfl (fun _ => rfl) rfl ?_
                  obtain ⟨_, r116, t116, a116, f116, rfl, s116, hT116, hP116, hW116, z116, hN116, y116⟩ := pc_loadLine191 (d + 35) n s0 hT ha hP hA h3
                  have hwd : sp_wd S m N a 17 := by rw [← hc15]; exact hw2
                  refine gx_callo (a := 7) rfl rfl s0.1 rfl rfl rfl r116 rfl ?_
                  show en_ex _ _ _ _ (109, [(0, gx_r 7), (1, gx_w w)], [], t116, n, 0) _
                  refine ex_go (S := (210, [(0, gx_r 7), (1, gx_w w)], [], t116, n, 0)) rfl (fun _ => rfl) rfl ?_
                  refine ex_ret (r := (none, t116, n, 0)) rfl (fun _ => rfl) ?_
                  exact ⟨_, rfl, t116, a116, f116, rfl, s116, hT116, hP116, cW_V hW116, ⟨_, sn_load σ a, Or.inr (Or.inr (Or.inr (Or.inr (Or.inr (Or.inr (Or.inl (⟨hwd, rfl, rfl⟩))))))), z116, fun h0 => ⟨(y116 h0).1, (y116 h0).2, CLw_keep hC (fun c i l1 l2 => hW116 c i (by first | decide | omega)) (fun _ => ⟨rfl, rfl⟩)⟩⟩, hN116⟩
                · refine gx_acnf rfl (by first | decide | omega) (by first | decide | omega) hc15 rfl ?_
                  refine ex_go (S := (113, [(0, gx_r 7), (1, gx_w w)], [gx_w w], t0, n, 0)) rfl (fun _ => rfl) rfl ?_
                  refine ex_go (S := (116, [(0, gx_r 7), (1, gx_w w)], [gx_w 20, gx_w w], t0, n, 0)) rfl (fun _ => rfl) rfl ?_
                  by_cases hc17 : w = 20
                  · refine gx_acnt rfl (by first | decide | omega) (by first | decide | omega) hc17 rfl ?_
                    refine ex_go (S := (120, [(0, gx_r 7), (1, gx_w w)], [gx_r 7], t0, n, 0)) rfl (fun _ => rfl) rfl ?_
                    refine ex_go (S := (121, [(0, gx_r 7), (1, gx_w w)], [gx_r 7, gx_r 7], t0, n, 0)) rfl (fun _ => rfl) rfl ?_
                    refine ex_go (S := (122, [(0, gx_r 7), (1, gx_w w)], [gx_w w, gx_r 7, gx_r 7], t0, n, 0)) rfl (fun _ => rfl) rfl ?_
                    refine ex_go (S := (123, [(0, gx_r 7), (1, gx_w w)], [gx_r 7, gx_w w, gx_r 7, gx_r 7], t0, n, 0)) rfl (fun _ => rfl) rfl ?_
                    refine gxo_get (a := 7) rfl s0.1 rfl rfl hP rfl ?_
                    refine gxo_ref (a := 191) (c := 230) rfl s0.1 rfl rfl rfl rfl rfl ?_
                    refine ex_go (S := (130, [(0, gx_r 7), (1, gx_w w)], [gx_r 7, gx_r 230, gx_w w, gx_r 7, gx_r 7], t0, n, 0)) rfl (fun _ => rfl) rfl ?_
                    refine gxo_get (a := 7) rfl s0.1 rfl rfl kk9 rfl ?_
                    have hwd : sp_wd S m N a 20 := by rw [← hc17]; exact hw2
                    obtain ⟨_, r118, t118, a118, f118, rfl, s118, hT118, hP118, e118, ⟨q118, hq118, z118⟩, hN118, hl118, hA118, hF118⟩ := pc_lawLine191_0 (d) n s0 hT ha hP hA h3 (by first | decide | omega)
                    have b118 := s118.2.2.2
                    rw [hc17]
                    refine gx_callo (a := 7) rfl rfl s0.1 rfl rfl rfl r118 rfl ?_
                    show en_ex _ _ _ _ (136, [(0, gx_r 7), (1, gx_w 20)], [.inl 1, gx_r 7], t118, n, 0) _
                    refine gxo_put (a := 7) rfl s118.1 rfl rfl rfl (ai_in_h (by first | decide | omega) (by first | decide | omega) (by first | decide | omega)) rfl (fun t119 g119 k119 e119 => ?_)
                    have s119 : cS t119 a118 f118 := ⟨g119, (e119 1 8 (by first | decide | omega)).trans s118.2.1, (e119 1 1 (by first | decide | omega)).trans s118.2.2.1, s118.2.2.2⟩
                    refine ex_go (S := (210, [(0, gx_r 7), (1, gx_w 20)], [], t119, n, 0)) rfl (fun _ => rfl) rfl ?_
                    refine ex_ret (r := (none, t119, n, 0)) rfl (fun _ => rfl) ?_
                    refine ⟨_, rfl, t119, a118, f118, rfl, s119, cT_keep hT118 (fun c i h => e119 c i (by first | decide | omega)), (e119 7 1 (by first | decide | omega)).trans hP118, (fun c i h => (e119 c i (by first | decide | omega)).trans (e118 c i h)), ⟨q118, up (up σ 9 0 1) 24 0 (a + 1), Or.inr (Or.inr (Or.inr (Or.inr (Or.inr (Or.inr (Or.inr (Or.inr (Or.inl (⟨0, by omega, hwd, hq118, rfl⟩))))))))), z118, fun h0 => ?_⟩, hN118⟩
                    obtain ⟨L9, c9, m9⟩ := (hl118 h0).2
                    exact ⟨(hl118 h0).1, CA_up9 (by first | decide | omega) hA118 (by first | decide | omega) e119 k119, CLw_up hC (fun c i l1 l2 l3 l4 => (e119 c i (by first | decide | omega)).trans (hF118 c i l1 l2 (by first | decide | omega) (by first | decide | omega))) c9 (CLs_keep m9 (e119 _ _ (by first | decide | omega)) (fun j => e119 _ _ (by first | decide | omega)))⟩
                  · refine gx_acnf rfl (by first | decide | omega) (by first | decide | omega) hc17 rfl ?_
                    refine ex_go (S := (143, [(0, gx_r 7), (1, gx_w w)], [gx_w w], t0, n, 0)) rfl (fun _ => rfl) rfl ?_
                    refine ex_go (S := (146, [(0, gx_r 7), (1, gx_w w)], [gx_w 21, gx_w w], t0, n, 0)) rfl (fun _ => rfl) rfl ?_
                    by_cases hc20 : w = 21
                    · refine gx_acnt rfl (by first | decide | omega) (by first | decide | omega) hc20 rfl ?_
                      refine ex_go (S := (150, [(0, gx_r 7), (1, gx_w w)], [gx_r 7], t0, n, 0)) rfl (fun _ => rfl) rfl ?_
                      refine ex_go (S := (151, [(0, gx_r 7), (1, gx_w w)], [gx_r 7, gx_r 7], t0, n, 0)) rfl (fun _ => rfl) rfl ?_
                      refine ex_go (S := (152, [(0, gx_r 7), (1, gx_w w)], [gx_w w, gx_r 7, gx_r 7], t0, n, 0)) rfl (fun _ => rfl) rfl ?_
                      refine ex_go (S := (153, [(0, gx_r 7), (1, gx_w w)], [gx_r 7, gx_w w, gx_r 7, gx_r 7], t0, n, 0)) rfl (fun _ => rfl) rfl ?_
                      refine gxo_get (a := 7) rfl s0.1 rfl rfl hP rfl ?_
                      refine gxo_ref (a := 191) (c := 233) rfl s0.1 rfl rfl rfl rfl rfl ?_
                      refine ex_go (S := (160, [(0, gx_r 7), (1, gx_w w)], [gx_r 7, gx_r 233, gx_w w, gx_r 7, gx_r 7], t0, n, 0)) rfl (fun _ => rfl) rfl ?_
                      refine gxo_get (a := 7) rfl s0.1 rfl rfl kk10 rfl ?_
                      have hwd : sp_wd S m N a 21 := by rw [← hc20]; exact hw2
                      obtain ⟨_, r121, t121, a121, f121, rfl, s121, hT121, hP121, e121, ⟨q121, hq121, z121⟩, hN121, hl121, hA121, hF121⟩ := pc_lawLine191_1 (d) n s0 hT ha hP hA h3 (by first | decide | omega)
                      have b121 := s121.2.2.2
                      rw [hc20]
                      refine gx_callo (a := 7) rfl rfl s0.1 rfl rfl rfl r121 rfl ?_
                      show en_ex _ _ _ _ (166, [(0, gx_r 7), (1, gx_w 21)], [.inl 1, gx_r 7], t121, n, 0) _
                      refine gxo_put (a := 7) rfl s121.1 rfl rfl rfl (ai_in_h (by first | decide | omega) (by first | decide | omega) (by first | decide | omega)) rfl (fun t122 g122 k122 e122 => ?_)
                      have s122 : cS t122 a121 f121 := ⟨g122, (e122 1 8 (by first | decide | omega)).trans s121.2.1, (e122 1 1 (by first | decide | omega)).trans s121.2.2.1, s121.2.2.2⟩
                      refine ex_go (S := (210, [(0, gx_r 7), (1, gx_w 21)], [], t122, n, 0)) rfl (fun _ => rfl) rfl ?_
                      refine ex_ret (r := (none, t122, n, 0)) rfl (fun _ => rfl) ?_
                      refine ⟨_, rfl, t122, a121, f121, rfl, s122, cT_keep hT121 (fun c i h => e122 c i (by first | decide | omega)), (e122 7 1 (by first | decide | omega)).trans hP121, (fun c i h => (e122 c i (by first | decide | omega)).trans (e121 c i h)), ⟨q121, up (up σ 9 1 1) 24 1 (a + 1), Or.inr (Or.inr (Or.inr (Or.inr (Or.inr (Or.inr (Or.inr (Or.inr (Or.inl (⟨1, by omega, hwd, hq121, rfl⟩))))))))), z121, fun h0 => ?_⟩, hN121⟩
                      obtain ⟨L9, c9, m9⟩ := (hl121 h0).2
                      exact ⟨(hl121 h0).1, CA_up9 (by first | decide | omega) hA121 (by first | decide | omega) e122 k122, CLw_up hC (fun c i l1 l2 l3 l4 => (e122 c i (by first | decide | omega)).trans (hF121 c i l1 l2 (by first | decide | omega) (by first | decide | omega))) c9 (CLs_keep m9 (e122 _ _ (by first | decide | omega)) (fun j => e122 _ _ (by first | decide | omega)))⟩
                    · refine gx_acnf rfl (by first | decide | omega) (by first | decide | omega) hc20 rfl ?_
                      refine ex_go (S := (173, [(0, gx_r 7), (1, gx_w w)], [gx_w w], t0, n, 0)) rfl (fun _ => rfl) rfl ?_
                      refine ex_go (S := (176, [(0, gx_r 7), (1, gx_w w)], [gx_w 22, gx_w w], t0, n, 0)) rfl (fun _ => rfl) rfl ?_
                      by_cases hc23 : w = 22
                      · refine gx_acnt rfl (by first | decide | omega) (by first | decide | omega) hc23 rfl ?_
                        refine ex_go (S := (180, [(0, gx_r 7), (1, gx_w w)], [gx_r 7], t0, n, 0)) rfl (fun _ => rfl) rfl ?_
                        refine ex_go (S := (181, [(0, gx_r 7), (1, gx_w w)], [gx_r 7, gx_r 7], t0, n, 0)) rfl (fun _ => rfl) rfl ?_
                        refine ex_go (S := (182, [(0, gx_r 7), (1, gx_w w)], [gx_w w, gx_r 7, gx_r 7], t0, n, 0)) rfl (fun _ => rfl) rfl ?_
                        refine ex_go (S := (183, [(0, gx_r 7), (1, gx_w w)], [gx_r 7, gx_w w, gx_r 7, gx_r 7], t0, n, 0)) rfl (fun _ => rfl) rfl ?_
                        refine gxo_get (a := 7) rfl s0.1 rfl rfl hP rfl ?_
                        refine gxo_ref (a := 191) (c := 236) rfl s0.1 rfl rfl rfl rfl rfl ?_
                        refine ex_go (S := (190, [(0, gx_r 7), (1, gx_w w)], [gx_r 7, gx_r 236, gx_w w, gx_r 7, gx_r 7], t0, n, 0)) rfl (fun _ => rfl) rfl ?_
                        refine gxo_get (a := 7) rfl s0.1 rfl rfl kk11 rfl ?_
                        have hwd : sp_wd S m N a 22 := by rw [← hc23]; exact hw2
                        obtain ⟨_, r124, t124, a124, f124, rfl, s124, hT124, hP124, e124, ⟨q124, hq124, z124⟩, hN124, hl124, hA124, hF124⟩ := pc_lawLine191_2 (d) n s0 hT ha hP hA h3 (by first | decide | omega)
                        have b124 := s124.2.2.2
                        rw [hc23]
                        refine gx_callo (a := 7) rfl rfl s0.1 rfl rfl rfl r124 rfl ?_
                        show en_ex _ _ _ _ (196, [(0, gx_r 7), (1, gx_w 22)], [.inl 1, gx_r 7], t124, n, 0) _
                        refine gxo_put (a := 7) rfl s124.1 rfl rfl rfl (ai_in_h (by first | decide | omega) (by first | decide | omega) (by first | decide | omega)) rfl (fun t125 g125 k125 e125 => ?_)
                        have s125 : cS t125 a124 f124 := ⟨g125, (e125 1 8 (by first | decide | omega)).trans s124.2.1, (e125 1 1 (by first | decide | omega)).trans s124.2.2.1, s124.2.2.2⟩
                        refine ex_go (S := (210, [(0, gx_r 7), (1, gx_w 22)], [], t125, n, 0)) rfl (fun _ => rfl) rfl ?_
                        refine ex_ret (r := (none, t125, n, 0)) rfl (fun _ => rfl) ?_
                        refine ⟨_, rfl, t125, a124, f124, rfl, s125, cT_keep hT124 (fun c i h => e125 c i (by first | decide | omega)), (e125 7 1 (by first | decide | omega)).trans hP124, (fun c i h => (e125 c i (by first | decide | omega)).trans (e124 c i h)), ⟨q124, up (up σ 9 2 1) 24 2 (a + 1), Or.inr (Or.inr (Or.inr (Or.inr (Or.inr (Or.inr (Or.inr (Or.inr (Or.inl (⟨2, by omega, hwd, hq124, rfl⟩))))))))), z124, fun h0 => ?_⟩, hN124⟩
                        obtain ⟨L9, c9, m9⟩ := (hl124 h0).2
                        exact ⟨(hl124 h0).1, CA_up9 (by first | decide | omega) hA124 (by first | decide | omega) e125 k125, CLw_up hC (fun c i l1 l2 l3 l4 => (e125 c i (by first | decide | omega)).trans (hF124 c i l1 l2 (by first | decide | omega) (by first | decide | omega))) c9 (CLs_keep m9 (e125 _ _ (by first | decide | omega)) (fun j => e125 _ _ (by first | decide | omega)))⟩
                      · refine gx_acnf rfl (by first | decide | omega) (by first | decide | omega) hc23 rfl ?_
                        refine ex_go (S := (203, [(0, gx_r 7), (1, gx_w w)], [gx_r 7], t0, n, 0)) rfl (fun _ => rfl) rfl ?_
                        refine gxo_ref (a := 7) (c := 1) rfl s0.1 rfl rfl rfl rfl rfl ?_
                        refine ex_go (S := (207, [(0, gx_r 7), (1, gx_w w)], [.inl 1, gx_r 1], t0, n, 0)) rfl (fun _ => rfl) rfl ?_
                        obtain ⟨_, r126, t126, a126, f126, rfl, s126, e126, q126⟩ := pc_wrong (d + 38) n (s0) hT (by first | decide | omega) (w := 1) (by first | decide | omega)
                        have b126 := s126.2.2.2
                        refine gx_callo (a := 1) rfl rfl s0.1 rfl rfl rfl r126 rfl ?_
                        have k27 : ai_hv t126 7 1 = some (gx_r 191) := (e126 7 1 (by first | decide | omega)).trans hP
                        have k28 : ai_hv t126 7 5 = some (.inl (σ 9 0)) := (e126 7 5 (by first | decide | omega)).trans kk9
                        have k29 : ai_hv t126 7 6 = some (.inl (σ 9 1)) := (e126 7 6 (by first | decide | omega)).trans kk10
                        have k30 : ai_hv t126 7 7 = some (.inl (σ 9 2)) := (e126 7 7 (by first | decide | omega)).trans kk11
                        show en_ex _ _ _ _ (210, [(0, gx_r 7), (1, gx_w w)], [], t126, n, 0) _
                        refine ex_ret (r := (none, t126, n, 0)) rfl (fun _ => rfl) ?_
                        have hno : ∀ w, w = 1 ∨ w = 2 ∨ w = 4 ∨ w = 8 ∨ w = 12 ∨ w = 15 ∨ w = 17 ∨ w = 11 ∨ w = 20 ∨ w = 21 ∨ w = 22 → ¬ sp_wd S m N a w := fun w' hw z => by
                          have h9 := sp_wd_one (by first | decide | omega) (by first | decide | omega) hw2 z
                          omega
                        have hT31 := cT_keep (t' := t126) hT (fun c i h => e126 c i (by first | decide | omega))
                        refine ⟨_, rfl, t126, a126, f126, rfl, s126, hT31, k27, (fun c i h => e126 c i (by first | decide | omega)), ⟨fx S m 1 a, σ, Or.inr (Or.inr (Or.inr (Or.inr (Or.inr (Or.inr (Or.inr (Or.inr (Or.inr (⟨hno, rfl, rfl⟩))))))))), ?_, fun h0 => by omega⟩, by omega⟩
                        unfold fx
                        rw [fs_no (by first | decide | omega)]; exact Prod.ext (by show a126 = a; omega) (by show f126 = 1 + 16 * sp_st S m a; omega)
theorem pc_lawLine257_0 (d n : Nat) {t0 : en_H} {a : Nat} {S : Nat → Nat} {m N : Nat} {σ : Nat → Nat → Nat} (s0 : cS t0 a 0) (hT : cT t0 S m N) (ha : a < N) (hP : ai_hv t0 7 1 = some (gx_r 257)) (hA : CA t0 257 S m σ) (h3 : W3 S m N σ) (h9 : σ 9 0 ≤ 1) : ∃ r, en_u (d + 39) 239 [gx_r 7, gx_w 20, gx_r 296, .inl (σ 9 0)] t0 n = some r ∧ ∃ t' a' f', r = (some (.inl 1), t', n, 0) ∧ cS t' a' f' ∧ cT t' S m N ∧ ai_hv t' 7 1 = some (gx_r 257) ∧ cV 257 t0 t' ∧ (∃ q, Ev S m N (sp_fh 0) 0 0 (fr S m (σ 9 0 ≠ 0) 3 (a, 0)) q ∧ (a', f') = fs S m N 59 q) ∧ a' ≤ N ∧ (f' = 0 → a < a' ∧ ∃ L, Ec S m N (sp_fh 0) 0 0 (a + 1, 0) L ∧ CLs t' 296 L) ∧ CA t' 257 S m σ ∧ ∀ c i, 296 ≤ c → c ≤ 304 → c ≠ 296 → c ≠ 298 → ai_hv t' c i = ai_hv t0 c i := by
  have b0 := s0.2.2.2
  have hN := hT.2.2.2.2.2.2.1
  refine en_u_ex (d := d + 38) rfl ?_
  show en_ex _ _ _ _ (0, [(0, gx_r 7), (1, gx_w 20), (2, gx_r 296), (3, .inl (σ 9 0))], [], t0, n, 0) _
  refine ex_go (S := (1, [(0, gx_r 7), (1, gx_w 20), (2, gx_r 296), (3, .inl (σ 9 0))], [.inl (σ 9 0)], t0, n, 0)) rfl (fun _ => rfl) rfl ?_
  by_cases hc1 : σ 9 0 = 0
  · refine gx_1t (c := .eq) rfl (by first | decide | omega) hc1 rfl ?_
    refine ex_go (S := (13, [(0, gx_r 7), (1, gx_w 20), (2, gx_r 296), (3, .inl (σ 9 0))], [gx_r 7], t0, n, 0)) rfl (fun _ => rfl) rfl ?_
    refine gxo_ref (a := 7) (c := 1) rfl s0.1 rfl rfl rfl rfl rfl ?_
    obtain ⟨_, r102, t102, a102, f102, rfl, s102, e102, q102⟩ := pc_goOn (d + 37) n (s0) hT (by first | decide | omega) 
    have b102 := s102.2.2.2
    refine gx_callo (a := 1) rfl rfl s0.1 rfl rfl rfl r102 rfl ?_
    have k3 : ai_hv t102 7 1 = some (gx_r 257) := (e102 7 1 (by first | decide | omega)).trans hP
    show en_ex _ _ _ _ (19, [(0, gx_r 7), (1, gx_w 20), (2, gx_r 296), (3, .inl (σ 9 0))], [], t102, n, 0) _
    have ya : (a102, f102) = fr S m (σ 9 0 ≠ 0) 3 (a, 0) := by
      rw [fr_yes (show ¬ σ 9 0 ≠ 0 by omega)]; exact Prod.ext (by show a102 = a + 1; omega) (by show f102 = 0; omega)
    refine ex_go (S := (20, [(0, gx_r 7), (1, gx_w 20), (2, gx_r 296), (3, .inl (σ 9 0))], [gx_r 7], t102, n, 0)) rfl (fun _ => rfl) rfl ?_
    refine ex_go (S := (21, [(0, gx_r 7), (1, gx_w 20), (2, gx_r 296), (3, .inl (σ 9 0))], [gx_r 296, gx_r 7], t102, n, 0)) rfl (fun _ => rfl) rfl ?_
    refine gxo_putr (a := 7) (h := .inr (.inr [0, 330, 333, 336, 396, 399, 402])) rfl s102.1 rfl rfl rfl (refin_r (by decide)) rfl (fun t104 g104 k104 e104 => ?_)
    have k5 : ai_hv t104 7 1 = some (gx_r 257) := (e104 7 1 (by first | decide | omega)).trans k3
    have s104 : cS t104 a102 f102 := ⟨g104, (e104 1 8 (by first | decide | omega)).trans s102.2.1, (e104 1 1 (by first | decide | omega)).trans s102.2.2.1, s102.2.2.2⟩
    refine ex_go (S := (25, [(0, gx_r 7), (1, gx_w 20), (2, gx_r 296), (3, .inl (σ 9 0))], [gx_r 7], t104, n, 0)) rfl (fun _ => rfl) rfl ?_
    refine ex_go (S := (26, [(0, gx_r 7), (1, gx_w 20), (2, gx_r 296), (3, .inl (σ 9 0))], [gx_w 20, gx_r 7], t104, n, 0)) rfl (fun _ => rfl) rfl ?_
    refine gxo_putr (a := 7) (h := .inr (.inr [0, 1])) rfl s104.1 rfl rfl rfl (refin_w (by decide) (by first | decide | omega)) rfl (fun t106 g106 k106 e106 => ?_)
    have k7 : ai_hv t106 7 1 = some (gx_r 257) := (e106 7 1 (by first | decide | omega)).trans k5
    have k8 : ai_hv t106 7 2 = some (gx_r 296) := (e106 7 2 (by first | decide | omega)).trans k104
    have s106 : cS t106 a102 f102 := ⟨g106, (e106 1 8 (by first | decide | omega)).trans s104.2.1, (e106 1 1 (by first | decide | omega)).trans s104.2.2.1, s104.2.2.2⟩
    refine ex_go (S := (30, [(0, gx_r 7), (1, gx_w 20), (2, gx_r 296), (3, .inl (σ 9 0))], [gx_r 7], t106, n, 0)) rfl (fun _ => rfl) rfl ?_
    refine gxo_get (a := 7) rfl s106.1 rfl rfl k8 rfl ?_
    obtain ⟨_, r109, t109, rfl, g109, e109, kl109⟩ := pc_lclear296 (d + 37) n s106.1
    refine gx_callo (a := 296) rfl rfl s106.1 rfl rfl rfl r109 rfl ?_
    have k10 : ai_hv t109 7 1 = some (gx_r 257) := (e109 7 1 (by first | decide | omega)).trans k7
    have k11 : ai_hv t109 7 2 = some (gx_r 296) := (e109 7 2 (by first | decide | omega)).trans k8
    have k12 : ai_hv t109 7 3 = some (gx_w 20) := (e109 7 3 (by first | decide | omega)).trans k106
    have s109 : cS t109 a102 f102 := ⟨g109, (e109 1 8 (by first | decide | omega)).trans s106.2.1, (e109 1 1 (by first | decide | omega)).trans s106.2.2.1, s106.2.2.2⟩
    show en_ex _ _ _ _ (36, [(0, gx_r 7), (1, gx_w 20), (2, gx_r 296), (3, .inl (σ 9 0))], [], t109, n, 0) _
    refine ex_go (S := (37, [(0, gx_r 7), (1, gx_w 20), (2, gx_r 296), (3, .inl (σ 9 0))], [gx_r 7], t109, n, 0)) rfl (fun _ => rfl) rfl ?_
    refine ex_go (S := (38, [(0, gx_r 7), (1, gx_w 20), (2, gx_r 296), (3, .inl (σ 9 0))], [.inl 0, gx_r 7], t109, n, 0)) rfl (fun _ => rfl) rfl ?_
    refine ex_go (S := (39, [(0, gx_r 7), (1, gx_w 20), (2, gx_r 296), (3, .inl (σ 9 0))], [.inl 0, .inl 0, gx_r 7], t109, n, 0)) rfl (fun _ => rfl) rfl ?_
    have hT14 := cT_keep (t' := t109) hT (fun c i h => (e109 c i (by first | decide | omega)).trans ((e106 c i (by first | decide | omega)).trans ((e104 c i (by first | decide | omega)).trans (e102 c i (by first | decide | omega)))))
    obtain ⟨_, r113, t113, a113, f113, rfl, s113, e113, w113, qN113, qA113, q113, qE113⟩ := pc_law0 (S := S) (m := m) (N := N) (fh := 7) (lw := 20) cLaw296 (by unfold cFh; omega) d n _ _ _ s109 hT14 (by first | decide | omega) k11 k12
    have b113 := s113.2.2.2
    refine gx_callo (a := 7) rfl rfl s109.1 rfl rfl rfl r113 rfl ?_
    have k15 : ai_hv t113 7 1 = some (gx_r 257) := (e113 7 1 (by first | decide | omega)).trans k10
    have k16 : ai_hv t113 7 2 = some (gx_r 296) := (e113 7 2 (by first | decide | omega)).trans k11
    have k17 : ai_hv t113 7 3 = some (gx_w 20) := (e113 7 3 (by first | decide | omega)).trans k12
    show en_ex _ _ _ _ (42, [(0, gx_r 7), (1, gx_w 20), (2, gx_r 296), (3, .inl (σ 9 0))], [], t113, n, 0) _
    refine ex_go (S := (43, [(0, gx_r 7), (1, gx_w 20), (2, gx_r 296), (3, .inl (σ 9 0))], [gx_r 7], t113, n, 0)) rfl (fun _ => rfl) rfl ?_
    refine gxo_ref (a := 7) (c := 1) rfl s113.1 rfl rfl rfl rfl rfl ?_
    refine ex_go (S := (48, [(0, gx_r 7), (1, gx_w 20), (2, gx_r 296), (3, .inl (σ 9 0))], [.inl 59, gx_r 1], t113, n, 0)) rfl (fun _ => rfl) rfl ?_
    have hT19 := cT_keep (t' := t113) hT (fun c i h => (e113 c i (by first | decide | omega)).trans ((e109 c i (by first | decide | omega)).trans ((e106 c i (by first | decide | omega)).trans ((e104 c i (by first | decide | omega)).trans (e102 c i (by first | decide | omega))))))
    obtain ⟨_, r118, t118, a118, f118, rfl, s118, e118, z118, q118⟩ := pc_takeSign (d + 36) n (s113) hT19 (by first | decide | omega) (w := 59) (by first | decide | omega)
    have b118 := s118.2.2.2
    have y118 := z118.trans (congrArg (fs S m N 59) (rfl : (a113, f113) = (a113, f113)))
    refine gx_callo (a := 1) rfl rfl s113.1 rfl rfl rfl r118 rfl ?_
    have k20 : ai_hv t118 7 1 = some (gx_r 257) := (e118 7 1 (by first | decide | omega)).trans k15
    have k21 : ai_hv t118 7 2 = some (gx_r 296) := (e118 7 2 (by first | decide | omega)).trans k16
    have k22 : ai_hv t118 7 3 = some (gx_w 20) := (e118 7 3 (by first | decide | omega)).trans k17
    show en_ex _ _ _ _ (51, [(0, gx_r 7), (1, gx_w 20), (2, gx_r 296), (3, .inl (σ 9 0))], [], t118, n, 0) _
    refine ex_go (S := (52, [(0, gx_r 7), (1, gx_w 20), (2, gx_r 296), (3, .inl (σ 9 0))], [.inl 1], t118, n, 0)) rfl (fun _ => rfl) rfl ?_
    refine ex_ret (r := (some (.inl 1), t118, n, 0)) rfl (fun _ => rfl) ?_
    have hT23 := cT_keep (t' := t118) hT (fun c i h => (e118 c i (by first | decide | omega)).trans ((e113 c i (by first | decide | omega)).trans ((e109 c i (by first | decide | omega)).trans ((e106 c i (by first | decide | omega)).trans ((e104 c i (by first | decide | omega)).trans (e102 c i (by first | decide | omega)))))))
    refine ⟨_, rfl, t118, a118, f118, rfl, s118, hT23, k20, (fun c i h => (e118 c i (by first | decide | omega)).trans ((e113 c i (by first | decide | omega)).trans ((e109 c i (by first | decide | omega)).trans ((e106 c i (by first | decide | omega)).trans ((e104 c i (by first | decide | omega)).trans (e102 c i (by first | decide | omega))))))), ⟨(a113, f113), ?_, z118⟩, by omega, fun z9 => ⟨by omega, ?_⟩, CA_keep (by first | decide | omega) hA (fun c i h h2 => (e118 c i (by first | decide | omega)).trans ((e113 c i (by first | decide | omega)).trans ((e109 c i (by first | decide | omega)).trans ((e106 c i (by first | decide | omega)).trans ((e104 c i (by first | decide | omega)).trans (e102 c i (by first | decide | omega))))))), fun c i l1 l2 l3 l4 => (e118 c i (by first | decide | omega)).trans ((e113 c i (by first | decide | omega)).trans ((e109 c i (by first | decide | omega)).trans ((e106 c i (by first | decide | omega)).trans ((e104 c i (by first | decide | omega)).trans (e102 c i (by first | decide | omega))))))⟩
    · rw [← ya]
      exact w113
    · obtain ⟨L9, c9, l9, m9⟩ := qE113 0 kl109 (Nat.zero_le _) (by first | decide | omega)
      exact ⟨L9, Ec_at c9 (by show a102 = a + 1; omega) (by first | rfl | (show f102 = 0; omega)), CLs_keep (CLs_of m9) (e118 296 2 (by first | decide | omega)) (fun j => e118 298 j (by first | decide | omega))⟩
  · refine gx_1f (c := .eq) rfl (by first | decide | omega) hc1 rfl ?_
    refine ex_go (S := (5, [(0, gx_r 7), (1, gx_w 20), (2, gx_r 296), (3, .inl (σ 9 0))], [gx_r 7], t0, n, 0)) rfl (fun _ => rfl) rfl ?_
    refine gxo_ref (a := 7) (c := 1) rfl s0.1 rfl rfl rfl rfl rfl ?_
    refine ex_go (S := (9, [(0, gx_r 7), (1, gx_w 20), (2, gx_r 296), (3, .inl (σ 9 0))], [.inl 3, gx_r 1], t0, n, 0)) rfl (fun _ => rfl) rfl ?_
    obtain ⟨_, r124, t124, a124, f124, rfl, s124, e124, q124⟩ := pc_wrong (d + 37) n (s0) hT (by first | decide | omega) (w := 3) (by first | decide | omega)
    have b124 := s124.2.2.2
    refine gx_callo (a := 1) rfl rfl s0.1 rfl rfl rfl r124 rfl ?_
    have k25 : ai_hv t124 7 1 = some (gx_r 257) := (e124 7 1 (by first | decide | omega)).trans hP
    show en_ex _ _ _ _ (12, [(0, gx_r 7), (1, gx_w 20), (2, gx_r 296), (3, .inl (σ 9 0))], [], t124, n, 0) _
    refine ex_go (S := (13, [(0, gx_r 7), (1, gx_w 20), (2, gx_r 296), (3, .inl (σ 9 0))], [gx_r 7], t124, n, 0)) rfl (fun _ => rfl) rfl ?_
    refine gxo_ref (a := 7) (c := 1) rfl s124.1 rfl rfl rfl rfl rfl ?_
    have hT27 := cT_keep (t' := t124) hT (fun c i h => e124 c i (by first | decide | omega))
    obtain ⟨_, r126, t126, a126, f126, rfl, s126, e126, q126⟩ := pc_goOn (d + 37) n (s124) hT27 (by first | decide | omega) 
    have b126 := s126.2.2.2
    refine gx_callo (a := 1) rfl rfl s124.1 rfl rfl rfl r126 rfl ?_
    have k28 : ai_hv t126 7 1 = some (gx_r 257) := (e126 7 1 (by first | decide | omega)).trans k25
    show en_ex _ _ _ _ (19, [(0, gx_r 7), (1, gx_w 20), (2, gx_r 296), (3, .inl (σ 9 0))], [], t126, n, 0) _
    have ya : (a126, f126) = fr S m (σ 9 0 ≠ 0) 3 (a, 0) := by
      rw [fr_w (show σ 9 0 ≠ 0 by omega)]; exact Prod.ext (by show a126 = a; omega) (by show f126 = 3 + 16 * sp_st S m a; omega)
    refine ex_go (S := (20, [(0, gx_r 7), (1, gx_w 20), (2, gx_r 296), (3, .inl (σ 9 0))], [gx_r 7], t126, n, 0)) rfl (fun _ => rfl) rfl ?_
    refine ex_go (S := (21, [(0, gx_r 7), (1, gx_w 20), (2, gx_r 296), (3, .inl (σ 9 0))], [gx_r 296, gx_r 7], t126, n, 0)) rfl (fun _ => rfl) rfl ?_
    refine gxo_putr (a := 7) (h := .inr (.inr [0, 330, 333, 336, 396, 399, 402])) rfl s126.1 rfl rfl rfl (refin_r (by decide)) rfl (fun t129 g129 k129 e129 => ?_)
    have k30 : ai_hv t129 7 1 = some (gx_r 257) := (e129 7 1 (by first | decide | omega)).trans k28
    have s129 : cS t129 a126 f126 := ⟨g129, (e129 1 8 (by first | decide | omega)).trans s126.2.1, (e129 1 1 (by first | decide | omega)).trans s126.2.2.1, s126.2.2.2⟩
    refine ex_go (S := (25, [(0, gx_r 7), (1, gx_w 20), (2, gx_r 296), (3, .inl (σ 9 0))], [gx_r 7], t129, n, 0)) rfl (fun _ => rfl) rfl ?_
    refine ex_go (S := (26, [(0, gx_r 7), (1, gx_w 20), (2, gx_r 296), (3, .inl (σ 9 0))], [gx_w 20, gx_r 7], t129, n, 0)) rfl (fun _ => rfl) rfl ?_
    refine gxo_putr (a := 7) (h := .inr (.inr [0, 1])) rfl s129.1 rfl rfl rfl (refin_w (by decide) (by first | decide | omega)) rfl (fun t131 g131 k131 e131 => ?_)
    have k32 : ai_hv t131 7 1 = some (gx_r 257) := (e131 7 1 (by first | decide | omega)).trans k30
    have k33 : ai_hv t131 7 2 = some (gx_r 296) := (e131 7 2 (by first | decide | omega)).trans k129
    have s131 : cS t131 a126 f126 := ⟨g131, (e131 1 8 (by first | decide | omega)).trans s129.2.1, (e131 1 1 (by first | decide | omega)).trans s129.2.2.1, s129.2.2.2⟩
    refine ex_go (S := (30, [(0, gx_r 7), (1, gx_w 20), (2, gx_r 296), (3, .inl (σ 9 0))], [gx_r 7], t131, n, 0)) rfl (fun _ => rfl) rfl ?_
    refine gxo_get (a := 7) rfl s131.1 rfl rfl k33 rfl ?_
    obtain ⟨_, r134, t134, rfl, g134, e134, kl134⟩ := pc_lclear296 (d + 37) n s131.1
    refine gx_callo (a := 296) rfl rfl s131.1 rfl rfl rfl r134 rfl ?_
    have k35 : ai_hv t134 7 1 = some (gx_r 257) := (e134 7 1 (by first | decide | omega)).trans k32
    have k36 : ai_hv t134 7 2 = some (gx_r 296) := (e134 7 2 (by first | decide | omega)).trans k33
    have k37 : ai_hv t134 7 3 = some (gx_w 20) := (e134 7 3 (by first | decide | omega)).trans k131
    have s134 : cS t134 a126 f126 := ⟨g134, (e134 1 8 (by first | decide | omega)).trans s131.2.1, (e134 1 1 (by first | decide | omega)).trans s131.2.2.1, s131.2.2.2⟩
    show en_ex _ _ _ _ (36, [(0, gx_r 7), (1, gx_w 20), (2, gx_r 296), (3, .inl (σ 9 0))], [], t134, n, 0) _
    refine ex_go (S := (37, [(0, gx_r 7), (1, gx_w 20), (2, gx_r 296), (3, .inl (σ 9 0))], [gx_r 7], t134, n, 0)) rfl (fun _ => rfl) rfl ?_
    refine ex_go (S := (38, [(0, gx_r 7), (1, gx_w 20), (2, gx_r 296), (3, .inl (σ 9 0))], [.inl 0, gx_r 7], t134, n, 0)) rfl (fun _ => rfl) rfl ?_
    refine ex_go (S := (39, [(0, gx_r 7), (1, gx_w 20), (2, gx_r 296), (3, .inl (σ 9 0))], [.inl 0, .inl 0, gx_r 7], t134, n, 0)) rfl (fun _ => rfl) rfl ?_
    have hT39 := cT_keep (t' := t134) hT (fun c i h => (e134 c i (by first | decide | omega)).trans ((e131 c i (by first | decide | omega)).trans ((e129 c i (by first | decide | omega)).trans ((e126 c i (by first | decide | omega)).trans (e124 c i (by first | decide | omega))))))
    obtain ⟨_, r138, t138, a138, f138, rfl, s138, e138, w138, qN138, qA138, q138, qE138⟩ := pc_law0 (S := S) (m := m) (N := N) (fh := 7) (lw := 20) cLaw296 (by unfold cFh; omega) d n _ _ _ s134 hT39 (by first | decide | omega) k36 k37
    have b138 := s138.2.2.2
    refine gx_callo (a := 7) rfl rfl s134.1 rfl rfl rfl r138 rfl ?_
    have k40 : ai_hv t138 7 1 = some (gx_r 257) := (e138 7 1 (by first | decide | omega)).trans k35
    have k41 : ai_hv t138 7 2 = some (gx_r 296) := (e138 7 2 (by first | decide | omega)).trans k36
    have k42 : ai_hv t138 7 3 = some (gx_w 20) := (e138 7 3 (by first | decide | omega)).trans k37
    show en_ex _ _ _ _ (42, [(0, gx_r 7), (1, gx_w 20), (2, gx_r 296), (3, .inl (σ 9 0))], [], t138, n, 0) _
    refine ex_go (S := (43, [(0, gx_r 7), (1, gx_w 20), (2, gx_r 296), (3, .inl (σ 9 0))], [gx_r 7], t138, n, 0)) rfl (fun _ => rfl) rfl ?_
    refine gxo_ref (a := 7) (c := 1) rfl s138.1 rfl rfl rfl rfl rfl ?_
    refine ex_go (S := (48, [(0, gx_r 7), (1, gx_w 20), (2, gx_r 296), (3, .inl (σ 9 0))], [.inl 59, gx_r 1], t138, n, 0)) rfl (fun _ => rfl) rfl ?_
    have hT44 := cT_keep (t' := t138) hT (fun c i h => (e138 c i (by first | decide | omega)).trans ((e134 c i (by first | decide | omega)).trans ((e131 c i (by first | decide | omega)).trans ((e129 c i (by first | decide | omega)).trans ((e126 c i (by first | decide | omega)).trans (e124 c i (by first | decide | omega)))))))
    obtain ⟨_, r143, t143, a143, f143, rfl, s143, e143, z143, q143⟩ := pc_takeSign (d + 36) n (s138) hT44 (by first | decide | omega) (w := 59) (by first | decide | omega)
    have b143 := s143.2.2.2
    have y143 := z143.trans (congrArg (fs S m N 59) (rfl : (a138, f138) = (a138, f138)))
    refine gx_callo (a := 1) rfl rfl s138.1 rfl rfl rfl r143 rfl ?_
    have k45 : ai_hv t143 7 1 = some (gx_r 257) := (e143 7 1 (by first | decide | omega)).trans k40
    have k46 : ai_hv t143 7 2 = some (gx_r 296) := (e143 7 2 (by first | decide | omega)).trans k41
    have k47 : ai_hv t143 7 3 = some (gx_w 20) := (e143 7 3 (by first | decide | omega)).trans k42
    show en_ex _ _ _ _ (51, [(0, gx_r 7), (1, gx_w 20), (2, gx_r 296), (3, .inl (σ 9 0))], [], t143, n, 0) _
    refine ex_go (S := (52, [(0, gx_r 7), (1, gx_w 20), (2, gx_r 296), (3, .inl (σ 9 0))], [.inl 1], t143, n, 0)) rfl (fun _ => rfl) rfl ?_
    refine ex_ret (r := (some (.inl 1), t143, n, 0)) rfl (fun _ => rfl) ?_
    have hT48 := cT_keep (t' := t143) hT (fun c i h => (e143 c i (by first | decide | omega)).trans ((e138 c i (by first | decide | omega)).trans ((e134 c i (by first | decide | omega)).trans ((e131 c i (by first | decide | omega)).trans ((e129 c i (by first | decide | omega)).trans ((e126 c i (by first | decide | omega)).trans (e124 c i (by first | decide | omega))))))))
    refine ⟨_, rfl, t143, a143, f143, rfl, s143, hT48, k45, (fun c i h => (e143 c i (by first | decide | omega)).trans ((e138 c i (by first | decide | omega)).trans ((e134 c i (by first | decide | omega)).trans ((e131 c i (by first | decide | omega)).trans ((e129 c i (by first | decide | omega)).trans ((e126 c i (by first | decide | omega)).trans (e124 c i (by first | decide | omega)))))))), ⟨(a138, f138), ?_, z143⟩, by omega, fun z9 => ⟨by omega, ?_⟩, CA_keep (by first | decide | omega) hA (fun c i h h2 => (e143 c i (by first | decide | omega)).trans ((e138 c i (by first | decide | omega)).trans ((e134 c i (by first | decide | omega)).trans ((e131 c i (by first | decide | omega)).trans ((e129 c i (by first | decide | omega)).trans ((e126 c i (by first | decide | omega)).trans (e124 c i (by first | decide | omega)))))))), fun c i l1 l2 l3 l4 => (e143 c i (by first | decide | omega)).trans ((e138 c i (by first | decide | omega)).trans ((e134 c i (by first | decide | omega)).trans ((e131 c i (by first | decide | omega)).trans ((e129 c i (by first | decide | omega)).trans ((e126 c i (by first | decide | omega)).trans (e124 c i (by first | decide | omega)))))))⟩
    · rw [← ya]
      exact w138
    · obtain ⟨L9, c9, l9, m9⟩ := qE138 0 kl134 (Nat.zero_le _) (by first | decide | omega)
      exact ⟨L9, Ec_at c9 (by show a126 = a + 1; omega) (by first | rfl | (show f126 = 0; omega)), CLs_keep (CLs_of m9) (e143 296 2 (by first | decide | omega)) (fun j => e143 298 j (by first | decide | omega))⟩
theorem pc_lawLine257_1 (d n : Nat) {t0 : en_H} {a : Nat} {S : Nat → Nat} {m N : Nat} {σ : Nat → Nat → Nat} (s0 : cS t0 a 0) (hT : cT t0 S m N) (ha : a < N) (hP : ai_hv t0 7 1 = some (gx_r 257)) (hA : CA t0 257 S m σ) (h3 : W3 S m N σ) (h9 : σ 9 1 ≤ 1) : ∃ r, en_u (d + 39) 239 [gx_r 7, gx_w 21, gx_r 299, .inl (σ 9 1)] t0 n = some r ∧ ∃ t' a' f', r = (some (.inl 1), t', n, 0) ∧ cS t' a' f' ∧ cT t' S m N ∧ ai_hv t' 7 1 = some (gx_r 257) ∧ cV 257 t0 t' ∧ (∃ q, Ev S m N (sp_fh 1) 0 0 (fr S m (σ 9 1 ≠ 0) 3 (a, 0)) q ∧ (a', f') = fs S m N 59 q) ∧ a' ≤ N ∧ (f' = 0 → a < a' ∧ ∃ L, Ec S m N (sp_fh 1) 0 0 (a + 1, 0) L ∧ CLs t' 299 L) ∧ CA t' 257 S m σ ∧ ∀ c i, 296 ≤ c → c ≤ 304 → c ≠ 299 → c ≠ 301 → ai_hv t' c i = ai_hv t0 c i := by
  have b0 := s0.2.2.2
  have hN := hT.2.2.2.2.2.2.1
  refine en_u_ex (d := d + 38) rfl ?_
  show en_ex _ _ _ _ (0, [(0, gx_r 7), (1, gx_w 21), (2, gx_r 299), (3, .inl (σ 9 1))], [], t0, n, 0) _
  refine ex_go (S := (1, [(0, gx_r 7), (1, gx_w 21), (2, gx_r 299), (3, .inl (σ 9 1))], [.inl (σ 9 1)], t0, n, 0)) rfl (fun _ => rfl) rfl ?_
  by_cases hc1 : σ 9 1 = 0
  · refine gx_1t (c := .eq) rfl (by first | decide | omega) hc1 rfl ?_
    refine ex_go (S := (13, [(0, gx_r 7), (1, gx_w 21), (2, gx_r 299), (3, .inl (σ 9 1))], [gx_r 7], t0, n, 0)) rfl (fun _ => rfl) rfl ?_
    refine gxo_ref (a := 7) (c := 1) rfl s0.1 rfl rfl rfl rfl rfl ?_
    obtain ⟨_, r102, t102, a102, f102, rfl, s102, e102, q102⟩ := pc_goOn (d + 37) n (s0) hT (by first | decide | omega) 
    have b102 := s102.2.2.2
    refine gx_callo (a := 1) rfl rfl s0.1 rfl rfl rfl r102 rfl ?_
    have k3 : ai_hv t102 7 1 = some (gx_r 257) := (e102 7 1 (by first | decide | omega)).trans hP
    show en_ex _ _ _ _ (19, [(0, gx_r 7), (1, gx_w 21), (2, gx_r 299), (3, .inl (σ 9 1))], [], t102, n, 0) _
    have ya : (a102, f102) = fr S m (σ 9 1 ≠ 0) 3 (a, 0) := by
      rw [fr_yes (show ¬ σ 9 1 ≠ 0 by omega)]; exact Prod.ext (by show a102 = a + 1; omega) (by show f102 = 0; omega)
    refine ex_go (S := (20, [(0, gx_r 7), (1, gx_w 21), (2, gx_r 299), (3, .inl (σ 9 1))], [gx_r 7], t102, n, 0)) rfl (fun _ => rfl) rfl ?_
    refine ex_go (S := (21, [(0, gx_r 7), (1, gx_w 21), (2, gx_r 299), (3, .inl (σ 9 1))], [gx_r 299, gx_r 7], t102, n, 0)) rfl (fun _ => rfl) rfl ?_
    refine gxo_putr (a := 7) (h := .inr (.inr [0, 330, 333, 336, 396, 399, 402])) rfl s102.1 rfl rfl rfl (refin_r (by decide)) rfl (fun t104 g104 k104 e104 => ?_)
    have k5 : ai_hv t104 7 1 = some (gx_r 257) := (e104 7 1 (by first | decide | omega)).trans k3
    have s104 : cS t104 a102 f102 := ⟨g104, (e104 1 8 (by first | decide | omega)).trans s102.2.1, (e104 1 1 (by first | decide | omega)).trans s102.2.2.1, s102.2.2.2⟩
    refine ex_go (S := (25, [(0, gx_r 7), (1, gx_w 21), (2, gx_r 299), (3, .inl (σ 9 1))], [gx_r 7], t104, n, 0)) rfl (fun _ => rfl) rfl ?_
    refine ex_go (S := (26, [(0, gx_r 7), (1, gx_w 21), (2, gx_r 299), (3, .inl (σ 9 1))], [gx_w 21, gx_r 7], t104, n, 0)) rfl (fun _ => rfl) rfl ?_
    refine gxo_putr (a := 7) (h := .inr (.inr [0, 1])) rfl s104.1 rfl rfl rfl (refin_w (by decide) (by first | decide | omega)) rfl (fun t106 g106 k106 e106 => ?_)
    have k7 : ai_hv t106 7 1 = some (gx_r 257) := (e106 7 1 (by first | decide | omega)).trans k5
    have k8 : ai_hv t106 7 2 = some (gx_r 299) := (e106 7 2 (by first | decide | omega)).trans k104
    have s106 : cS t106 a102 f102 := ⟨g106, (e106 1 8 (by first | decide | omega)).trans s104.2.1, (e106 1 1 (by first | decide | omega)).trans s104.2.2.1, s104.2.2.2⟩
    refine ex_go (S := (30, [(0, gx_r 7), (1, gx_w 21), (2, gx_r 299), (3, .inl (σ 9 1))], [gx_r 7], t106, n, 0)) rfl (fun _ => rfl) rfl ?_
    refine gxo_get (a := 7) rfl s106.1 rfl rfl k8 rfl ?_
    obtain ⟨_, r109, t109, rfl, g109, e109, kl109⟩ := pc_lclear299 (d + 37) n s106.1
    refine gx_callo (a := 299) rfl rfl s106.1 rfl rfl rfl r109 rfl ?_
    have k10 : ai_hv t109 7 1 = some (gx_r 257) := (e109 7 1 (by first | decide | omega)).trans k7
    have k11 : ai_hv t109 7 2 = some (gx_r 299) := (e109 7 2 (by first | decide | omega)).trans k8
    have k12 : ai_hv t109 7 3 = some (gx_w 21) := (e109 7 3 (by first | decide | omega)).trans k106
    have s109 : cS t109 a102 f102 := ⟨g109, (e109 1 8 (by first | decide | omega)).trans s106.2.1, (e109 1 1 (by first | decide | omega)).trans s106.2.2.1, s106.2.2.2⟩
    show en_ex _ _ _ _ (36, [(0, gx_r 7), (1, gx_w 21), (2, gx_r 299), (3, .inl (σ 9 1))], [], t109, n, 0) _
    refine ex_go (S := (37, [(0, gx_r 7), (1, gx_w 21), (2, gx_r 299), (3, .inl (σ 9 1))], [gx_r 7], t109, n, 0)) rfl (fun _ => rfl) rfl ?_
    refine ex_go (S := (38, [(0, gx_r 7), (1, gx_w 21), (2, gx_r 299), (3, .inl (σ 9 1))], [.inl 0, gx_r 7], t109, n, 0)) rfl (fun _ => rfl) rfl ?_
    refine ex_go (S := (39, [(0, gx_r 7), (1, gx_w 21), (2, gx_r 299), (3, .inl (σ 9 1))], [.inl 0, .inl 0, gx_r 7], t109, n, 0)) rfl (fun _ => rfl) rfl ?_
    have hT14 := cT_keep (t' := t109) hT (fun c i h => (e109 c i (by first | decide | omega)).trans ((e106 c i (by first | decide | omega)).trans ((e104 c i (by first | decide | omega)).trans (e102 c i (by first | decide | omega)))))
    obtain ⟨_, r113, t113, a113, f113, rfl, s113, e113, w113, qN113, qA113, q113, qE113⟩ := pc_law0 (S := S) (m := m) (N := N) (fh := 8) (lw := 21) cLaw299 (by unfold cFh; omega) d n _ _ _ s109 hT14 (by first | decide | omega) k11 k12
    have b113 := s113.2.2.2
    refine gx_callo (a := 7) rfl rfl s109.1 rfl rfl rfl r113 rfl ?_
    have k15 : ai_hv t113 7 1 = some (gx_r 257) := (e113 7 1 (by first | decide | omega)).trans k10
    have k16 : ai_hv t113 7 2 = some (gx_r 299) := (e113 7 2 (by first | decide | omega)).trans k11
    have k17 : ai_hv t113 7 3 = some (gx_w 21) := (e113 7 3 (by first | decide | omega)).trans k12
    show en_ex _ _ _ _ (42, [(0, gx_r 7), (1, gx_w 21), (2, gx_r 299), (3, .inl (σ 9 1))], [], t113, n, 0) _
    refine ex_go (S := (43, [(0, gx_r 7), (1, gx_w 21), (2, gx_r 299), (3, .inl (σ 9 1))], [gx_r 7], t113, n, 0)) rfl (fun _ => rfl) rfl ?_
    refine gxo_ref (a := 7) (c := 1) rfl s113.1 rfl rfl rfl rfl rfl ?_
    refine ex_go (S := (48, [(0, gx_r 7), (1, gx_w 21), (2, gx_r 299), (3, .inl (σ 9 1))], [.inl 59, gx_r 1], t113, n, 0)) rfl (fun _ => rfl) rfl ?_
    have hT19 := cT_keep (t' := t113) hT (fun c i h => (e113 c i (by first | decide | omega)).trans ((e109 c i (by first | decide | omega)).trans ((e106 c i (by first | decide | omega)).trans ((e104 c i (by first | decide | omega)).trans (e102 c i (by first | decide | omega))))))
    obtain ⟨_, r118, t118, a118, f118, rfl, s118, e118, z118, q118⟩ := pc_takeSign (d + 36) n (s113) hT19 (by first | decide | omega) (w := 59) (by first | decide | omega)
    have b118 := s118.2.2.2
    have y118 := z118.trans (congrArg (fs S m N 59) (rfl : (a113, f113) = (a113, f113)))
    refine gx_callo (a := 1) rfl rfl s113.1 rfl rfl rfl r118 rfl ?_
    have k20 : ai_hv t118 7 1 = some (gx_r 257) := (e118 7 1 (by first | decide | omega)).trans k15
    have k21 : ai_hv t118 7 2 = some (gx_r 299) := (e118 7 2 (by first | decide | omega)).trans k16
    have k22 : ai_hv t118 7 3 = some (gx_w 21) := (e118 7 3 (by first | decide | omega)).trans k17
    show en_ex _ _ _ _ (51, [(0, gx_r 7), (1, gx_w 21), (2, gx_r 299), (3, .inl (σ 9 1))], [], t118, n, 0) _
    refine ex_go (S := (52, [(0, gx_r 7), (1, gx_w 21), (2, gx_r 299), (3, .inl (σ 9 1))], [.inl 1], t118, n, 0)) rfl (fun _ => rfl) rfl ?_
    refine ex_ret (r := (some (.inl 1), t118, n, 0)) rfl (fun _ => rfl) ?_
    have hT23 := cT_keep (t' := t118) hT (fun c i h => (e118 c i (by first | decide | omega)).trans ((e113 c i (by first | decide | omega)).trans ((e109 c i (by first | decide | omega)).trans ((e106 c i (by first | decide | omega)).trans ((e104 c i (by first | decide | omega)).trans (e102 c i (by first | decide | omega)))))))
    refine ⟨_, rfl, t118, a118, f118, rfl, s118, hT23, k20, (fun c i h => (e118 c i (by first | decide | omega)).trans ((e113 c i (by first | decide | omega)).trans ((e109 c i (by first | decide | omega)).trans ((e106 c i (by first | decide | omega)).trans ((e104 c i (by first | decide | omega)).trans (e102 c i (by first | decide | omega))))))), ⟨(a113, f113), ?_, z118⟩, by omega, fun z9 => ⟨by omega, ?_⟩, CA_keep (by first | decide | omega) hA (fun c i h h2 => (e118 c i (by first | decide | omega)).trans ((e113 c i (by first | decide | omega)).trans ((e109 c i (by first | decide | omega)).trans ((e106 c i (by first | decide | omega)).trans ((e104 c i (by first | decide | omega)).trans (e102 c i (by first | decide | omega))))))), fun c i l1 l2 l3 l4 => (e118 c i (by first | decide | omega)).trans ((e113 c i (by first | decide | omega)).trans ((e109 c i (by first | decide | omega)).trans ((e106 c i (by first | decide | omega)).trans ((e104 c i (by first | decide | omega)).trans (e102 c i (by first | decide | omega))))))⟩
    · rw [← ya]
      exact w113
    · obtain ⟨L9, c9, l9, m9⟩ := qE113 0 kl109 (Nat.zero_le _) (by first | decide | omega)
      exact ⟨L9, Ec_at c9 (by show a102 = a + 1; omega) (by first | rfl | (show f102 = 0; omega)), CLs_keep (CLs_of m9) (e118 299 2 (by first | decide | omega)) (fun j => e118 301 j (by first | decide | omega))⟩
  · refine gx_1f (c := .eq) rfl (by first | decide | omega) hc1 rfl ?_
    refine ex_go (S := (5, [(0, gx_r 7), (1, gx_w 21), (2, gx_r 299), (3, .inl (σ 9 1))], [gx_r 7], t0, n, 0)) rfl (fun _ => rfl) rfl ?_
    refine gxo_ref (a := 7) (c := 1) rfl s0.1 rfl rfl rfl rfl rfl ?_
    refine ex_go (S := (9, [(0, gx_r 7), (1, gx_w 21), (2, gx_r 299), (3, .inl (σ 9 1))], [.inl 3, gx_r 1], t0, n, 0)) rfl (fun _ => rfl) rfl ?_
    obtain ⟨_, r124, t124, a124, f124, rfl, s124, e124, q124⟩ := pc_wrong (d + 37) n (s0) hT (by first | decide | omega) (w := 3) (by first | decide | omega)
    have b124 := s124.2.2.2
    refine gx_callo (a := 1) rfl rfl s0.1 rfl rfl rfl r124 rfl ?_
    have k25 : ai_hv t124 7 1 = some (gx_r 257) := (e124 7 1 (by first | decide | omega)).trans hP
    show en_ex _ _ _ _ (12, [(0, gx_r 7), (1, gx_w 21), (2, gx_r 299), (3, .inl (σ 9 1))], [], t124, n, 0) _
    refine ex_go (S := (13, [(0, gx_r 7), (1, gx_w 21), (2, gx_r 299), (3, .inl (σ 9 1))], [gx_r 7], t124, n, 0)) rfl (fun _ => rfl) rfl ?_
    refine gxo_ref (a := 7) (c := 1) rfl s124.1 rfl rfl rfl rfl rfl ?_
    have hT27 := cT_keep (t' := t124) hT (fun c i h => e124 c i (by first | decide | omega))
    obtain ⟨_, r126, t126, a126, f126, rfl, s126, e126, q126⟩ := pc_goOn (d + 37) n (s124) hT27 (by first | decide | omega) 
    have b126 := s126.2.2.2
    refine gx_callo (a := 1) rfl rfl s124.1 rfl rfl rfl r126 rfl ?_
    have k28 : ai_hv t126 7 1 = some (gx_r 257) := (e126 7 1 (by first | decide | omega)).trans k25
    show en_ex _ _ _ _ (19, [(0, gx_r 7), (1, gx_w 21), (2, gx_r 299), (3, .inl (σ 9 1))], [], t126, n, 0) _
    have ya : (a126, f126) = fr S m (σ 9 1 ≠ 0) 3 (a, 0) := by
      rw [fr_w (show σ 9 1 ≠ 0 by omega)]; exact Prod.ext (by show a126 = a; omega) (by show f126 = 3 + 16 * sp_st S m a; omega)
    refine ex_go (S := (20, [(0, gx_r 7), (1, gx_w 21), (2, gx_r 299), (3, .inl (σ 9 1))], [gx_r 7], t126, n, 0)) rfl (fun _ => rfl) rfl ?_
    refine ex_go (S := (21, [(0, gx_r 7), (1, gx_w 21), (2, gx_r 299), (3, .inl (σ 9 1))], [gx_r 299, gx_r 7], t126, n, 0)) rfl (fun _ => rfl) rfl ?_
    refine gxo_putr (a := 7) (h := .inr (.inr [0, 330, 333, 336, 396, 399, 402])) rfl s126.1 rfl rfl rfl (refin_r (by decide)) rfl (fun t129 g129 k129 e129 => ?_)
    have k30 : ai_hv t129 7 1 = some (gx_r 257) := (e129 7 1 (by first | decide | omega)).trans k28
    have s129 : cS t129 a126 f126 := ⟨g129, (e129 1 8 (by first | decide | omega)).trans s126.2.1, (e129 1 1 (by first | decide | omega)).trans s126.2.2.1, s126.2.2.2⟩
    refine ex_go (S := (25, [(0, gx_r 7), (1, gx_w 21), (2, gx_r 299), (3, .inl (σ 9 1))], [gx_r 7], t129, n, 0)) rfl (fun _ => rfl) rfl ?_
    refine ex_go (S := (26, [(0, gx_r 7), (1, gx_w 21), (2, gx_r 299), (3, .inl (σ 9 1))], [gx_w 21, gx_r 7], t129, n, 0)) rfl (fun _ => rfl) rfl ?_
    refine gxo_putr (a := 7) (h := .inr (.inr [0, 1])) rfl s129.1 rfl rfl rfl (refin_w (by decide) (by first | decide | omega)) rfl (fun t131 g131 k131 e131 => ?_)
    have k32 : ai_hv t131 7 1 = some (gx_r 257) := (e131 7 1 (by first | decide | omega)).trans k30
    have k33 : ai_hv t131 7 2 = some (gx_r 299) := (e131 7 2 (by first | decide | omega)).trans k129
    have s131 : cS t131 a126 f126 := ⟨g131, (e131 1 8 (by first | decide | omega)).trans s129.2.1, (e131 1 1 (by first | decide | omega)).trans s129.2.2.1, s129.2.2.2⟩
    refine ex_go (S := (30, [(0, gx_r 7), (1, gx_w 21), (2, gx_r 299), (3, .inl (σ 9 1))], [gx_r 7], t131, n, 0)) rfl (fun _ => rfl) rfl ?_
    refine gxo_get (a := 7) rfl s131.1 rfl rfl k33 rfl ?_
    obtain ⟨_, r134, t134, rfl, g134, e134, kl134⟩ := pc_lclear299 (d + 37) n s131.1
    refine gx_callo (a := 299) rfl rfl s131.1 rfl rfl rfl r134 rfl ?_
    have k35 : ai_hv t134 7 1 = some (gx_r 257) := (e134 7 1 (by first | decide | omega)).trans k32
    have k36 : ai_hv t134 7 2 = some (gx_r 299) := (e134 7 2 (by first | decide | omega)).trans k33
    have k37 : ai_hv t134 7 3 = some (gx_w 21) := (e134 7 3 (by first | decide | omega)).trans k131
    have s134 : cS t134 a126 f126 := ⟨g134, (e134 1 8 (by first | decide | omega)).trans s131.2.1, (e134 1 1 (by first | decide | omega)).trans s131.2.2.1, s131.2.2.2⟩
    show en_ex _ _ _ _ (36, [(0, gx_r 7), (1, gx_w 21), (2, gx_r 299), (3, .inl (σ 9 1))], [], t134, n, 0) _
    refine ex_go (S := (37, [(0, gx_r 7), (1, gx_w 21), (2, gx_r 299), (3, .inl (σ 9 1))], [gx_r 7], t134, n, 0)) rfl (fun _ => rfl) rfl ?_
    refine ex_go (S := (38, [(0, gx_r 7), (1, gx_w 21), (2, gx_r 299), (3, .inl (σ 9 1))], [.inl 0, gx_r 7], t134, n, 0)) rfl (fun _ => rfl) rfl ?_
    refine ex_go (S := (39, [(0, gx_r 7), (1, gx_w 21), (2, gx_r 299), (3, .inl (σ 9 1))], [.inl 0, .inl 0, gx_r 7], t134, n, 0)) rfl (fun _ => rfl) rfl ?_
    have hT39 := cT_keep (t' := t134) hT (fun c i h => (e134 c i (by first | decide | omega)).trans ((e131 c i (by first | decide | omega)).trans ((e129 c i (by first | decide | omega)).trans ((e126 c i (by first | decide | omega)).trans (e124 c i (by first | decide | omega))))))
    obtain ⟨_, r138, t138, a138, f138, rfl, s138, e138, w138, qN138, qA138, q138, qE138⟩ := pc_law0 (S := S) (m := m) (N := N) (fh := 8) (lw := 21) cLaw299 (by unfold cFh; omega) d n _ _ _ s134 hT39 (by first | decide | omega) k36 k37
    have b138 := s138.2.2.2
    refine gx_callo (a := 7) rfl rfl s134.1 rfl rfl rfl r138 rfl ?_
    have k40 : ai_hv t138 7 1 = some (gx_r 257) := (e138 7 1 (by first | decide | omega)).trans k35
    have k41 : ai_hv t138 7 2 = some (gx_r 299) := (e138 7 2 (by first | decide | omega)).trans k36
    have k42 : ai_hv t138 7 3 = some (gx_w 21) := (e138 7 3 (by first | decide | omega)).trans k37
    show en_ex _ _ _ _ (42, [(0, gx_r 7), (1, gx_w 21), (2, gx_r 299), (3, .inl (σ 9 1))], [], t138, n, 0) _
    refine ex_go (S := (43, [(0, gx_r 7), (1, gx_w 21), (2, gx_r 299), (3, .inl (σ 9 1))], [gx_r 7], t138, n, 0)) rfl (fun _ => rfl) rfl ?_
    refine gxo_ref (a := 7) (c := 1) rfl s138.1 rfl rfl rfl rfl rfl ?_
    refine ex_go (S := (48, [(0, gx_r 7), (1, gx_w 21), (2, gx_r 299), (3, .inl (σ 9 1))], [.inl 59, gx_r 1], t138, n, 0)) rfl (fun _ => rfl) rfl ?_
    have hT44 := cT_keep (t' := t138) hT (fun c i h => (e138 c i (by first | decide | omega)).trans ((e134 c i (by first | decide | omega)).trans ((e131 c i (by first | decide | omega)).trans ((e129 c i (by first | decide | omega)).trans ((e126 c i (by first | decide | omega)).trans (e124 c i (by first | decide | omega)))))))
    obtain ⟨_, r143, t143, a143, f143, rfl, s143, e143, z143, q143⟩ := pc_takeSign (d + 36) n (s138) hT44 (by first | decide | omega) (w := 59) (by first | decide | omega)
    have b143 := s143.2.2.2
    have y143 := z143.trans (congrArg (fs S m N 59) (rfl : (a138, f138) = (a138, f138)))
    refine gx_callo (a := 1) rfl rfl s138.1 rfl rfl rfl r143 rfl ?_
    have k45 : ai_hv t143 7 1 = some (gx_r 257) := (e143 7 1 (by first | decide | omega)).trans k40
    have k46 : ai_hv t143 7 2 = some (gx_r 299) := (e143 7 2 (by first | decide | omega)).trans k41
    have k47 : ai_hv t143 7 3 = some (gx_w 21) := (e143 7 3 (by first | decide | omega)).trans k42
    show en_ex _ _ _ _ (51, [(0, gx_r 7), (1, gx_w 21), (2, gx_r 299), (3, .inl (σ 9 1))], [], t143, n, 0) _
    refine ex_go (S := (52, [(0, gx_r 7), (1, gx_w 21), (2, gx_r 299), (3, .inl (σ 9 1))], [.inl 1], t143, n, 0)) rfl (fun _ => rfl) rfl ?_
    refine ex_ret (r := (some (.inl 1), t143, n, 0)) rfl (fun _ => rfl) ?_
    have hT48 := cT_keep (t' := t143) hT (fun c i h => (e143 c i (by first | decide | omega)).trans ((e138 c i (by first | decide | omega)).trans ((e134 c i (by first | decide | omega)).trans ((e131 c i (by first | decide | omega)).trans ((e129 c i (by first | decide | omega)).trans ((e126 c i (by first | decide | omega)).trans (e124 c i (by first | decide | omega))))))))
    refine ⟨_, rfl, t143, a143, f143, rfl, s143, hT48, k45, (fun c i h => (e143 c i (by first | decide | omega)).trans ((e138 c i (by first | decide | omega)).trans ((e134 c i (by first | decide | omega)).trans ((e131 c i (by first | decide | omega)).trans ((e129 c i (by first | decide | omega)).trans ((e126 c i (by first | decide | omega)).trans (e124 c i (by first | decide | omega)))))))), ⟨(a138, f138), ?_, z143⟩, by omega, fun z9 => ⟨by omega, ?_⟩, CA_keep (by first | decide | omega) hA (fun c i h h2 => (e143 c i (by first | decide | omega)).trans ((e138 c i (by first | decide | omega)).trans ((e134 c i (by first | decide | omega)).trans ((e131 c i (by first | decide | omega)).trans ((e129 c i (by first | decide | omega)).trans ((e126 c i (by first | decide | omega)).trans (e124 c i (by first | decide | omega)))))))), fun c i l1 l2 l3 l4 => (e143 c i (by first | decide | omega)).trans ((e138 c i (by first | decide | omega)).trans ((e134 c i (by first | decide | omega)).trans ((e131 c i (by first | decide | omega)).trans ((e129 c i (by first | decide | omega)).trans ((e126 c i (by first | decide | omega)).trans (e124 c i (by first | decide | omega)))))))⟩
    · rw [← ya]
      exact w138
    · obtain ⟨L9, c9, l9, m9⟩ := qE138 0 kl134 (Nat.zero_le _) (by first | decide | omega)
      exact ⟨L9, Ec_at c9 (by show a126 = a + 1; omega) (by first | rfl | (show f126 = 0; omega)), CLs_keep (CLs_of m9) (e143 299 2 (by first | decide | omega)) (fun j => e143 301 j (by first | decide | omega))⟩
theorem pc_lawLine257_2 (d n : Nat) {t0 : en_H} {a : Nat} {S : Nat → Nat} {m N : Nat} {σ : Nat → Nat → Nat} (s0 : cS t0 a 0) (hT : cT t0 S m N) (ha : a < N) (hP : ai_hv t0 7 1 = some (gx_r 257)) (hA : CA t0 257 S m σ) (h3 : W3 S m N σ) (h9 : σ 9 2 ≤ 1) : ∃ r, en_u (d + 39) 239 [gx_r 7, gx_w 22, gx_r 302, .inl (σ 9 2)] t0 n = some r ∧ ∃ t' a' f', r = (some (.inl 1), t', n, 0) ∧ cS t' a' f' ∧ cT t' S m N ∧ ai_hv t' 7 1 = some (gx_r 257) ∧ cV 257 t0 t' ∧ (∃ q, Ev S m N (sp_fh 2) 0 0 (fr S m (σ 9 2 ≠ 0) 3 (a, 0)) q ∧ (a', f') = fs S m N 59 q) ∧ a' ≤ N ∧ (f' = 0 → a < a' ∧ ∃ L, Ec S m N (sp_fh 2) 0 0 (a + 1, 0) L ∧ CLs t' 302 L) ∧ CA t' 257 S m σ ∧ ∀ c i, 296 ≤ c → c ≤ 304 → c ≠ 302 → c ≠ 304 → ai_hv t' c i = ai_hv t0 c i := by
  have b0 := s0.2.2.2
  have hN := hT.2.2.2.2.2.2.1
  refine en_u_ex (d := d + 38) rfl ?_
  show en_ex _ _ _ _ (0, [(0, gx_r 7), (1, gx_w 22), (2, gx_r 302), (3, .inl (σ 9 2))], [], t0, n, 0) _
  refine ex_go (S := (1, [(0, gx_r 7), (1, gx_w 22), (2, gx_r 302), (3, .inl (σ 9 2))], [.inl (σ 9 2)], t0, n, 0)) rfl (fun _ => rfl) rfl ?_
  by_cases hc1 : σ 9 2 = 0
  · refine gx_1t (c := .eq) rfl (by first | decide | omega) hc1 rfl ?_
    refine ex_go (S := (13, [(0, gx_r 7), (1, gx_w 22), (2, gx_r 302), (3, .inl (σ 9 2))], [gx_r 7], t0, n, 0)) rfl (fun _ => rfl) rfl ?_
    refine gxo_ref (a := 7) (c := 1) rfl s0.1 rfl rfl rfl rfl rfl ?_
    obtain ⟨_, r102, t102, a102, f102, rfl, s102, e102, q102⟩ := pc_goOn (d + 37) n (s0) hT (by first | decide | omega) 
    have b102 := s102.2.2.2
    refine gx_callo (a := 1) rfl rfl s0.1 rfl rfl rfl r102 rfl ?_
    have k3 : ai_hv t102 7 1 = some (gx_r 257) := (e102 7 1 (by first | decide | omega)).trans hP
    show en_ex _ _ _ _ (19, [(0, gx_r 7), (1, gx_w 22), (2, gx_r 302), (3, .inl (σ 9 2))], [], t102, n, 0) _
    have ya : (a102, f102) = fr S m (σ 9 2 ≠ 0) 3 (a, 0) := by
      rw [fr_yes (show ¬ σ 9 2 ≠ 0 by omega)]; exact Prod.ext (by show a102 = a + 1; omega) (by show f102 = 0; omega)
    refine ex_go (S := (20, [(0, gx_r 7), (1, gx_w 22), (2, gx_r 302), (3, .inl (σ 9 2))], [gx_r 7], t102, n, 0)) rfl (fun _ => rfl) rfl ?_
    refine ex_go (S := (21, [(0, gx_r 7), (1, gx_w 22), (2, gx_r 302), (3, .inl (σ 9 2))], [gx_r 302, gx_r 7], t102, n, 0)) rfl (fun _ => rfl) rfl ?_
    refine gxo_putr (a := 7) (h := .inr (.inr [0, 330, 333, 336, 396, 399, 402])) rfl s102.1 rfl rfl rfl (refin_r (by decide)) rfl (fun t104 g104 k104 e104 => ?_)
    have k5 : ai_hv t104 7 1 = some (gx_r 257) := (e104 7 1 (by first | decide | omega)).trans k3
    have s104 : cS t104 a102 f102 := ⟨g104, (e104 1 8 (by first | decide | omega)).trans s102.2.1, (e104 1 1 (by first | decide | omega)).trans s102.2.2.1, s102.2.2.2⟩
    refine ex_go (S := (25, [(0, gx_r 7), (1, gx_w 22), (2, gx_r 302), (3, .inl (σ 9 2))], [gx_r 7], t104, n, 0)) rfl (fun _ => rfl) rfl ?_
    refine ex_go (S := (26, [(0, gx_r 7), (1, gx_w 22), (2, gx_r 302), (3, .inl (σ 9 2))], [gx_w 22, gx_r 7], t104, n, 0)) rfl (fun _ => rfl) rfl ?_
    refine gxo_putr (a := 7) (h := .inr (.inr [0, 1])) rfl s104.1 rfl rfl rfl (refin_w (by decide) (by first | decide | omega)) rfl (fun t106 g106 k106 e106 => ?_)
    have k7 : ai_hv t106 7 1 = some (gx_r 257) := (e106 7 1 (by first | decide | omega)).trans k5
    have k8 : ai_hv t106 7 2 = some (gx_r 302) := (e106 7 2 (by first | decide | omega)).trans k104
    have s106 : cS t106 a102 f102 := ⟨g106, (e106 1 8 (by first | decide | omega)).trans s104.2.1, (e106 1 1 (by first | decide | omega)).trans s104.2.2.1, s104.2.2.2⟩
    refine ex_go (S := (30, [(0, gx_r 7), (1, gx_w 22), (2, gx_r 302), (3, .inl (σ 9 2))], [gx_r 7], t106, n, 0)) rfl (fun _ => rfl) rfl ?_
    refine gxo_get (a := 7) rfl s106.1 rfl rfl k8 rfl ?_
    obtain ⟨_, r109, t109, rfl, g109, e109, kl109⟩ := pc_lclear302 (d + 37) n s106.1
    refine gx_callo (a := 302) rfl rfl s106.1 rfl rfl rfl r109 rfl ?_
    have k10 : ai_hv t109 7 1 = some (gx_r 257) := (e109 7 1 (by first | decide | omega)).trans k7
    have k11 : ai_hv t109 7 2 = some (gx_r 302) := (e109 7 2 (by first | decide | omega)).trans k8
    have k12 : ai_hv t109 7 3 = some (gx_w 22) := (e109 7 3 (by first | decide | omega)).trans k106
    have s109 : cS t109 a102 f102 := ⟨g109, (e109 1 8 (by first | decide | omega)).trans s106.2.1, (e109 1 1 (by first | decide | omega)).trans s106.2.2.1, s106.2.2.2⟩
    show en_ex _ _ _ _ (36, [(0, gx_r 7), (1, gx_w 22), (2, gx_r 302), (3, .inl (σ 9 2))], [], t109, n, 0) _
    refine ex_go (S := (37, [(0, gx_r 7), (1, gx_w 22), (2, gx_r 302), (3, .inl (σ 9 2))], [gx_r 7], t109, n, 0)) rfl (fun _ => rfl) rfl ?_
    refine ex_go (S := (38, [(0, gx_r 7), (1, gx_w 22), (2, gx_r 302), (3, .inl (σ 9 2))], [.inl 0, gx_r 7], t109, n, 0)) rfl (fun _ => rfl) rfl ?_
    refine ex_go (S := (39, [(0, gx_r 7), (1, gx_w 22), (2, gx_r 302), (3, .inl (σ 9 2))], [.inl 0, .inl 0, gx_r 7], t109, n, 0)) rfl (fun _ => rfl) rfl ?_
    have hT14 := cT_keep (t' := t109) hT (fun c i h => (e109 c i (by first | decide | omega)).trans ((e106 c i (by first | decide | omega)).trans ((e104 c i (by first | decide | omega)).trans (e102 c i (by first | decide | omega)))))
    obtain ⟨_, r113, t113, a113, f113, rfl, s113, e113, w113, qN113, qA113, q113, qE113⟩ := pc_law0 (S := S) (m := m) (N := N) (fh := 2) (lw := 22) cLaw302 (by unfold cFh; omega) d n _ _ _ s109 hT14 (by first | decide | omega) k11 k12
    have b113 := s113.2.2.2
    refine gx_callo (a := 7) rfl rfl s109.1 rfl rfl rfl r113 rfl ?_
    have k15 : ai_hv t113 7 1 = some (gx_r 257) := (e113 7 1 (by first | decide | omega)).trans k10
    have k16 : ai_hv t113 7 2 = some (gx_r 302) := (e113 7 2 (by first | decide | omega)).trans k11
    have k17 : ai_hv t113 7 3 = some (gx_w 22) := (e113 7 3 (by first | decide | omega)).trans k12
    show en_ex _ _ _ _ (42, [(0, gx_r 7), (1, gx_w 22), (2, gx_r 302), (3, .inl (σ 9 2))], [], t113, n, 0) _
    refine ex_go (S := (43, [(0, gx_r 7), (1, gx_w 22), (2, gx_r 302), (3, .inl (σ 9 2))], [gx_r 7], t113, n, 0)) rfl (fun _ => rfl) rfl ?_
    refine gxo_ref (a := 7) (c := 1) rfl s113.1 rfl rfl rfl rfl rfl ?_
    refine ex_go (S := (48, [(0, gx_r 7), (1, gx_w 22), (2, gx_r 302), (3, .inl (σ 9 2))], [.inl 59, gx_r 1], t113, n, 0)) rfl (fun _ => rfl) rfl ?_
    have hT19 := cT_keep (t' := t113) hT (fun c i h => (e113 c i (by first | decide | omega)).trans ((e109 c i (by first | decide | omega)).trans ((e106 c i (by first | decide | omega)).trans ((e104 c i (by first | decide | omega)).trans (e102 c i (by first | decide | omega))))))
    obtain ⟨_, r118, t118, a118, f118, rfl, s118, e118, z118, q118⟩ := pc_takeSign (d + 36) n (s113) hT19 (by first | decide | omega) (w := 59) (by first | decide | omega)
    have b118 := s118.2.2.2
    have y118 := z118.trans (congrArg (fs S m N 59) (rfl : (a113, f113) = (a113, f113)))
    refine gx_callo (a := 1) rfl rfl s113.1 rfl rfl rfl r118 rfl ?_
    have k20 : ai_hv t118 7 1 = some (gx_r 257) := (e118 7 1 (by first | decide | omega)).trans k15
    have k21 : ai_hv t118 7 2 = some (gx_r 302) := (e118 7 2 (by first | decide | omega)).trans k16
    have k22 : ai_hv t118 7 3 = some (gx_w 22) := (e118 7 3 (by first | decide | omega)).trans k17
    show en_ex _ _ _ _ (51, [(0, gx_r 7), (1, gx_w 22), (2, gx_r 302), (3, .inl (σ 9 2))], [], t118, n, 0) _
    refine ex_go (S := (52, [(0, gx_r 7), (1, gx_w 22), (2, gx_r 302), (3, .inl (σ 9 2))], [.inl 1], t118, n, 0)) rfl (fun _ => rfl) rfl ?_
    refine ex_ret (r := (some (.inl 1), t118, n, 0)) rfl (fun _ => rfl) ?_
    have hT23 := cT_keep (t' := t118) hT (fun c i h => (e118 c i (by first | decide | omega)).trans ((e113 c i (by first | decide | omega)).trans ((e109 c i (by first | decide | omega)).trans ((e106 c i (by first | decide | omega)).trans ((e104 c i (by first | decide | omega)).trans (e102 c i (by first | decide | omega)))))))
    refine ⟨_, rfl, t118, a118, f118, rfl, s118, hT23, k20, (fun c i h => (e118 c i (by first | decide | omega)).trans ((e113 c i (by first | decide | omega)).trans ((e109 c i (by first | decide | omega)).trans ((e106 c i (by first | decide | omega)).trans ((e104 c i (by first | decide | omega)).trans (e102 c i (by first | decide | omega))))))), ⟨(a113, f113), ?_, z118⟩, by omega, fun z9 => ⟨by omega, ?_⟩, CA_keep (by first | decide | omega) hA (fun c i h h2 => (e118 c i (by first | decide | omega)).trans ((e113 c i (by first | decide | omega)).trans ((e109 c i (by first | decide | omega)).trans ((e106 c i (by first | decide | omega)).trans ((e104 c i (by first | decide | omega)).trans (e102 c i (by first | decide | omega))))))), fun c i l1 l2 l3 l4 => (e118 c i (by first | decide | omega)).trans ((e113 c i (by first | decide | omega)).trans ((e109 c i (by first | decide | omega)).trans ((e106 c i (by first | decide | omega)).trans ((e104 c i (by first | decide | omega)).trans (e102 c i (by first | decide | omega))))))⟩
    · rw [← ya]
      exact w113
    · obtain ⟨L9, c9, l9, m9⟩ := qE113 0 kl109 (Nat.zero_le _) (by first | decide | omega)
      exact ⟨L9, Ec_at c9 (by show a102 = a + 1; omega) (by first | rfl | (show f102 = 0; omega)), CLs_keep (CLs_of m9) (e118 302 2 (by first | decide | omega)) (fun j => e118 304 j (by first | decide | omega))⟩
  · refine gx_1f (c := .eq) rfl (by first | decide | omega) hc1 rfl ?_
    refine ex_go (S := (5, [(0, gx_r 7), (1, gx_w 22), (2, gx_r 302), (3, .inl (σ 9 2))], [gx_r 7], t0, n, 0)) rfl (fun _ => rfl) rfl ?_
    refine gxo_ref (a := 7) (c := 1) rfl s0.1 rfl rfl rfl rfl rfl ?_
    refine ex_go (S := (9, [(0, gx_r 7), (1, gx_w 22), (2, gx_r 302), (3, .inl (σ 9 2))], [.inl 3, gx_r 1], t0, n, 0)) rfl (fun _ => rfl) rfl ?_
    obtain ⟨_, r124, t124, a124, f124, rfl, s124, e124, q124⟩ := pc_wrong (d + 37) n (s0) hT (by first | decide | omega) (w := 3) (by first | decide | omega)
    have b124 := s124.2.2.2
    refine gx_callo (a := 1) rfl rfl s0.1 rfl rfl rfl r124 rfl ?_
    have k25 : ai_hv t124 7 1 = some (gx_r 257) := (e124 7 1 (by first | decide | omega)).trans hP
    show en_ex _ _ _ _ (12, [(0, gx_r 7), (1, gx_w 22), (2, gx_r 302), (3, .inl (σ 9 2))], [], t124, n, 0) _
    refine ex_go (S := (13, [(0, gx_r 7), (1, gx_w 22), (2, gx_r 302), (3, .inl (σ 9 2))], [gx_r 7], t124, n, 0)) rfl (fun _ => rfl) rfl ?_
    refine gxo_ref (a := 7) (c := 1) rfl s124.1 rfl rfl rfl rfl rfl ?_
    have hT27 := cT_keep (t' := t124) hT (fun c i h => e124 c i (by first | decide | omega))
    obtain ⟨_, r126, t126, a126, f126, rfl, s126, e126, q126⟩ := pc_goOn (d + 37) n (s124) hT27 (by first | decide | omega) 
    have b126 := s126.2.2.2
    refine gx_callo (a := 1) rfl rfl s124.1 rfl rfl rfl r126 rfl ?_
    have k28 : ai_hv t126 7 1 = some (gx_r 257) := (e126 7 1 (by first | decide | omega)).trans k25
    show en_ex _ _ _ _ (19, [(0, gx_r 7), (1, gx_w 22), (2, gx_r 302), (3, .inl (σ 9 2))], [], t126, n, 0) _
    have ya : (a126, f126) = fr S m (σ 9 2 ≠ 0) 3 (a, 0) := by
      rw [fr_w (show σ 9 2 ≠ 0 by omega)]; exact Prod.ext (by show a126 = a; omega) (by show f126 = 3 + 16 * sp_st S m a; omega)
    refine ex_go (S := (20, [(0, gx_r 7), (1, gx_w 22), (2, gx_r 302), (3, .inl (σ 9 2))], [gx_r 7], t126, n, 0)) rfl (fun _ => rfl) rfl ?_
    refine ex_go (S := (21, [(0, gx_r 7), (1, gx_w 22), (2, gx_r 302), (3, .inl (σ 9 2))], [gx_r 302, gx_r 7], t126, n, 0)) rfl (fun _ => rfl) rfl ?_
    refine gxo_putr (a := 7) (h := .inr (.inr [0, 330, 333, 336, 396, 399, 402])) rfl s126.1 rfl rfl rfl (refin_r (by decide)) rfl (fun t129 g129 k129 e129 => ?_)
    have k30 : ai_hv t129 7 1 = some (gx_r 257) := (e129 7 1 (by first | decide | omega)).trans k28
    have s129 : cS t129 a126 f126 := ⟨g129, (e129 1 8 (by first | decide | omega)).trans s126.2.1, (e129 1 1 (by first | decide | omega)).trans s126.2.2.1, s126.2.2.2⟩
    refine ex_go (S := (25, [(0, gx_r 7), (1, gx_w 22), (2, gx_r 302), (3, .inl (σ 9 2))], [gx_r 7], t129, n, 0)) rfl (fun _ => rfl) rfl ?_
    refine ex_go (S := (26, [(0, gx_r 7), (1, gx_w 22), (2, gx_r 302), (3, .inl (σ 9 2))], [gx_w 22, gx_r 7], t129, n, 0)) rfl (fun _ => rfl) rfl ?_
    refine gxo_putr (a := 7) (h := .inr (.inr [0, 1])) rfl s129.1 rfl rfl rfl (refin_w (by decide) (by first | decide | omega)) rfl (fun t131 g131 k131 e131 => ?_)
    have k32 : ai_hv t131 7 1 = some (gx_r 257) := (e131 7 1 (by first | decide | omega)).trans k30
    have k33 : ai_hv t131 7 2 = some (gx_r 302) := (e131 7 2 (by first | decide | omega)).trans k129
    have s131 : cS t131 a126 f126 := ⟨g131, (e131 1 8 (by first | decide | omega)).trans s129.2.1, (e131 1 1 (by first | decide | omega)).trans s129.2.2.1, s129.2.2.2⟩
    refine ex_go (S := (30, [(0, gx_r 7), (1, gx_w 22), (2, gx_r 302), (3, .inl (σ 9 2))], [gx_r 7], t131, n, 0)) rfl (fun _ => rfl) rfl ?_
    refine gxo_get (a := 7) rfl s131.1 rfl rfl k33 rfl ?_
    obtain ⟨_, r134, t134, rfl, g134, e134, kl134⟩ := pc_lclear302 (d + 37) n s131.1
    refine gx_callo (a := 302) rfl rfl s131.1 rfl rfl rfl r134 rfl ?_
    have k35 : ai_hv t134 7 1 = some (gx_r 257) := (e134 7 1 (by first | decide | omega)).trans k32
    have k36 : ai_hv t134 7 2 = some (gx_r 302) := (e134 7 2 (by first | decide | omega)).trans k33
    have k37 : ai_hv t134 7 3 = some (gx_w 22) := (e134 7 3 (by first | decide | omega)).trans k131
    have s134 : cS t134 a126 f126 := ⟨g134, (e134 1 8 (by first | decide | omega)).trans s131.2.1, (e134 1 1 (by first | decide | omega)).trans s131.2.2.1, s131.2.2.2⟩
    show en_ex _ _ _ _ (36, [(0, gx_r 7), (1, gx_w 22), (2, gx_r 302), (3, .inl (σ 9 2))], [], t134, n, 0) _
    refine ex_go (S := (37, [(0, gx_r 7), (1, gx_w 22), (2, gx_r 302), (3, .inl (σ 9 2))], [gx_r 7], t134, n, 0)) rfl (fun _ => rfl) rfl ?_
    refine ex_go (S := (38, [(0, gx_r 7), (1, gx_w 22), (2, gx_r 302), (3, .inl (σ 9 2))], [.inl 0, gx_r 7], t134, n, 0)) rfl (fun _ => rfl) rfl ?_
    refine ex_go (S := (39, [(0, gx_r 7), (1, gx_w 22), (2, gx_r 302), (3, .inl (σ 9 2))], [.inl 0, .inl 0, gx_r 7], t134, n, 0)) rfl (fun _ => rfl) rfl ?_
    have hT39 := cT_keep (t' := t134) hT (fun c i h => (e134 c i (by first | decide | omega)).trans ((e131 c i (by first | decide | omega)).trans ((e129 c i (by first | decide | omega)).trans ((e126 c i (by first | decide | omega)).trans (e124 c i (by first | decide | omega))))))
    obtain ⟨_, r138, t138, a138, f138, rfl, s138, e138, w138, qN138, qA138, q138, qE138⟩ := pc_law0 (S := S) (m := m) (N := N) (fh := 2) (lw := 22) cLaw302 (by unfold cFh; omega) d n _ _ _ s134 hT39 (by first | decide | omega) k36 k37
    have b138 := s138.2.2.2
    refine gx_callo (a := 7) rfl rfl s134.1 rfl rfl rfl r138 rfl ?_
    have k40 : ai_hv t138 7 1 = some (gx_r 257) := (e138 7 1 (by first | decide | omega)).trans k35
    have k41 : ai_hv t138 7 2 = some (gx_r 302) := (e138 7 2 (by first | decide | omega)).trans k36
    have k42 : ai_hv t138 7 3 = some (gx_w 22) := (e138 7 3 (by first | decide | omega)).trans k37
    show en_ex _ _ _ _ (42, [(0, gx_r 7), (1, gx_w 22), (2, gx_r 302), (3, .inl (σ 9 2))], [], t138, n, 0) _
    refine ex_go (S := (43, [(0, gx_r 7), (1, gx_w 22), (2, gx_r 302), (3, .inl (σ 9 2))], [gx_r 7], t138, n, 0)) rfl (fun _ => rfl) rfl ?_
    refine gxo_ref (a := 7) (c := 1) rfl s138.1 rfl rfl rfl rfl rfl ?_
    refine ex_go (S := (48, [(0, gx_r 7), (1, gx_w 22), (2, gx_r 302), (3, .inl (σ 9 2))], [.inl 59, gx_r 1], t138, n, 0)) rfl (fun _ => rfl) rfl ?_
    have hT44 := cT_keep (t' := t138) hT (fun c i h => (e138 c i (by first | decide | omega)).trans ((e134 c i (by first | decide | omega)).trans ((e131 c i (by first | decide | omega)).trans ((e129 c i (by first | decide | omega)).trans ((e126 c i (by first | decide | omega)).trans (e124 c i (by first | decide | omega)))))))
    obtain ⟨_, r143, t143, a143, f143, rfl, s143, e143, z143, q143⟩ := pc_takeSign (d + 36) n (s138) hT44 (by first | decide | omega) (w := 59) (by first | decide | omega)
    have b143 := s143.2.2.2
    have y143 := z143.trans (congrArg (fs S m N 59) (rfl : (a138, f138) = (a138, f138)))
    refine gx_callo (a := 1) rfl rfl s138.1 rfl rfl rfl r143 rfl ?_
    have k45 : ai_hv t143 7 1 = some (gx_r 257) := (e143 7 1 (by first | decide | omega)).trans k40
    have k46 : ai_hv t143 7 2 = some (gx_r 302) := (e143 7 2 (by first | decide | omega)).trans k41
    have k47 : ai_hv t143 7 3 = some (gx_w 22) := (e143 7 3 (by first | decide | omega)).trans k42
    show en_ex _ _ _ _ (51, [(0, gx_r 7), (1, gx_w 22), (2, gx_r 302), (3, .inl (σ 9 2))], [], t143, n, 0) _
    refine ex_go (S := (52, [(0, gx_r 7), (1, gx_w 22), (2, gx_r 302), (3, .inl (σ 9 2))], [.inl 1], t143, n, 0)) rfl (fun _ => rfl) rfl ?_
    refine ex_ret (r := (some (.inl 1), t143, n, 0)) rfl (fun _ => rfl) ?_
    have hT48 := cT_keep (t' := t143) hT (fun c i h => (e143 c i (by first | decide | omega)).trans ((e138 c i (by first | decide | omega)).trans ((e134 c i (by first | decide | omega)).trans ((e131 c i (by first | decide | omega)).trans ((e129 c i (by first | decide | omega)).trans ((e126 c i (by first | decide | omega)).trans (e124 c i (by first | decide | omega))))))))
    refine ⟨_, rfl, t143, a143, f143, rfl, s143, hT48, k45, (fun c i h => (e143 c i (by first | decide | omega)).trans ((e138 c i (by first | decide | omega)).trans ((e134 c i (by first | decide | omega)).trans ((e131 c i (by first | decide | omega)).trans ((e129 c i (by first | decide | omega)).trans ((e126 c i (by first | decide | omega)).trans (e124 c i (by first | decide | omega)))))))), ⟨(a138, f138), ?_, z143⟩, by omega, fun z9 => ⟨by omega, ?_⟩, CA_keep (by first | decide | omega) hA (fun c i h h2 => (e143 c i (by first | decide | omega)).trans ((e138 c i (by first | decide | omega)).trans ((e134 c i (by first | decide | omega)).trans ((e131 c i (by first | decide | omega)).trans ((e129 c i (by first | decide | omega)).trans ((e126 c i (by first | decide | omega)).trans (e124 c i (by first | decide | omega)))))))), fun c i l1 l2 l3 l4 => (e143 c i (by first | decide | omega)).trans ((e138 c i (by first | decide | omega)).trans ((e134 c i (by first | decide | omega)).trans ((e131 c i (by first | decide | omega)).trans ((e129 c i (by first | decide | omega)).trans ((e126 c i (by first | decide | omega)).trans (e124 c i (by first | decide | omega)))))))⟩
    · rw [← ya]
      exact w138
    · obtain ⟨L9, c9, l9, m9⟩ := qE138 0 kl134 (Nat.zero_le _) (by first | decide | omega)
      exact ⟨L9, Ec_at c9 (by show a126 = a + 1; omega) (by first | rfl | (show f126 = 0; omega)), CLs_keep (CLs_of m9) (e143 302 2 (by first | decide | omega)) (fun j => e143 304 j (by first | decide | omega))⟩
theorem pc_packLine257_0 (d n : Nat) {t0 : en_H} {a : Nat} {S : Nat → Nat} {m N : Nat} {σ : Nat → Nat → Nat} (s0 : cS t0 a 0) (hT : cT t0 S m N) (ha : a < N) (hP : ai_hv t0 7 1 = some (gx_r 257)) (hA : CA t0 257 S m σ) (h3 : W3 S m N σ) (hw2 : ∀ w, w < 42 → ¬ sp_wd S m N a w) (hC : CLw t0 257 S m N σ) (h9 : σ 9 0 ≤ 1 ∧ σ 9 1 ≤ 1 ∧ σ 9 2 ≤ 1) : ∃ r, en_u (d + 40) 179 [gx_r 7, .inr (.inr (.inl none))] t0 n = some r ∧ ∃ t' a' f', r = (none, t', n, 0) ∧ cS t' a' f' ∧ cT t' S m N ∧ ai_hv t' 7 1 = some (gx_r 257) ∧ cV 257 t0 t' ∧ (∃ q τ, Ln S m N σ a q τ ∧ (a', f') = fs S m N 59 q ∧ (f' = 0 → a < a' ∧ CA t' 257 S m τ ∧ CLw t' 257 S m N τ)) ∧ a' ≤ N := by
  have b0 := s0.2.2.2
  have hN := hT.2.2.2.2.2.2.1
  obtain ⟨⟨kk0, kk1, kk2, kk3, kk4, kk5, kk6, kk7, kk8, kk9, kk10, kk11⟩, -⟩ := id hA
  refine en_u_ex (d := d + 39) rfl ?_
  show en_ex _ _ _ _ (0, [(0, gx_r 7), (1, .inr (.inr (.inl none)))], [], t0, n, 0) _
  refine ex_go (S := (1, [(0, gx_r 7), (1, .inr (.inr (.inl none)))], [.inr (.inr (.inl none))], t0, n, 0)) rfl (fun _ => rfl) rfl ?_
  refine ex_go (S := (4, [(0, gx_r 7), (1, .inr (.inr (.inl none)))], [gx_w 1, .inr (.inr (.inl none))], t0, n, 0)) rfl (fun _ => rfl) rfl ?_
  refine ex_go (S := (14, [(0, gx_r 7), (1, .inr (.inr (.inl none)))], [], t0, n, 0)) rfl (fun _ => rfl) rfl ?_
  refine ex_go (S := (15, [(0, gx_r 7), (1, .inr (.inr (.inl none)))], [.inr (.inr (.inl none))], t0, n, 0)) rfl (fun _ => rfl) rfl ?_
  refine ex_go (S := (18, [(0, gx_r 7), (1, .inr (.inr (.inl none)))], [gx_w 2, .inr (.inr (.inl none))], t0, n, 0)) rfl (fun _ => rfl) rfl ?_
  refine ex_go (S := (28, [(0, gx_r 7), (1, .inr (.inr (.inl none)))], [], t0, n, 0)) rfl (fun _ => rfl) rfl ?_
  refine ex_go (S := (29, [(0, gx_r 7), (1, .inr (.inr (.inl none)))], [.inr (.inr (.inl none))], t0, n, 0)) rfl (fun _ => rfl) rfl ?_
  refine ex_go (S := (32, [(0, gx_r 7), (1, .inr (.inr (.inl none)))], [gx_w 4, .inr (.inr (.inl none))], t0, n, 0)) rfl (fun _ => rfl) rfl ?_
  refine ex_go (S := (42, [(0, gx_r 7), (1, .inr (.inr (.inl none)))], [], t0, n, 0)) rfl (fun _ => rfl) rfl ?_
  refine ex_go (S := (43, [(0, gx_r 7), (1, .inr (.inr (.inl none)))], [.inr (.inr (.inl none))], t0, n, 0)) rfl (fun _ => rfl) rfl ?_
  refine ex_go (S := (46, [(0, gx_r 7), (1, .inr (.inr (.inl none)))], [gx_w 8, .inr (.inr (.inl none))], t0, n, 0)) rfl (fun _ => rfl) rfl ?_
  refine ex_go (S := (56, [(0, gx_r 7), (1, .inr (.inr (.inl none)))], [], t0, n, 0)) rfl (fun _ => rfl) rfl ?_
  refine ex_go (S := (57, [(0, gx_r 7), (1, .inr (.inr (.inl none)))], [.inr (.inr (.inl none))], t0, n, 0)) rfl (fun _ => rfl) rfl ?_
  refine ex_go (S := (60, [(0, gx_r 7), (1, .inr (.inr (.inl none)))], [gx_w 11, .inr (.inr (.inl none))], t0, n, 0)) rfl (fun _ => rfl) rfl ?_
  refine ex_go (S := (70, [(0, gx_r 7), (1, .inr (.inr (.inl none)))], [], t0, n, 0)) rfl (fun _ => rfl) rfl ?_
  refine ex_go (S := (71, [(0, gx_r 7), (1, .inr (.inr (.inl none)))], [.inr (.inr (.inl none))], t0, n, 0)) rfl (fun _ => rfl) rfl ?_
  refine ex_go (S := (74, [(0, gx_r 7), (1, .inr (.inr (.inl none)))], [gx_w 12, .inr (.inr (.inl none))], t0, n, 0)) rfl (fun _ => rfl) rfl ?_
  refine ex_go (S := (84, [(0, gx_r 7), (1, .inr (.inr (.inl none)))], [], t0, n, 0)) rfl (fun _ => rfl) rfl ?_
  refine ex_go (S := (85, [(0, gx_r 7), (1, .inr (.inr (.inl none)))], [.inr (.inr (.inl none))], t0, n, 0)) rfl (fun _ => rfl) rfl ?_
  refine ex_go (S := (88, [(0, gx_r 7), (1, .inr (.inr (.inl none)))], [gx_w 15, .inr (.inr (.inl none))], t0, n, 0)) rfl (fun _ => rfl) rfl ?_
  refine ex_go (S := (98, [(0, gx_r 7), (1, .inr (.inr (.inl none)))], [], t0, n, 0)) rfl (fun _ => rfl) rfl ?_
  refine ex_go (S := (99, [(0, gx_r 7), (1, .inr (.inr (.inl none)))], [.inr (.inr (.inl none))], t0, n, 0)) rfl (fun _ => rfl) rfl ?_
  refine ex_go (S := (102, [(0, gx_r 7), (1, .inr (.inr (.inl none)))], [gx_w 17, .inr (.inr (.inl none))], t0, n, 0)) rfl (fun _ => rfl) rfl ?_
  refine ex_go (S := (112, [(0, gx_r 7), (1, .inr (.inr (.inl none)))], [], t0, n, 0)) rfl (fun _ => rfl) rfl ?_
  refine ex_go (S := (113, [(0, gx_r 7), (1, .inr (.inr (.inl none)))], [.inr (.inr (.inl none))], t0, n, 0)) rfl (fun _ => rfl) rfl ?_
  refine ex_go (S := (116, [(0, gx_r 7), (1, .inr (.inr (.inl none)))], [gx_w 20, .inr (.inr (.inl none))], t0, n, 0)) rfl (fun _ => rfl) rfl ?_
  refine ex_go (S := (142, [(0, gx_r 7), (1, .inr (.inr (.inl none)))], [], t0, n, 0)) rfl (fun _ => rfl) rfl ?_
  refine ex_go (S := (143, [(0, gx_r 7), (1, .inr (.inr (.inl none)))], [.inr (.inr (.inl none))], t0, n, 0)) rfl (fun _ => rfl) rfl ?_
  refine ex_go (S := (146, [(0, gx_r 7), (1, .inr (.inr (.inl none)))], [gx_w 21, .inr (.inr (.inl none))], t0, n, 0)) rfl (fun _ => rfl) rfl ?_
  refine ex_go (S := (172, [(0, gx_r 7), (1, .inr (.inr (.inl none)))], [], t0, n, 0)) rfl (fun _ => rfl) rfl ?_
  refine ex_go (S := (173, [(0, gx_r 7), (1, .inr (.inr (.inl none)))], [.inr (.inr (.inl none))], t0, n, 0)) rfl (fun _ => rfl) rfl ?_
  refine ex_go (S := (176, [(0, gx_r 7), (1, .inr (.inr (.inl none)))], [gx_w 22, .inr (.inr (.inl none))], t0, n, 0)) rfl (fun _ => rfl) rfl ?_
  refine ex_go (S := (202, [(0, gx_r 7), (1, .inr (.inr (.inl none)))], [], t0, n, 0)) rfl (fun _ => rfl) rfl ?_
  refine ex_go (S := (203, [(0, gx_r 7), (1, .inr (.inr (.inl none)))], [gx_r 7], t0, n, 0)) rfl (fun _ => rfl) rfl ?_
  refine gxo_ref (a := 7) (c := 1) rfl s0.1 rfl rfl rfl rfl rfl ?_
  refine ex_go (S := (207, [(0, gx_r 7), (1, .inr (.inr (.inl none)))], [.inl 1, gx_r 1], t0, n, 0)) rfl (fun _ => rfl) rfl ?_
  obtain ⟨_, r101, t101, a101, f101, rfl, s101, e101, q101⟩ := pc_wrong (d + 38) n (s0) hT (by first | decide | omega) (w := 1) (by first | decide | omega)
  have b101 := s101.2.2.2
  refine gx_callo (a := 1) rfl rfl s0.1 rfl rfl rfl r101 rfl ?_
  have k2 : ai_hv t101 7 1 = some (gx_r 257) := (e101 7 1 (by first | decide | omega)).trans hP
  have k3 : ai_hv t101 7 5 = some (.inl (σ 9 0)) := (e101 7 5 (by first | decide | omega)).trans kk9
  have k4 : ai_hv t101 7 6 = some (.inl (σ 9 1)) := (e101 7 6 (by first | decide | omega)).trans kk10
  have k5 : ai_hv t101 7 7 = some (.inl (σ 9 2)) := (e101 7 7 (by first | decide | omega)).trans kk11
  show en_ex _ _ _ _ (210, [(0, gx_r 7), (1, .inr (.inr (.inl none)))], [], t101, n, 0) _
  refine ex_ret (r := (none, t101, n, 0)) rfl (fun _ => rfl) ?_
  have hno : ∀ w, w = 1 ∨ w = 2 ∨ w = 4 ∨ w = 8 ∨ w = 12 ∨ w = 15 ∨ w = 17 ∨ w = 11 ∨ w = 20 ∨ w = 21 ∨ w = 22 → ¬ sp_wd S m N a w := fun w hw z => hw2 w (by first | decide | omega) z
  have hT6 := cT_keep (t' := t101) hT (fun c i h => e101 c i (by first | decide | omega))
  refine ⟨_, rfl, t101, a101, f101, rfl, s101, hT6, k2, (fun c i h => e101 c i (by first | decide | omega)), ⟨fx S m 1 a, σ, Or.inr (Or.inr (Or.inr (Or.inr (Or.inr (Or.inr (Or.inr (Or.inr (Or.inr (⟨hno, rfl, rfl⟩))))))))), ?_, fun h0 => by omega⟩, by omega⟩
  unfold fx
  rw [fs_no (by first | decide | omega)]; exact Prod.ext (by show a101 = a; omega) (by show f101 = 1 + 16 * sp_st S m a; omega)
theorem pc_packLine257_1 (d n : Nat) {t0 : en_H} {a w : Nat} {S : Nat → Nat} {m N : Nat} {σ : Nat → Nat → Nat} (s0 : cS t0 a 0) (hT : cT t0 S m N) (ha : a < N) (hP : ai_hv t0 7 1 = some (gx_r 257)) (hA : CA t0 257 S m σ) (h3 : W3 S m N σ) (hw : w < 42) (hw2 : sp_wd S m N a w) (hC : CLw t0 257 S m N σ) (h9 : σ 9 0 ≤ 1 ∧ σ 9 1 ≤ 1 ∧ σ 9 2 ≤ 1) : ∃ r, en_u (d + 40) 179 [gx_r 7, gx_w w] t0 n = some r ∧ ∃ t' a' f', r = (none, t', n, 0) ∧ cS t' a' f' ∧ cT t' S m N ∧ ai_hv t' 7 1 = some (gx_r 257) ∧ cV 257 t0 t' ∧ (∃ q τ, Ln S m N σ a q τ ∧ (a', f') = fs S m N 59 q ∧ (f' = 0 → a < a' ∧ CA t' 257 S m τ ∧ CLw t' 257 S m N τ)) ∧ a' ≤ N := by
  have b0 := s0.2.2.2
  have hN := hT.2.2.2.2.2.2.1
  obtain ⟨⟨kk0, kk1, kk2, kk3, kk4, kk5, kk6, kk7, kk8, kk9, kk10, kk11⟩, -⟩ := id hA
  refine en_u_ex (d := d + 39) rfl ?_
  show en_ex _ _ _ _ (0, [(0, gx_r 7), (1, gx_w w)], [], t0, n, 0) _
  refine ex_go (S := (1, [(0, gx_r 7), (1, gx_w w)], [gx_w w], t0, n, 0)) rfl (fun _ => rfl) rfl ?_
  refine ex_go (S := (4, [(0, gx_r 7), (1, gx_w w)], [gx_w 1, gx_w w], t0, n, 0)) rfl (fun _ => rfl) rfl ?_
  by_cases hc1 : w = 1
  · refine gx_acnt rfl (by first | decide | omega) (by first | decide | omega) hc1 rfl ?_
    refine ex_go (S := (8, [(0, gx_r 7), (1, gx_w w)], [gx_r 7], t0, n, 0)) rfl (fun _ => rfl) rfl ?_
    obtain ⟨_, r102, t102, a102, f102, rfl, s102, hT102, hP102, hW102, z102, hN102, y102⟩ := pc_driftLine257 (d + 35) n s0 hT ha hP hA h3
    have hwd : sp_wd S m N a 1 := by rw [← hc1]; exact hw2
    refine gx_callo (a := 7) rfl rfl s0.1 rfl rfl rfl r102 rfl ?_
    show en_ex _ _ _ _ (11, [(0, gx_r 7), (1, gx_w w)], [], t102, n, 0) _
    refine ex_go (S := (210, [(0, gx_r 7), (1, gx_w w)], [], t102, n, 0)) rfl (fun _ => rfl) rfl ?_
    refine ex_ret (r := (none, t102, n, 0)) rfl (fun _ => rfl) ?_
    exact ⟨_, rfl, t102, a102, f102, rfl, s102, hT102, hP102, cW_V hW102, ⟨_, sn_drift S m N σ a, Or.inl (⟨hwd, rfl, rfl⟩), z102, fun h0 => ⟨(y102 h0).1, (y102 h0).2, CLw_keep hC (fun c i l1 l2 => hW102 c i (by first | decide | omega)) (fun _ => ⟨rfl, rfl⟩)⟩⟩, hN102⟩
  · refine gx_acnf rfl (by first | decide | omega) (by first | decide | omega) hc1 rfl ?_
    refine ex_go (S := (15, [(0, gx_r 7), (1, gx_w w)], [gx_w w], t0, n, 0)) rfl (fun _ => rfl) rfl ?_
    refine ex_go (S := (18, [(0, gx_r 7), (1, gx_w w)], [gx_w 2, gx_w w], t0, n, 0)) rfl (fun _ => rfl) rfl ?_
    by_cases hc3 : w = 2
    · refine gx_acnt rfl (by first | decide | omega) (by first | decide | omega) hc3 rfl ?_
      refine ex_go (S := (22, [(0, gx_r 7), (1, gx_w w)], [gx_r 7], t0, n, 0)) rfl (fun _ => rfl) rfl ?_
      obtain ⟨_, r104, t104, a104, f104, rfl, s104, hT104, hP104, hW104, z104, hN104, y104⟩ := pc_thingLine257 (d + 35) n s0 hT ha hP hA h3
      have hwd : sp_wd S m N a 2 := by rw [← hc3]; exact hw2
      refine gx_callo (a := 7) rfl rfl s0.1 rfl rfl rfl r104 rfl ?_
      show en_ex _ _ _ _ (25, [(0, gx_r 7), (1, gx_w w)], [], t104, n, 0) _
      refine ex_go (S := (210, [(0, gx_r 7), (1, gx_w w)], [], t104, n, 0)) rfl (fun _ => rfl) rfl ?_
      refine ex_ret (r := (none, t104, n, 0)) rfl (fun _ => rfl) ?_
      exact ⟨_, rfl, t104, a104, f104, rfl, s104, hT104, hP104, cW_V hW104, ⟨_, sn_thing S m N σ a, Or.inr (Or.inl (⟨hwd, rfl, rfl⟩)), z104, fun h0 => ⟨(y104 h0).1, (y104 h0).2, CLw_keep hC (fun c i l1 l2 => hW104 c i (by first | decide | omega)) (fun _ => ⟨rfl, rfl⟩)⟩⟩, hN104⟩
    · refine gx_acnf rfl (by first | decide | omega) (by first | decide | omega) hc3 rfl ?_
      refine ex_go (S := (29, [(0, gx_r 7), (1, gx_w w)], [gx_w w], t0, n, 0)) rfl (fun _ => rfl) rfl ?_
      refine ex_go (S := (32, [(0, gx_r 7), (1, gx_w w)], [gx_w 4, gx_w w], t0, n, 0)) rfl (fun _ => rfl) rfl ?_
      by_cases hc5 : w = 4
      · refine gx_acnt rfl (by first | decide | omega) (by first | decide | omega) hc5 rfl ?_
        refine ex_go (S := (36, [(0, gx_r 7), (1, gx_w w)], [gx_r 7], t0, n, 0)) rfl (fun _ => rfl) rfl ?_
        obtain ⟨_, r106, t106, a106, f106, rfl, s106, hT106, hP106, hW106, z106, hN106, y106⟩ := pc_leadLine257 (d + 35) n s0 hT ha hP hA h3
        have hwd : sp_wd S m N a 4 := by rw [← hc5]; exact hw2
        refine gx_callo (a := 7) rfl rfl s0.1 rfl rfl rfl r106 rfl ?_
        show en_ex _ _ _ _ (39, [(0, gx_r 7), (1, gx_w w)], [], t106, n, 0) _
        refine ex_go (S := (210, [(0, gx_r 7), (1, gx_w w)], [], t106, n, 0)) rfl (fun _ => rfl) rfl ?_
        refine ex_ret (r := (none, t106, n, 0)) rfl (fun _ => rfl) ?_
        exact ⟨_, rfl, t106, a106, f106, rfl, s106, hT106, hP106, cW_V hW106, ⟨_, sn_lead S m σ a, Or.inr (Or.inr (Or.inl (⟨hwd, rfl, rfl⟩))), z106, fun h0 => ⟨(y106 h0).1, (y106 h0).2, CLw_keep hC (fun c i l1 l2 => hW106 c i (by first | decide | omega)) (fun _ => ⟨rfl, rfl⟩)⟩⟩, hN106⟩
      · refine gx_acnf rfl (by first | decide | omega) (by first | decide | omega) hc5 rfl ?_
        refine ex_go (S := (43, [(0, gx_r 7), (1, gx_w w)], [gx_w w], t0, n, 0)) rfl (fun _ => rfl) rfl ?_
        refine ex_go (S := (46, [(0, gx_r 7), (1, gx_w w)], [gx_w 8, gx_w w], t0, n, 0)) rfl (fun _ => rfl) rfl ?_
        by_cases hc7 : w = 8
        · refine gx_acnt rfl (by first | decide | omega) (by first | decide | omega) hc7 rfl ?_
          refine ex_go (S := (50, [(0, gx_r 7), (1, gx_w w)], [gx_r 7], t0, n, 0)) rfl (fun _ => rfl) rfl ?_
          obtain ⟨_, r108, t108, a108, f108, rfl, s108, hT108, hP108, hW108, z108, hN108, y108⟩ := pc_crewLine257 (d + 35) n s0 hT ha hP hA h3
          have hwd : sp_wd S m N a 8 := by rw [← hc7]; exact hw2
          refine gx_callo (a := 7) rfl rfl s0.1 rfl rfl rfl r108 rfl ?_
          show en_ex _ _ _ _ (53, [(0, gx_r 7), (1, gx_w w)], [], t108, n, 0) _
          refine ex_go (S := (210, [(0, gx_r 7), (1, gx_w w)], [], t108, n, 0)) rfl (fun _ => rfl) rfl ?_
          refine ex_ret (r := (none, t108, n, 0)) rfl (fun _ => rfl) ?_
          exact ⟨_, rfl, t108, a108, f108, rfl, s108, hT108, hP108, cW_V hW108, ⟨_, sn_crew S m σ a, Or.inr (Or.inr (Or.inr (Or.inl (⟨hwd, rfl, rfl⟩)))), z108, fun h0 => ⟨(y108 h0).1, (y108 h0).2, CLw_keep hC (fun c i l1 l2 => hW108 c i (by first | decide | omega)) (fun _ => ⟨rfl, rfl⟩)⟩⟩, hN108⟩
        · refine gx_acnf rfl (by first | decide | omega) (by first | decide | omega) hc7 rfl ?_
          refine ex_go (S := (57, [(0, gx_r 7), (1, gx_w w)], [gx_w w], t0, n, 0)) rfl (fun _ => rfl) rfl ?_
          refine ex_go (S := (60, [(0, gx_r 7), (1, gx_w w)], [gx_w 11, gx_w w], t0, n, 0)) rfl (fun _ => rfl) rfl ?_
          by_cases hc9 : w = 11
          · refine gx_acnt rfl (by first | decide | omega) (by first | decide | omega) hc9 rfl ?_
            refine ex_go (S := (64, [(0, gx_r 7), (1, gx_w w)], [gx_r 7], t0, n, 0)) rfl (fun _ => rfl) rfl ?_
            obtain ⟨_, r110, t110, a110, f110, rfl, s110, hT110, hP110, hW110, z110, hN110, y110⟩ := pc_paceLine257 (d + 35) n s0 hT ha hP hA h3
            have hwd : sp_wd S m N a 11 := by rw [← hc9]; exact hw2
            refine gx_callo (a := 7) rfl rfl s0.1 rfl rfl rfl r110 rfl ?_
            show en_ex _ _ _ _ (67, [(0, gx_r 7), (1, gx_w w)], [], t110, n, 0) _
            refine ex_go (S := (210, [(0, gx_r 7), (1, gx_w w)], [], t110, n, 0)) rfl (fun _ => rfl) rfl ?_
            refine ex_ret (r := (none, t110, n, 0)) rfl (fun _ => rfl) ?_
            exact ⟨_, rfl, t110, a110, f110, rfl, s110, hT110, hP110, cW_V hW110, ⟨_, sn_pace σ a, Or.inr (Or.inr (Or.inr (Or.inr (Or.inr (Or.inr (Or.inr (Or.inl (⟨hwd, rfl, rfl⟩)))))))), z110, fun h0 => ⟨(y110 h0).1, (y110 h0).2, CLw_keep hC (fun c i l1 l2 => hW110 c i (by first | decide | omega)) (fun _ => ⟨rfl, rfl⟩)⟩⟩, hN110⟩
          · refine gx_acnf rfl (by first | decide | omega) (by first | decide | omega) hc9 rfl ?_
            refine ex_go (S := (71, [(0, gx_r 7), (1, gx_w w)], [gx_w w], t0, n, 0)) rfl (fun _ => rfl) rfl ?_
            refine ex_go (S := (74, [(0, gx_r 7), (1, gx_w w)], [gx_w 12, gx_w w], t0, n, 0)) rfl (fun _ => rfl) rfl ?_
            by_cases hc11 : w = 12
            · refine gx_acnt rfl (by first | decide | omega) (by first | decide | omega) hc11 rfl ?_
              refine ex_go (S := (78, [(0, gx_r 7), (1, gx_w w)], [gx_r 7], t0, n, 0)) rfl (fun _ => rfl) rfl ?_
              obtain ⟨_, r112, t112, a112, f112, rfl, s112, hT112, hP112, hW112, z112, hN112, y112⟩ := pc_gapLine257 (d + 35) n s0 hT ha hP hA h3
              have hwd : sp_wd S m N a 12 := by rw [← hc11]; exact hw2
              refine gx_callo (a := 7) rfl rfl s0.1 rfl rfl rfl r112 rfl ?_
              show en_ex _ _ _ _ (81, [(0, gx_r 7), (1, gx_w w)], [], t112, n, 0) _
              refine ex_go (S := (210, [(0, gx_r 7), (1, gx_w w)], [], t112, n, 0)) rfl (fun _ => rfl) rfl ?_
              refine ex_ret (r := (none, t112, n, 0)) rfl (fun _ => rfl) ?_
              exact ⟨_, rfl, t112, a112, f112, rfl, s112, hT112, hP112, cW_V hW112, ⟨_, sn_gap σ a, Or.inr (Or.inr (Or.inr (Or.inr (Or.inl (⟨hwd, rfl, rfl⟩))))), z112, fun h0 => ⟨(y112 h0).1, (y112 h0).2, CLw_keep hC (fun c i l1 l2 => hW112 c i (by first | decide | omega)) (fun _ => ⟨rfl, rfl⟩)⟩⟩, hN112⟩
            · refine gx_acnf rfl (by first | decide | omega) (by first | decide | omega) hc11 rfl ?_
              refine ex_go (S := (85, [(0, gx_r 7), (1, gx_w w)], [gx_w w], t0, n, 0)) rfl (fun _ => rfl) rfl ?_
              refine ex_go (S := (88, [(0, gx_r 7), (1, gx_w w)], [gx_w 15, gx_w w], t0, n, 0)) rfl (fun _ => rfl) rfl ?_
              by_cases hc13 : w = 15
              · refine gx_acnt rfl (by first | decide | omega) (by first | decide | omega) hc13 rfl ?_
                refine ex_go (S := (92, [(0, gx_r 7), (1, gx_w w)], [gx_r 7], t0, n, 0)) rfl (fun _ => rfl) rfl ?_
                obtain ⟨_, r114, t114, a114, f114, rfl, s114, hT114, hP114, hW114, z114, hN114, y114⟩ := pc_signLine257 (d + 35) n s0 hT ha hP hA h3
                have hwd : sp_wd S m N a 15 := by rw [← hc13]; exact hw2
                refine gx_callo (a := 7) rfl rfl s0.1 rfl rfl rfl r114 rfl ?_
                show en_ex _ _ _ _ (95, [(0, gx_r 7), (1, gx_w w)], [], t114, n, 0) _
                refine ex_go (S := (210, [(0, gx_r 7), (1, gx_w w)], [], t114, n, 0)) rfl (fun _ => rfl) rfl ?_
                refine ex_ret (r := (none, t114, n, 0)) rfl (fun _ => rfl) ?_
                exact ⟨_, rfl, t114, a114, f114, rfl, s114, hT114, hP114, cW_V hW114, ⟨_, sn_sign σ a, Or.inr (Or.inr (Or.inr (Or.inr (Or.inr (Or.inl (⟨hwd, rfl, rfl⟩)))))), z114, fun h0 => ⟨(y114 h0).1, (y114 h0).2, CLw_keep hC (fun c i l1 l2 => hW114 c i (by first | decide | omega)) (fun _ => ⟨rfl, rfl⟩)⟩⟩, hN114⟩
              · refine gx_acnf rfl (by first | decide | omega) (by first | decide | omega) hc13 rfl ?_
                refine ex_go (S := (99, [(0, gx_r 7), (1, gx_w w)], [gx_w w], t0, n, 0)) rfl (fun _ => rfl) rfl ?_
                refine ex_go (S := (102, [(0, gx_r 7), (1, gx_w w)], [gx_w 17, gx_w w], t0, n, 0)) rfl (fun _ => rfl) rfl ?_
                by_cases hc15 : w = 17
                · refine gx_acnt rfl (by first | decide | omega) (by first | decide | omega) hc15 rfl ?_
                  refine ex_go (S := (106, [(0, gx_r 7), (1, gx_w w)], [gx_r 7], t0, n, 0)) rfl (fun _ => rfl) rfl ?_
                  obtain ⟨_, r116, t116, a116, f116, rfl, s116, hT116, hP116, hW116, z116, hN116, y116⟩ := pc_loadLine257 (d + 35) n s0 hT ha hP hA h3
                  have hwd : sp_wd S m N a 17 := by rw [← hc15]; exact hw2
                  refine gx_callo (a := 7) rfl rfl s0.1 rfl rfl rfl r116 rfl ?_
                  show en_ex _ _ _ _ (109, [(0, gx_r 7), (1, gx_w w)], [], t116, n, 0) _
                  refine ex_go (S := (210, [(0, gx_r 7), (1, gx_w w)], [], t116, n, 0)) rfl (fun _ => rfl) rfl ?_
                  refine ex_ret (r := (none, t116, n, 0)) rfl (fun _ => rfl) ?_
                  exact ⟨_, rfl, t116, a116, f116, rfl, s116, hT116, hP116, cW_V hW116, ⟨_, sn_load σ a, Or.inr (Or.inr (Or.inr (Or.inr (Or.inr (Or.inr (Or.inl (⟨hwd, rfl, rfl⟩))))))), z116, fun h0 => ⟨(y116 h0).1, (y116 h0).2, CLw_keep hC (fun c i l1 l2 => hW116 c i (by first | decide | omega)) (fun _ => ⟨rfl, rfl⟩)⟩⟩, hN116⟩
                · refine gx_acnf rfl (by first | decide | omega) (by first | decide | omega) hc15 rfl ?_
                  refine ex_go (S := (113, [(0, gx_r 7), (1, gx_w w)], [gx_w w], t0, n, 0)) rfl (fun _ => rfl) rfl ?_
                  refine ex_go (S := (116, [(0, gx_r 7), (1, gx_w w)], [gx_w 20, gx_w w], t0, n, 0)) rfl (fun _ => rfl) rfl ?_
                  by_cases hc17 : w = 20
                  · refine gx_acnt rfl (by first | decide | omega) (by first | decide | omega) hc17 rfl ?_
                    refine ex_go (S := (120, [(0, gx_r 7), (1, gx_w w)], [gx_r 7], t0, n, 0)) rfl (fun _ => rfl) rfl ?_
                    refine ex_go (S := (121, [(0, gx_r 7), (1, gx_w w)], [gx_r 7, gx_r 7], t0, n, 0)) rfl (fun _ => rfl) rfl ?_
                    refine ex_go (S := (122, [(0, gx_r 7), (1, gx_w w)], [gx_w w, gx_r 7, gx_r 7], t0, n, 0)) rfl (fun _ => rfl) rfl ?_
                    refine ex_go (S := (123, [(0, gx_r 7), (1, gx_w w)], [gx_r 7, gx_w w, gx_r 7, gx_r 7], t0, n, 0)) rfl (fun _ => rfl) rfl ?_
                    refine gxo_get (a := 7) rfl s0.1 rfl rfl hP rfl ?_
                    refine gxo_ref (a := 257) (c := 296) rfl s0.1 rfl rfl rfl rfl rfl ?_
                    refine ex_go (S := (130, [(0, gx_r 7), (1, gx_w w)], [gx_r 7, gx_r 296, gx_w w, gx_r 7, gx_r 7], t0, n, 0)) rfl (fun _ => rfl) rfl ?_
                    refine gxo_get (a := 7) rfl s0.1 rfl rfl kk9 rfl ?_
                    have hwd : sp_wd S m N a 20 := by rw [← hc17]; exact hw2
                    obtain ⟨_, r118, t118, a118, f118, rfl, s118, hT118, hP118, e118, ⟨q118, hq118, z118⟩, hN118, hl118, hA118, hF118⟩ := pc_lawLine257_0 (d) n s0 hT ha hP hA h3 (by first | decide | omega)
                    have b118 := s118.2.2.2
                    rw [hc17]
                    refine gx_callo (a := 7) rfl rfl s0.1 rfl rfl rfl r118 rfl ?_
                    show en_ex _ _ _ _ (136, [(0, gx_r 7), (1, gx_w 20)], [.inl 1, gx_r 7], t118, n, 0) _
                    refine gxo_put (a := 7) rfl s118.1 rfl rfl rfl (ai_in_h (by first | decide | omega) (by first | decide | omega) (by first | decide | omega)) rfl (fun t119 g119 k119 e119 => ?_)
                    have s119 : cS t119 a118 f118 := ⟨g119, (e119 1 8 (by first | decide | omega)).trans s118.2.1, (e119 1 1 (by first | decide | omega)).trans s118.2.2.1, s118.2.2.2⟩
                    refine ex_go (S := (210, [(0, gx_r 7), (1, gx_w 20)], [], t119, n, 0)) rfl (fun _ => rfl) rfl ?_
                    refine ex_ret (r := (none, t119, n, 0)) rfl (fun _ => rfl) ?_
                    refine ⟨_, rfl, t119, a118, f118, rfl, s119, cT_keep hT118 (fun c i h => e119 c i (by first | decide | omega)), (e119 7 1 (by first | decide | omega)).trans hP118, (fun c i h => (e119 c i (by first | decide | omega)).trans (e118 c i h)), ⟨q118, up (up σ 9 0 1) 24 0 (a + 1), Or.inr (Or.inr (Or.inr (Or.inr (Or.inr (Or.inr (Or.inr (Or.inr (Or.inl (⟨0, by omega, hwd, hq118, rfl⟩))))))))), z118, fun h0 => ?_⟩, hN118⟩
                    obtain ⟨L9, c9, m9⟩ := (hl118 h0).2
                    exact ⟨(hl118 h0).1, CA_up9 (by first | decide | omega) hA118 (by first | decide | omega) e119 k119, CLw_up hC (fun c i l1 l2 l3 l4 => (e119 c i (by first | decide | omega)).trans (hF118 c i l1 l2 (by first | decide | omega) (by first | decide | omega))) c9 (CLs_keep m9 (e119 _ _ (by first | decide | omega)) (fun j => e119 _ _ (by first | decide | omega)))⟩
                  · refine gx_acnf rfl (by first | decide | omega) (by first | decide | omega) hc17 rfl ?_
                    refine ex_go (S := (143, [(0, gx_r 7), (1, gx_w w)], [gx_w w], t0, n, 0)) rfl (fun _ => rfl) rfl ?_
                    refine ex_go (S := (146, [(0, gx_r 7), (1, gx_w w)], [gx_w 21, gx_w w], t0, n, 0)) rfl (fun _ => rfl) rfl ?_
                    by_cases hc20 : w = 21
                    · refine gx_acnt rfl (by first | decide | omega) (by first | decide | omega) hc20 rfl ?_
                      refine ex_go (S := (150, [(0, gx_r 7), (1, gx_w w)], [gx_r 7], t0, n, 0)) rfl (fun _ => rfl) rfl ?_
                      refine ex_go (S := (151, [(0, gx_r 7), (1, gx_w w)], [gx_r 7, gx_r 7], t0, n, 0)) rfl (fun _ => rfl) rfl ?_
                      refine ex_go (S := (152, [(0, gx_r 7), (1, gx_w w)], [gx_w w, gx_r 7, gx_r 7], t0, n, 0)) rfl (fun _ => rfl) rfl ?_
                      refine ex_go (S := (153, [(0, gx_r 7), (1, gx_w w)], [gx_r 7, gx_w w, gx_r 7, gx_r 7], t0, n, 0)) rfl (fun _ => rfl) rfl ?_
                      refine gxo_get (a := 7) rfl s0.1 rfl rfl hP rfl ?_
                      refine gxo_ref (a := 257) (c := 299) rfl s0.1 rfl rfl rfl rfl rfl ?_
                      refine ex_go (S := (160, [(0, gx_r 7), (1, gx_w w)], [gx_r 7, gx_r 299, gx_w w, gx_r 7, gx_r 7], t0, n, 0)) rfl (fun _ => rfl) rfl ?_
                      refine gxo_get (a := 7) rfl s0.1 rfl rfl kk10 rfl ?_
                      have hwd : sp_wd S m N a 21 := by rw [← hc20]; exact hw2
                      obtain ⟨_, r121, t121, a121, f121, rfl, s121, hT121, hP121, e121, ⟨q121, hq121, z121⟩, hN121, hl121, hA121, hF121⟩ := pc_lawLine257_1 (d) n s0 hT ha hP hA h3 (by first | decide | omega)
                      have b121 := s121.2.2.2
                      rw [hc20]
                      refine gx_callo (a := 7) rfl rfl s0.1 rfl rfl rfl r121 rfl ?_
                      show en_ex _ _ _ _ (166, [(0, gx_r 7), (1, gx_w 21)], [.inl 1, gx_r 7], t121, n, 0) _
                      refine gxo_put (a := 7) rfl s121.1 rfl rfl rfl (ai_in_h (by first | decide | omega) (by first | decide | omega) (by first | decide | omega)) rfl (fun t122 g122 k122 e122 => ?_)
                      have s122 : cS t122 a121 f121 := ⟨g122, (e122 1 8 (by first | decide | omega)).trans s121.2.1, (e122 1 1 (by first | decide | omega)).trans s121.2.2.1, s121.2.2.2⟩
                      refine ex_go (S := (210, [(0, gx_r 7), (1, gx_w 21)], [], t122, n, 0)) rfl (fun _ => rfl) rfl ?_
                      refine ex_ret (r := (none, t122, n, 0)) rfl (fun _ => rfl) ?_
                      refine ⟨_, rfl, t122, a121, f121, rfl, s122, cT_keep hT121 (fun c i h => e122 c i (by first | decide | omega)), (e122 7 1 (by first | decide | omega)).trans hP121, (fun c i h => (e122 c i (by first | decide | omega)).trans (e121 c i h)), ⟨q121, up (up σ 9 1 1) 24 1 (a + 1), Or.inr (Or.inr (Or.inr (Or.inr (Or.inr (Or.inr (Or.inr (Or.inr (Or.inl (⟨1, by omega, hwd, hq121, rfl⟩))))))))), z121, fun h0 => ?_⟩, hN121⟩
                      obtain ⟨L9, c9, m9⟩ := (hl121 h0).2
                      exact ⟨(hl121 h0).1, CA_up9 (by first | decide | omega) hA121 (by first | decide | omega) e122 k122, CLw_up hC (fun c i l1 l2 l3 l4 => (e122 c i (by first | decide | omega)).trans (hF121 c i l1 l2 (by first | decide | omega) (by first | decide | omega))) c9 (CLs_keep m9 (e122 _ _ (by first | decide | omega)) (fun j => e122 _ _ (by first | decide | omega)))⟩
                    · refine gx_acnf rfl (by first | decide | omega) (by first | decide | omega) hc20 rfl ?_
                      refine ex_go (S := (173, [(0, gx_r 7), (1, gx_w w)], [gx_w w], t0, n, 0)) rfl (fun _ => rfl) rfl ?_
                      refine ex_go (S := (176, [(0, gx_r 7), (1, gx_w w)], [gx_w 22, gx_w w], t0, n, 0)) rfl (fun _ => rfl) rfl ?_
                      by_cases hc23 : w = 22
                      · refine gx_acnt rfl (by first | decide | omega) (by first | decide | omega) hc23 rfl ?_
                        refine ex_go (S := (180, [(0, gx_r 7), (1, gx_w w)], [gx_r 7], t0, n, 0)) rfl (fun _ => rfl) rfl ?_
                        refine ex_go (S := (181, [(0, gx_r 7), (1, gx_w w)], [gx_r 7, gx_r 7], t0, n, 0)) rfl (fun _ => rfl) rfl ?_
                        refine ex_go (S := (182, [(0, gx_r 7), (1, gx_w w)], [gx_w w, gx_r 7, gx_r 7], t0, n, 0)) rfl (fun _ => rfl) rfl ?_
                        refine ex_go (S := (183, [(0, gx_r 7), (1, gx_w w)], [gx_r 7, gx_w w, gx_r 7, gx_r 7], t0, n, 0)) rfl (fun _ => rfl) rfl ?_
                        refine gxo_get (a := 7) rfl s0.1 rfl rfl hP rfl ?_
                        refine gxo_ref (a := 257) (c := 302) rfl s0.1 rfl rfl rfl rfl rfl ?_
                        refine ex_go (S := (190, [(0, gx_r 7), (1, gx_w w)], [gx_r 7, gx_r 302, gx_w w, gx_r 7, gx_r 7], t0, n, 0)) rfl (fun _ => rfl) rfl ?_
                        refine gxo_get (a := 7) rfl s0.1 rfl rfl kk11 rfl ?_
                        have hwd : sp_wd S m N a 22 := by rw [← hc23]; exact hw2
                        obtain ⟨_, r124, t124, a124, f124, rfl, s124, hT124, hP124, e124, ⟨q124, hq124, z124⟩, hN124, hl124, hA124, hF124⟩ := pc_lawLine257_2 (d) n s0 hT ha hP hA h3 (by first | decide | omega)
                        have b124 := s124.2.2.2
                        rw [hc23]
                        refine gx_callo (a := 7) rfl rfl s0.1 rfl rfl rfl r124 rfl ?_
                        show en_ex _ _ _ _ (196, [(0, gx_r 7), (1, gx_w 22)], [.inl 1, gx_r 7], t124, n, 0) _
                        refine gxo_put (a := 7) rfl s124.1 rfl rfl rfl (ai_in_h (by first | decide | omega) (by first | decide | omega) (by first | decide | omega)) rfl (fun t125 g125 k125 e125 => ?_)
                        have s125 : cS t125 a124 f124 := ⟨g125, (e125 1 8 (by first | decide | omega)).trans s124.2.1, (e125 1 1 (by first | decide | omega)).trans s124.2.2.1, s124.2.2.2⟩
                        refine ex_go (S := (210, [(0, gx_r 7), (1, gx_w 22)], [], t125, n, 0)) rfl (fun _ => rfl) rfl ?_
                        refine ex_ret (r := (none, t125, n, 0)) rfl (fun _ => rfl) ?_
                        refine ⟨_, rfl, t125, a124, f124, rfl, s125, cT_keep hT124 (fun c i h => e125 c i (by first | decide | omega)), (e125 7 1 (by first | decide | omega)).trans hP124, (fun c i h => (e125 c i (by first | decide | omega)).trans (e124 c i h)), ⟨q124, up (up σ 9 2 1) 24 2 (a + 1), Or.inr (Or.inr (Or.inr (Or.inr (Or.inr (Or.inr (Or.inr (Or.inr (Or.inl (⟨2, by omega, hwd, hq124, rfl⟩))))))))), z124, fun h0 => ?_⟩, hN124⟩
                        obtain ⟨L9, c9, m9⟩ := (hl124 h0).2
                        exact ⟨(hl124 h0).1, CA_up9 (by first | decide | omega) hA124 (by first | decide | omega) e125 k125, CLw_up hC (fun c i l1 l2 l3 l4 => (e125 c i (by first | decide | omega)).trans (hF124 c i l1 l2 (by first | decide | omega) (by first | decide | omega))) c9 (CLs_keep m9 (e125 _ _ (by first | decide | omega)) (fun j => e125 _ _ (by first | decide | omega)))⟩
                      · refine gx_acnf rfl (by first | decide | omega) (by first | decide | omega) hc23 rfl ?_
                        refine ex_go (S := (203, [(0, gx_r 7), (1, gx_w w)], [gx_r 7], t0, n, 0)) rfl (fun _ => rfl) rfl ?_
                        refine gxo_ref (a := 7) (c := 1) rfl s0.1 rfl rfl rfl rfl rfl ?_
                        refine ex_go (S := (207, [(0, gx_r 7), (1, gx_w w)], [.inl 1, gx_r 1], t0, n, 0)) rfl (fun _ => rfl) rfl ?_
                        obtain ⟨_, r126, t126, a126, f126, rfl, s126, e126, q126⟩ := pc_wrong (d + 38) n (s0) hT (by first | decide | omega) (w := 1) (by first | decide | omega)
                        have b126 := s126.2.2.2
                        refine gx_callo (a := 1) rfl rfl s0.1 rfl rfl rfl r126 rfl ?_
                        have k27 : ai_hv t126 7 1 = some (gx_r 257) := (e126 7 1 (by first | decide | omega)).trans hP
                        have k28 : ai_hv t126 7 5 = some (.inl (σ 9 0)) := (e126 7 5 (by first | decide | omega)).trans kk9
                        have k29 : ai_hv t126 7 6 = some (.inl (σ 9 1)) := (e126 7 6 (by first | decide | omega)).trans kk10
                        have k30 : ai_hv t126 7 7 = some (.inl (σ 9 2)) := (e126 7 7 (by first | decide | omega)).trans kk11
                        show en_ex _ _ _ _ (210, [(0, gx_r 7), (1, gx_w w)], [], t126, n, 0) _
                        refine ex_ret (r := (none, t126, n, 0)) rfl (fun _ => rfl) ?_
                        have hno : ∀ w, w = 1 ∨ w = 2 ∨ w = 4 ∨ w = 8 ∨ w = 12 ∨ w = 15 ∨ w = 17 ∨ w = 11 ∨ w = 20 ∨ w = 21 ∨ w = 22 → ¬ sp_wd S m N a w := fun w' hw z => by
                          have h9 := sp_wd_one (by first | decide | omega) (by first | decide | omega) hw2 z
                          omega
                        have hT31 := cT_keep (t' := t126) hT (fun c i h => e126 c i (by first | decide | omega))
                        refine ⟨_, rfl, t126, a126, f126, rfl, s126, hT31, k27, (fun c i h => e126 c i (by first | decide | omega)), ⟨fx S m 1 a, σ, Or.inr (Or.inr (Or.inr (Or.inr (Or.inr (Or.inr (Or.inr (Or.inr (Or.inr (⟨hno, rfl, rfl⟩))))))))), ?_, fun h0 => by omega⟩, by omega⟩
                        unfold fx
                        rw [fs_no (by first | decide | omega)]; exact Prod.ext (by show a126 = a; omega) (by show f126 = 1 + 16 * sp_st S m a; omega)
end SPX
