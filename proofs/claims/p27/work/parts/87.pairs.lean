section PKF
noncomputable def pi_s00 : ai_O := [(0, 10, .inr (.inr [291])), (0, 11, .inr (.inr [357])), (0, 12, .inr (.inr [423])), (0, 13, .inr (.inr [429])), (191, 0, .inl (2147483650, 2147483656)), (191, 1, .inl (2147483650, 2147483656))]
noncomputable def pi_s01 : ai_O := [(0, 10, .inr (.inr [291])), (0, 11, .inr (.inr [357])), (0, 12, .inr (.inr [429])), (0, 13, .inr (.inr [423])), (191, 0, .inl (2147483650, 2147483656)), (191, 1, .inl (2147483650, 2147483656))]
noncomputable def pi_s10 : ai_O := [(0, 10, .inr (.inr [357])), (0, 11, .inr (.inr [291])), (0, 12, .inr (.inr [423])), (0, 13, .inr (.inr [429])), (257, 0, .inl (2147483650, 2147483656)), (257, 1, .inl (2147483650, 2147483656))]
noncomputable def pi_s11 : ai_O := [(0, 10, .inr (.inr [357])), (0, 11, .inr (.inr [291])), (0, 12, .inr (.inr [429])), (0, 13, .inr (.inr [423])), (257, 0, .inl (2147483650, 2147483656)), (257, 1, .inl (2147483650, 2147483656))]
noncomputable def pi_S (s : ai_O) : Prop := s = pi_s00 ∨ s = pi_s01 ∨ s = pi_s10 ∨ s = pi_s11
/-- what holds of the heap before each call of the law -/
noncomputable def pi_T (t : en_H) : Prop := ∃ len S, len ≤ 1000 ∧ ai_hv t 1 0 = some (.inl len) ∧ ai_hv t 383 2 = some (.inl len) ∧ tp t 2 S len ∧ tp t 384 S len ∧ (∀ w, w < 42 → ai_hv t 388 w = some (.inr (.inl (wd_37 w)))) ∧ LN t
noncomputable def pi_K (t t' : en_H) : Prop := ∀ c i, (c = 1 ∧ i = 0) ∨ (c = 383 ∧ i = 2) ∨ c = 2 ∨ c = 384 ∨ c = 388 ∨ (c = 0 ∧ i = 12) ∨ (323 ≤ c ∧ c ≤ 334) ∨ (c = 389 ∧ i < 160) ∨ (c = 396 ∧ i < 110) → ai_hv t' c i = ai_hv t c i
theorem pi_T_keep {t t' : en_H} (h : pi_T t) (e : pi_K t t') : pi_T t' := by
  obtain ⟨len, S, l1, l2, l3, l4, l5, l6, lL⟩ := h
  exact ⟨len, S, l1, (e 1 0 (by first | decide | omega)).trans l2, (e 383 2 (by first | decide | omega)).trans l3, tp_keep l4 (fun i => e 2 i (by first | decide | omega)), tp_keep l5 (fun i => e 384 i (by first | decide | omega)), (fun w hw => (e 388 w (by first | decide | omega)).trans (l6 w hw)), LN_keep lL (fun c i h => e c i (by first | decide | omega))⟩
/-- the laws that both tell -/
noncomputable def CL (t : en_H) : Prop := CR t ∧ LR t
noncomputable def PW (t : en_H) (q : Nat) : Prop := (∀ k, k < 3 → ∃ L, RLL t k (sp_fh k) L ∧ CLs t (q + 39 + 3 * k) L ∧ L.length ≤ 1000 ∧ (∀ z, z ∈ L → vo (sp_fh k) z) ∧ hrun 25 L 0 = some 1) ∧ CL t
theorem PW_keep {t t' : en_H} {q : Nat} (h : PW t q) (e1 : ∀ i, i < 160 → ai_hv t' 389 i = ai_hv t 389 i) (e2 : ∀ c i, c = 390 ∨ c = 391 → i < 1000 → ai_hv t' c i = ai_hv t c i) (e3 : ∀ i, ai_hv t' 147 i = ai_hv t 147 i) (e5 : ∀ i, ai_hv t' 180 i = ai_hv t 180 i) (e4 : ∀ k, k < 3 → ai_hv t' (q + 39 + 3 * k) 2 = ai_hv t (q + 39 + 3 * k) 2 ∧ ∀ i, ai_hv t' (q + 39 + 3 * k + 2) i = ai_hv t (q + 39 + 3 * k + 2) i) : PW t' q := ⟨fun k hk => by
  obtain ⟨L, h1, h2, h3⟩ := h.1 k hk
  refine ⟨L, ?_, CLs_keep h2 (e4 k hk).1 (e4 k hk).2, h3⟩
  rcases h1 with ⟨h1, h4⟩ | ⟨z, h1, h4, h5, h6⟩
  · exact Or.inl ⟨(e1 _ (by first | decide | omega)).trans h1, h4⟩
  · exact Or.inr ⟨z, (e1 _ (by first | decide | omega)).trans h1, h4, rco_keepb e2 (by first | decide | omega) h5, h6⟩, ⟨fun k hk => (e3 k).trans (h.2.1 k hk), fun k hk => (e5 k).trans (h.2.2 k hk)⟩⟩
theorem cdf_ok {k : Nat} (hk : k < 3) : [cdf k].length ≤ 1000 ∧ (∀ z, z ∈ [cdf k] → vo (sp_fh k) z) ∧ hrun 25 [cdf k] 0 = some 1 := by
  refine ⟨(show 1 ≤ 1000 by decide), fun z hz => ?_, ?_⟩
  · rw [List.mem_singleton] at hz
    subst hz
    rcases (show k = 0 ∨ k = 1 ∨ k = 2 by omega) with rfl | rfl | rfl
    · exact Or.inr (Or.inr (Or.inr ⟨Or.inl rfl, rfl⟩))
    · exact Or.inl (by decide)
    · exact Or.inl (by decide)
  · rcases (show k = 0 ∨ k = 1 ∨ k = 2 by omega) with rfl | rfl | rfl <;> rfl
theorem PW_of {t : en_H} {S : Nat → Nat} {m N q : Nat} {υ : Nat → Nat → Nat} (hW : WL S m N υ) (hR : RTL t S m N υ) (hC : CLw t q S m N υ) (hc : CL t) : PW t q := ⟨fun k hk => by
  obtain ⟨L, hL, hs⟩ := hC k hk
  rcases hR k hk with ⟨u0, r0⟩ | ⟨u1, z, L', r0, hE, hz, hco, hend⟩
  · rcases hL with ⟨u1, -⟩ | ⟨-, rfl⟩
    · exact absurd (u0.symm.trans u1) (by decide)
    · exact ⟨_, Or.inl ⟨r0, rfl⟩, hs, cdf_ok hk⟩
  · rcases hL with ⟨-, hE'⟩ | ⟨u0, -⟩
    · have e := Ec_det hE hE'
      subst e
      obtain ⟨hle, w, hEv, hw⟩ := hW k hk u1
      obtain ⟨h1, h2⟩ := ec_law sp_fh_3 hle hEv hw hE
      exact ⟨L', Or.inr ⟨z, r0, hz, rco_of hco hend, h2, h1⟩, hs, by omega, h2, h1⟩
    · exact absurd (u0.symm.trans u1) (by decide), hc⟩
/-- both tell the same pack -/
noncomputable def pi_U (t : en_H) : Prop := ∃ (q : Nat) (S0 : Nat → Nat) (m0 N0 : Nat) (υ : Nat → Nat → Nat), (q = 191 ∨ q = 257) ∧ ai_hv t 0 10 = some (gx_r q) ∧ (W3 S0 m0 N0 υ ∧ WC S0 m0 N0 υ ∧ WD υ ∧ WG S0 m0 υ) ∧ ((∀ j, j < 64 → υ 23 j ≤ 4) ∧ PW t q) ∧ RT t S0 m0 υ ∧ CU t q S0 m0 υ
theorem cv_lt {p c : Nat} (hp : p = 191 ∨ p = 257) (h1 : p + 39 ≤ c) (h2 : c ≤ p + 47) : c < 383 := by omega
theorem pi_U_CR {t : en_H} (h : pi_U t) : CR t := by
  obtain ⟨q, S0, m0, N0, υ, hq, h1, h2, h3, h4⟩ := h
  exact h3.2.2.1
theorem pi_U_LR {t : en_H} (h : pi_U t) : LR t := by
  obtain ⟨q, S0, m0, N0, υ, hq, h1, h2, h3, h4⟩ := h
  exact h3.2.2.2
theorem WL_0 {S : Nat → Nat} {m N : Nat} : WL S m N (sg_0 S m) := fun k _ h => absurd ((show sg_0 S m 9 k = 0 from rfl).symm.trans h) (by decide)
noncomputable def pi_LC (c i : Nat) : Prop := (c = 0 ∧ i = 10) ∨ ((c = 191 ∨ c = 257) ∧ i ≤ 2) ∨ c = 192 ∨ c = 258 ∨ (194 ≤ c ∧ c ≤ 229) ∨ (260 ≤ c ∧ c ≤ 295) ∨ (c = 389 ∧ i < 160) ∨ (c = 383 ∧ i = 18) ∨ c = 392 ∨ c = 394 ∨ ((c = 390 ∨ c = 391) ∧ i < 1100) ∨ c = 147 ∨ c = 180 ∨ (c = 232 ∨ c = 235 ∨ c = 238 ∨ c = 298 ∨ c = 301 ∨ c = 304) ∨ ((c = 230 ∨ c = 233 ∨ c = 236 ∨ c = 296 ∨ c = 299 ∨ c = 302) ∧ i = 2)
noncomputable def pi_L (t t' : en_H) : Prop := ∀ c i, pi_LC c i → ai_hv t' c i = ai_hv t c i
theorem pi_U_keep {t t' : en_H} (h : pi_U t) (e : pi_L t t') : pi_U t' := by
  obtain ⟨q, S0, m0, N0, υ, hq, k1, k2, k3, k4, k5⟩ := h
  exact ⟨q, S0, m0, N0, υ, hq, (e 0 10 (by unfold pi_LC; omega)).trans k1, k2, ⟨k3.1, PW_keep k3.2 (fun i hi => e 389 i (by unfold pi_LC; omega)) (fun c i hc hi => e c i (by unfold pi_LC; omega)) (fun i => e 147 i (by unfold pi_LC; omega)) (fun i => e 180 i (by unfold pi_LC; omega)) (fun k hk => ⟨e _ 2 (by unfold pi_LC; omega), fun i => e _ i (by unfold pi_LC; omega)⟩)⟩, RT_keep k4 (fun c i h => e c i (by unfold pi_LC; omega)), CU_keep k5 (fun c i h => e c i (by unfold pi_LC; omega))⟩
/-- what is settled: the jumps' rows, and what is made of the told grid -/
noncomputable def pi_X (t : en_H) : Prop := JRw t 191 ∧ JRw t 257 ∧ ∃ q, (q = 191 ∨ q = 257) ∧ ai_hv t 0 10 = some (gx_r q) ∧ NX t q
/-- .. and all that stands is the same on both sides -/
noncomputable def pi_M (B : Nat) (t : en_H) : Prop := pi_X t ∧ ZS B t
noncomputable def pi_VX (c i : Nat) : Prop := (c = 0 ∧ i = 10) ∨ ((c = 191 ∨ c = 257) ∧ (i ≤ 1 ∨ i = 16)) ∨ (192 ≤ c ∧ c ≤ 193) ∨ (258 ≤ c ∧ c ≤ 259) ∨ (239 ≤ c ∧ c ≤ 256) ∨ (305 ≤ c ∧ c ≤ 322)
noncomputable def pi_VZ (c i : Nat) : Prop := (c = 389 ∧ i < 160) ∨ RSC c i ∨ CSC c i
noncomputable def pi_NX (t t' : en_H) : Prop := ∀ c i, pi_VX c i → ai_hv t' c i = ai_hv t c i
noncomputable def pi_N (t t' : en_H) : Prop := pi_NX t t' ∧ ∀ c i, pi_VZ c i → ai_hv t' c i = ai_hv t c i
theorem pi_X_keep {t t' : en_H} (h : pi_X t) (e : pi_NX t t') : pi_X t' := by
  obtain ⟨h1, h2, q, hq, h3, h4⟩ := h
  exact ⟨fun i hi => (e _ _ (by unfold pi_VX; omega)).trans (h1 i hi), fun i hi => (e _ _ (by unfold pi_VX; omega)).trans (h2 i hi), q, hq, (e _ _ (by unfold pi_VX; omega)).trans h3, NX_keep h4 (fun c i h => e c i (by unfold pi_VX; omega))⟩
theorem gx_req {p q : Nat} (h : (gx_r p : en_V) = gx_r q) : p = q := Option.some.inj (Sum.inl.inj (Sum.inr.inj (Sum.inr.inj h)))
theorem pi_wld {t : en_H} {q : Nat} {S : Nat → Nat} {m N : Nat} {υ : Nat → Nat → Nat} (g : ai_HG ah_G t) (hE : ai_E t) (hW : W3 S m N υ) (hWC : WC S m N υ) (hP : PW t q) (hR : RT t S m υ) (hC : CU t q S m υ) (hN : NX t q) : ∃ w L, RW t w L ∧ CW t q w L ∧ CX t q w := by
  obtain ⟨L, l1, l2, l3, l4, l5⟩ := hP.1 0 (by decide)
  obtain ⟨w, -, h⟩ := wld_of g hE hW hWC hR hC hN l1 l2 l3 l4 l5
  exact ⟨w, L, h⟩
theorem pi_wldX {t : en_H} {q : Nat} {S : Nat → Nat} {m N : Nat} {υ : Nat → Nat → Nat} (g : ai_HG ah_G t) (hE : ai_E t) (hW : W3 S m N υ) (hWC : WC S m N υ) (hWD : WD υ) (hWG : WG S m υ) (hP : PW t q) (hR : RT t S m υ) (hC : CU t q S m υ) (hN : NX t q) : ∃ w L, RW t w L ∧ CW t q w L ∧ CX t q w ∧ (∀ i j, i < w 0 4 → j < w 0 4 → w 3 i = w 3 j → i = j) ∧ ∀ i, i < w 0 2 → inG (w 0 0) (w 0 1) (w 6 i) = true := by
  obtain ⟨L, l1, l2, l3, l4, l5⟩ := hP.1 0 (by decide)
  obtain ⟨w, ⟨a0, a1, a2, -, a4, a5, a6⟩, h1, h2, h3⟩ := wld_of g hE hW hWC hR hC hN l1 l2 l3 l4 l5
  refine ⟨w, L, h1, h2, h3, fun i j hi hj e => ?_, fun i hi => ?_⟩
  · rw [a4] at hi hj
    exact hWD i j hi hj ((a5 i).symm.trans (e.trans (a5 j)))
  · rw [a2] at hi
    obtain ⟨b1, b2⟩ := hWG i hi
    have hO := h1.2.1.1
    rw [inG_iff, a0, a1, a6]
    rw [a0] at hO
    omega
theorem pi_SPX {t : en_H} (g : ai_HG ah_G t) (hE : ai_E t) (hU : pi_U t) (hX : pi_X t) : SPX t := by
  obtain ⟨q, S0, m0, N0, υ, hq, k1, ⟨k2, k2c, k2d, k2g⟩, ⟨-, hP⟩, k4, k5⟩ := hU
  obtain ⟨-, -, q', -, k1', hN⟩ := hX
  have e := gx_req (Option.some.inj (k1'.symm.trans k1))
  subst e
  have h := pi_wldX g hE k2 k2c k2d k2g hP k4 k5 hN
  rcases hq with rfl | rfl
  · exact Or.inl ⟨k1, h⟩
  · exact Or.inr ⟨k1, h⟩
theorem pi_SP {t : en_H} (g : ai_HG ah_G t) (hE : ai_E t) (hU : pi_U t) (hX : pi_X t) : SP t := by
  obtain ⟨q, S0, m0, N0, υ, hq, k1, ⟨k2, k2c, -⟩, ⟨-, hP⟩, k4, k5⟩ := hU
  obtain ⟨-, -, q', -, k1', hN⟩ := hX
  have e := gx_req (Option.some.inj (k1'.symm.trans k1))
  subst e
  have h := pi_wld g hE k2 k2c hP k4 k5 hN
  rcases hq with rfl | rfl
  · exact Or.inl ⟨k1, h⟩
  · exact Or.inr ⟨k1, h⟩
theorem ZS_mono {B B' : Nat} {t : en_H} (h : ZS B t) (hB : B ≤ B') : ZS B' t := ZS_keep h hB rfl rfl rfl rfl (fun _ _ _ => rfl) (fun _ _ _ => rfl)
theorem pi_M_mono {B B' : Nat} {t : en_H} (h : pi_M B t) (hB : B ≤ B') : pi_M B' t := ⟨h.1, ZS_mono h.2 hB⟩
theorem nxc_lt {q c i : Nat} (hq : q = 191 ∨ q = 257) (h : (c = q ∧ (i ≤ 1 ∨ i = 16)) ∨ c = q + 1 ∨ c = q + 2 ∨ (q + 48 ≤ c ∧ c ≤ q + 65)) : c < 383 := by omega
theorem nxc_out {p q c i : Nat} (hp : p = 191 ∨ p = 257) (hq : q = 191 ∨ q = 257) (hpq : p ≠ q) (h : (c = q ∧ (i ≤ 1 ∨ i = 16)) ∨ c = q + 1 ∨ c = q + 2 ∨ (q + 48 ≤ c ∧ c ≤ q + 65)) : ¬ (c = 1 ∨ (3 ≤ c ∧ c ≤ 7) ∨ (p ≤ c ∧ c ≤ p + 65)) := by omega
theorem csc_out {p c i : Nat} (hp : p = 191 ∨ p = 257) (h : CSC c i) : ¬ (c = 1 ∨ (3 ≤ c ∧ c ≤ 7) ∨ (p ≤ c ∧ c ≤ p + 65)) := by
  unfold CSC at h
  omega
theorem CBg_keep {t t' : en_H} {p l : Nat} (h : CBg t p l) (hp : p = 191 ∨ p = 257) (hl : l = 323 ∨ l = 329) (e : ∀ c i, c < 383 → ai_hv t' c i = ai_hv t c i) : CBg t' p l := by
  obtain ⟨b0, b1, b2, b9, b3, b4, b5, b6⟩ := h
  refine ⟨(e _ _ (by decide)).trans b0, fun T hT i hi => ?_, fun K hK c hc => ?_, (e _ _ (by first | decide | omega)).trans b9, (e _ _ (by decide)).trans b3, (e _ _ (by decide)).trans b4, (e _ _ (by decide)).trans b5, fun i hi => (e _ _ (by decide)).trans (b6 i hi)⟩
  · rw [e _ _ (by first | decide | omega)] at hT
    rw [e _ _ (by decide), e _ _ (by first | decide | omega)]
    exact b1 T hT i hi
  · rw [e _ _ (by first | decide | omega)] at hK
    rw [e 10 _ (by decide), e 11 _ (by decide), e 12 _ (by decide), e 13 _ (by decide), e 14 _ (by decide), e (p + 19) _ (by first | decide | omega)]
    exact b2 K hK c hc
theorem cu_lt {p c i : Nat} (hp : p = 191 ∨ p = 257) (h : (c = p ∧ i ≤ 2) ∨ c = p + 1 ∨ (p + 3 ≤ c ∧ c ≤ p + 38)) : c < 383 := by omega
theorem po_138 {p : Nat} (hp : p = 191 ∨ p = 257) : ¬ ((138 : Nat) = 1 ∨ (3 ≤ 138 ∧ 138 ≤ 7) ∨ (p ≤ 138 ∧ 138 ≤ p + 65)) := by omega
theorem pi_M_keep {B : Nat} {t t' : en_H} (h : pi_M B t) (e : pi_N t t') : pi_M B t' := ⟨pi_X_keep h.1 e.1, ZS_keep h.2 (Nat.le_refl _) (e.2 _ _ (by unfold pi_VZ; omega)) (e.2 _ _ (by unfold pi_VZ; omega)) (e.2 _ _ (by unfold pi_VZ; omega)) (e.2 _ _ (by unfold pi_VZ; omega)) (fun c i h => e.2 c i (by unfold pi_VZ; exact Or.inr (Or.inl h))) (fun c i h => e.2 c i (by unfold pi_VZ; exact Or.inr (Or.inr h)))⟩
noncomputable def pi_I (i : Nat) (t : en_H) : Prop := ai_HG ah_G t ∧ ai_E t ∧ (∃ s, pi_S s ∧ ai_HO s t) ∧ pi_T t ∧ pi_U t ∧ pi_M (5 * i) t
theorem pi_I_mono {i j : Nat} {t : en_H} (h : pi_I i t) (hij : i ≤ j) : pi_I j t := ⟨h.1, h.2.1, h.2.2.1, h.2.2.2.1, h.2.2.2.2.1, pi_M_mono h.2.2.2.2.2 (by first | decide | omega)⟩
noncomputable def pi_out (wr : ai_W) (c i : Nat) : Bool := ai_all (fun q => bif Nat.beq q.1 c && (Nat.ble q.2.1 i && Nat.ble i q.2.2) then false else true) wr
theorem pi_out_ok {wr : ai_W} {c i : Nat} (h : pi_out wr c i = true) : ¬ ai_inw wr c i := fun ⟨q, hq, h1, h2, h3⟩ => by
  have h4 := ai_all_ok h q hq
  rw [h1, Nat.beq_refl, Nat.ble_eq_true_of_le h2, Nat.ble_eq_true_of_le h3] at h4
  cases h4
noncomputable def pi_noc (wr : ai_W) (c : Nat) : Bool := ai_all (fun q => bif Nat.beq q.1 c then false else true) wr
theorem pi_noc_ok {wr : ai_W} {c i : Nat} (h : pi_noc wr c = true) : ¬ ai_inw wr c i := fun ⟨q, hq, h1, h2, h3⟩ => by
  have h4 := ai_all_ok h q hq
  rw [h1, Nat.beq_refl] at h4
  cases h4
theorem bq_iff {a b : Nat} : Nat.beq a b = true ↔ a = b := ⟨Nat.eq_of_beq_eq_true, fun h => by rw [h]; exact Nat.beq_refl b⟩
theorem bl_iff {a b : Nat} : Nat.ble a b = true ↔ a ≤ b := ⟨Nat.le_of_ble_eq_true, Nat.ble_eq_true_of_le⟩
theorem bt_iff {a b : Nat} : Nat.blt a b = true ↔ a < b := ⟨fun h => Nat.le_of_ble_eq_true h, fun h => Nat.ble_eq_true_of_le h⟩
theorem bif_iff {a b c : Bool} : (bif a then b else c) = true ↔ (a = true ∧ b = true) ∨ (¬ a = true ∧ c = true) := by cases a <;> simp
theorem bnot_iff {a : Bool} : (!a) = true ↔ ¬ a = true := by cases a <;> simp
noncomputable def pi_lb (q : Nat × Nat × Nat) : Bool := bif Nat.beq q.1 0 then (Nat.blt 12 q.2.1 || Nat.blt q.2.2 12) else bif Nat.beq q.1 389 then Nat.ble 160 q.2.1 else bif Nat.beq q.1 396 then Nat.ble 110 q.2.1 else !(Nat.ble 323 q.1 && Nat.ble q.1 334)
theorem pi_lb_ok {q : Nat × Nat × Nat} {c i : Nat} (h : pi_lb q = true) (h1 : q.1 = c) (h2 : q.2.1 ≤ i) (h3 : i ≤ q.2.2) : ¬ ((c = 0 ∧ i = 12) ∨ (323 ≤ c ∧ c ≤ 334) ∨ (c = 389 ∧ i < 160) ∨ (c = 396 ∧ i < 110)) := by
  unfold pi_lb at h
  simp only [bif_iff, bnot_iff, Bool.or_eq_true, Bool.and_eq_true, bq_iff, bl_iff, bt_iff] at h
  omega
noncomputable def pi_no (wr : ai_W) : Bool := (pi_noc wr 2 && (pi_noc wr 384 && pi_noc wr 388)) && ai_all pi_lb wr
theorem pi_no_ok {wr : ai_W} {c i : Nat} (h : pi_no wr = true) (hc : c = 2 ∨ c = 384 ∨ c = 388) : ¬ ai_inw wr c i := by
  unfold pi_no at h
  rw [Bool.and_eq_true, Bool.and_eq_true, Bool.and_eq_true] at h
  rcases hc with rfl | rfl | rfl
  · exact pi_noc_ok h.1.1
  · exact pi_noc_ok h.1.2.1
  · exact pi_noc_ok h.1.2.2
theorem pi_lo_ok {wr : ai_W} {c i : Nat} (h : pi_no wr = true) (hc : (c = 0 ∧ i = 12) ∨ (323 ≤ c ∧ c ≤ 334) ∨ (c = 389 ∧ i < 160) ∨ (c = 396 ∧ i < 110)) : ¬ ai_inw wr c i := fun ⟨q, hq, h1, h2, h3⟩ => by
  unfold pi_no at h
  rw [Bool.and_eq_true] at h
  exact pi_lb_ok (ai_all_ok h.2 q hq) h1 h2 h3 hc
theorem pi_K_of {wr : ai_W} {t t' : en_H} (h1 : pi_out wr 1 0 = true) (h2 : pi_out wr 383 2 = true) (h3 : pi_no wr = true) (hf : ai_FR wr t t') : pi_K t t' := fun c i h => by
  rcases h with ⟨rfl, rfl⟩ | ⟨rfl, rfl⟩ | h
  · exact hf _ _ (pi_out_ok h1)
  · exact hf _ _ (pi_out_ok h2)
  · by_cases hc : c = 2 ∨ c = 384 ∨ c = 388
    · exact hf _ _ (pi_no_ok h3 hc)
    · exact hf _ _ (pi_lo_ok h3 (by first | decide | omega))
noncomputable def pi_nb (q : Nat × Nat × Nat) : Bool := bif Nat.beq q.1 0 then (Nat.blt 10 q.2.1 || Nat.blt q.2.2 10) else bif Nat.beq q.1 191 || Nat.beq q.1 257 then Nat.blt 2 q.2.1 else bif Nat.beq q.1 383 then (Nat.blt 18 q.2.1 || Nat.blt q.2.2 18) else bif Nat.beq q.1 390 || Nat.beq q.1 391 then Nat.ble 1100 q.2.1 else bif (Nat.beq q.1 230 || (Nat.beq q.1 233 || Nat.beq q.1 236)) || (Nat.beq q.1 296 || (Nat.beq q.1 299 || Nat.beq q.1 302)) then (Nat.blt 2 q.2.1 || Nat.blt q.2.2 2) else !((Nat.ble 192 q.1 && (Nat.beq q.1 192 || (Nat.ble 194 q.1 && Nat.ble q.1 229))) || (Nat.beq q.1 258 || (Nat.ble 260 q.1 && Nat.ble q.1 295)) || (Nat.beq q.1 389 || (Nat.beq q.1 392 || Nat.beq q.1 394)) || ((Nat.beq q.1 147 || Nat.beq q.1 180) || ((Nat.beq q.1 232 || (Nat.beq q.1 235 || Nat.beq q.1 238)) || (Nat.beq q.1 298 || (Nat.beq q.1 301 || Nat.beq q.1 304)))))
noncomputable def pi_nu (wr : ai_W) : Bool := ai_all pi_nb wr
theorem pi_nb_ok {q : Nat × Nat × Nat} {c i : Nat} (h : pi_nb q = true) (h1 : q.1 = c) (h2 : q.2.1 ≤ i) (h3 : i ≤ q.2.2) : ¬ pi_LC c i := by
  unfold pi_nb at h
  simp only [bif_iff, bnot_iff, Bool.or_eq_true, Bool.and_eq_true, bq_iff, bl_iff, bt_iff] at h
  unfold pi_LC
  omega
noncomputable def pi_nxb (q : Nat × Nat × Nat) : Bool := bif Nat.beq q.1 0 then (Nat.blt 10 q.2.1 || Nat.blt q.2.2 10) else bif Nat.beq q.1 191 || Nat.beq q.1 257 then (Nat.blt 1 q.2.1 && (Nat.blt 16 q.2.1 || Nat.blt q.2.2 16)) else !((Nat.ble 192 q.1 && Nat.ble q.1 193) || ((Nat.ble 258 q.1 && Nat.ble q.1 259) || ((Nat.ble 239 q.1 && Nat.ble q.1 256) || (Nat.ble 305 q.1 && Nat.ble q.1 322))))
noncomputable def pi_nzb (q : Nat × Nat × Nat) : Bool := bif Nat.beq q.1 389 then Nat.ble 160 q.2.1 else bif Nat.beq q.1 399 then Nat.ble 945 q.2.1 else bif Nat.beq q.1 383 then (Nat.blt 26 q.2.1 || Nat.blt q.2.2 26) else bif Nat.beq q.1 22 then Nat.blt q.2.2 1 else bif Nat.beq q.1 139 || (Nat.beq q.1 342 || (Nat.beq q.1 354 || (Nat.beq q.1 366 || Nat.beq q.1 378))) then Nat.blt 0 q.2.1 else !(Nat.beq q.1 400 || ((Nat.ble 8 q.1 && Nat.ble q.1 14) || ((Nat.ble 24 q.1 && Nat.ble q.1 135) || (Nat.beq q.1 138 || ((Nat.ble 335 q.1 && Nat.ble q.1 341) || ((Nat.ble 347 q.1 && Nat.ble q.1 353) || ((Nat.ble 359 q.1 && Nat.ble q.1 365) || (Nat.ble 371 q.1 && Nat.ble q.1 377))))))))
theorem pi_nxb_ok {q : Nat × Nat × Nat} {c i : Nat} (h : pi_nxb q = true) (h1 : q.1 = c) (h2 : q.2.1 ≤ i) (h3 : i ≤ q.2.2) : ¬ pi_VX c i := by
  unfold pi_nxb at h
  simp only [bif_iff, bnot_iff, Bool.or_eq_true, Bool.and_eq_true, bq_iff, bl_iff, bt_iff] at h
  unfold pi_VX
  omega
theorem pi_nzb_ok {q : Nat × Nat × Nat} {c i : Nat} (h : pi_nzb q = true) (h1 : q.1 = c) (h2 : q.2.1 ≤ i) (h3 : i ≤ q.2.2) : ¬ pi_VZ c i := by
  unfold pi_nzb at h
  simp only [bif_iff, bnot_iff, Bool.or_eq_true, Bool.and_eq_true, bq_iff, bl_iff, bt_iff] at h
  unfold pi_VZ RSC CSC
  omega
noncomputable def pi_nx (wr : ai_W) : Bool := ai_all pi_nxb wr
noncomputable def pi_nm (wr : ai_W) : Bool := pi_nx wr && ai_all pi_nzb wr
theorem pi_NX_of {wr : ai_W} {t t' : en_H} (h : pi_nx wr = true) (hf : ai_FR wr t t') : pi_NX t t' := fun c i hc => hf c i (fun ⟨q, hq, h1, h2, h3⟩ => pi_nxb_ok (ai_all_ok h q hq) h1 h2 h3 hc)
theorem pi_N_of {wr : ai_W} {t t' : en_H} (h : pi_nm wr = true) (hf : ai_FR wr t t') : pi_N t t' := by
  unfold pi_nm at h
  rw [Bool.and_eq_true] at h
  exact ⟨pi_NX_of h.1 hf, fun c i hc => hf c i (fun ⟨q, hq, h1, h2, h3⟩ => pi_nzb_ok (ai_all_ok h.2 q hq) h1 h2 h3 hc)⟩
theorem pi_L_of {wr : ai_W} {t t' : en_H} (h : pi_nu wr = true) (hf : ai_FR wr t t') : pi_L t t' := fun c i hc => hf c i (fun ⟨q, hq, h1, h2, h3⟩ => pi_nb_ok (ai_all_ok h q hq) h1 h2 h3 hc)
noncomputable def pi_has (s : ai_O) (q : Nat × Nat × ai_h) : Bool := ai_any (fun p => (Nat.beq p.1 q.1 && Nat.beq p.2.1 q.2.1) && ai_hle p.2.2 q.2.2) s
theorem pi_has_ok {s : ai_O} {q : Nat × Nat × ai_h} {t : en_H} (h : pi_has s q = true) (hs : ai_HO s t) : ∃ v, ai_hv t q.1 q.2.1 = some v ∧ ai_rh q.2.2 v := by
  obtain ⟨p, hp, h1⟩ := ai_any_ok h
  simp only [Bool.and_eq_true] at h1
  obtain ⟨v, v1, v2⟩ := hs p hp
  exact ⟨v, by rw [← Nat.eq_of_beq_eq_true h1.1.1, ← Nat.eq_of_beq_eq_true h1.1.2]; exact v1, ai_hle_ok h1.2 v2⟩
theorem pi_sub_ok {O s : ai_O} {t : en_H} (h : ai_all (pi_has s) O = true) (hs : ai_HO s t) : ai_HO O t := fun q hq => pi_has_ok (ai_all_ok h q hq) hs
noncomputable def pi_kp (c : ai_C) (s : ai_O) : Bool := ai_all (pi_has s) c.2.2.1 && (ai_all (fun q => pi_out c.2.2.2.1 q.1 q.2.1) s && (pi_out c.2.2.2.1 1 0 && (pi_out c.2.2.2.1 383 2 && (pi_no c.2.2.2.1 && pi_nu c.2.2.2.1))))
theorem pi_step {f : en_F} {mi : Nat} {c : ai_C} {s : ai_O} {as : List en_V} {t : en_H} {n : Nat} (h : ai_cok ah_G f mi c) (hk : pi_kp c s = true) (ha : ai_rvs (fun _ => 0) c.2.1 as) (hG : ai_HG ah_G t) (hE : ai_E t) (hs : ai_HO s t) : ∃ v t', f mi as t n = some (v, t', n, 0) ∧ ai_HG ah_G t' ∧ ai_E t' ∧ ai_HO s t' ∧ pi_K t t' ∧ pi_L t t' ∧ ai_FR c.2.2.2.1 t t' ∧ ∃ o ∈ c.2.2.2.2, ai_ro (fun _ => 0) o.1 v := by
  unfold pi_kp at hk
  simp only [Bool.and_eq_true] at hk
  obtain ⟨k1, k2, k3, k4, k5, k6⟩ := hk
  obtain ⟨⟨rv, rt, rn, rs⟩, r1, r2, r3, r4, r5, r6, o, ho, r7, r8⟩ := h (fun _ => 0) as t n ha hG (pi_sub_ok k1 hs) hE
  have r2 : rn = n := r2
  have r3 : rs = 0 := r3
  subst r2 r3
  refine ⟨rv, rt, r1, r4, r6, fun q hq => ?_, pi_K_of k3 k4 k5 r5, pi_L_of k6 r5, r5, o, ho, r7⟩
  obtain ⟨v, v1, v2⟩ := hs q hq
  exact ⟨v, (r5 q.1 q.2.1 (pi_out_ok (ai_all_ok k2 q hq))).trans v1, v2⟩
noncomputable def pi_cat (k : Nat) (outs : List (Option ai_v × ai_O)) : Bool := ai_all (fun o => match o.1 with
  | some a => Nat.beq (ai_cat a) k
  | none => false) outs
theorem pi_cat_ok {k : Nat} {outs : List (Option ai_v × ai_O)} {o : Option ai_v × ai_O} {v : Option en_V} (h : pi_cat k outs = true) (ho : o ∈ outs) (hr : ai_ro (fun _ => 0) o.1 v) : ∃ w, v = some w ∧ en_cat w = k := by
  have h1 := ai_all_ok h o ho
  split at h1
  · rename_i a ha
    rw [ha] at hr
    cases v with
    | none => exact absurd hr (fun h => h)
    | some w => exact ⟨w, rfl, by rw [ai_rv_cat hr]; exact Nat.eq_of_beq_eq_true h1⟩
  · cases h1
/-- a call of the class and the same of the reference -/
noncomputable def pi_P2 (i : Nat) (f : en_F) (k mic mir : Nat) (asC asR : List en_V) (t : en_H) (n : Nat) : Prop := ∃ v1 t1 v2 t2, f mic asC t n = some (some v1, t1, n, 0) ∧ f mir asR t1 n = some (some v2, t2, n, 0) ∧ en_cat v1 = k ∧ en_cat v2 = k ∧ ai_HG ah_G t1 ∧ pi_I (i + 7) t2
/-- .. and what the class's call leaves -/
noncomputable def pi_P3 (i : Nat) (f : en_F) (k mic mir : Nat) (asC asR : List en_V) (t : en_H) (n : Nat) : Prop := ∃ v1 t1 v2 t2, f mic asC t n = some (some v1, t1, n, 0) ∧ f mir asR t1 n = some (some v2, t2, n, 0) ∧ en_cat v1 = k ∧ en_cat v2 = k ∧ ai_HG ah_G t1 ∧ pi_I (i + 7) t2 ∧ pi_L t t1
theorem pi_pair {i : Nat} {f : en_F} {k mic mir : Nat} {c cR : ai_C} {s : ai_O} {asC asR : List en_V} {t : en_H} {n : Nat} (hS : pi_S s) (h : ai_cok ah_G f mic c) (hk : pi_kp c s = true) (hc : pi_cat k c.2.2.2.2 = true) (ha : ai_rvs (fun _ => 0) c.2.1 asC) (hR : ai_cok ah_G f mir cR) (hkR : pi_kp cR s = true) (hcR : pi_cat k cR.2.2.2.2 = true) (haR : ai_rvs (fun _ => 0) cR.2.1 asR) (hm : (pi_nm c.2.2.2.1 && pi_nm cR.2.2.2.1) = true) (hG : ai_HG ah_G t) (hE : ai_E t) (hs : ai_HO s t) (hl : pi_T t ∧ pi_U t ∧ pi_M (5 * i) t) : pi_P2 i f k mic mir asC asR t n := by
  rw [Bool.and_eq_true] at hm
  obtain ⟨v1, t1, a1, a2, a3, a4, a5, a6, a7, o1, b1, b2⟩ := pi_step (n := n) h hk ha hG hE hs
  obtain ⟨v2, t2, d1, d2, d3, d4, d5, d6, d7, o2, b3, b4⟩ := pi_step (n := n) hR hkR haR a2 a3 a4
  obtain ⟨w1, rfl, z1⟩ := pi_cat_ok hc b1 b2
  obtain ⟨w2, rfl, z2⟩ := pi_cat_ok hcR b3 b4
  exact ⟨w1, t1, w2, t2, a1, d1, z1, z2, a2, d2, d3, ⟨s, hS, d4⟩, pi_T_keep (pi_T_keep hl.1 a5) d5, pi_U_keep (pi_U_keep hl.2.1 a6) d6, pi_M_mono (pi_M_keep (pi_M_keep hl.2.2 (pi_N_of hm.1 a7)) (pi_N_of hm.2 d7)) (by first | decide | omega)⟩
theorem pi_pair3 {i : Nat} {f : en_F} {k mic mir : Nat} {c cR : ai_C} {s : ai_O} {asC asR : List en_V} {t : en_H} {n : Nat} (hS : pi_S s) (h : ai_cok ah_G f mic c) (hk : pi_kp c s = true) (hc : pi_cat k c.2.2.2.2 = true) (ha : ai_rvs (fun _ => 0) c.2.1 asC) (hR : ai_cok ah_G f mir cR) (hkR : pi_kp cR s = true) (hcR : pi_cat k cR.2.2.2.2 = true) (haR : ai_rvs (fun _ => 0) cR.2.1 asR) (hm : (pi_nm c.2.2.2.1 && pi_nm cR.2.2.2.1) = true) (hG : ai_HG ah_G t) (hE : ai_E t) (hs : ai_HO s t) (hl : pi_T t ∧ pi_U t ∧ pi_M (5 * i) t) : pi_P3 i f k mic mir asC asR t n := by
  rw [Bool.and_eq_true] at hm
  obtain ⟨v1, t1, a1, a2, a3, a4, a5, a6, a7, o1, b1, b2⟩ := pi_step (n := n) h hk ha hG hE hs
  obtain ⟨v2, t2, d1, d2, d3, d4, d5, d6, d7, o2, b3, b4⟩ := pi_step (n := n) hR hkR haR a2 a3 a4
  obtain ⟨w1, rfl, z1⟩ := pi_cat_ok hc b1 b2
  obtain ⟨w2, rfl, z2⟩ := pi_cat_ok hcR b3 b4
  exact ⟨w1, t1, w2, t2, a1, d1, z1, z2, a2, ⟨d2, d3, ⟨s, hS, d4⟩, pi_T_keep (pi_T_keep hl.1 a5) d5, pi_U_keep (pi_U_keep hl.2.1 a6) d6, pi_M_mono (pi_M_keep (pi_M_keep hl.2.2 (pi_N_of hm.1 a7)) (pi_N_of hm.2 d7)) (by first | decide | omega)⟩, a6⟩
/-- a call that moves what stands: both come back with the same -/
noncomputable def pi_P1 (i mic mir : Nat) (asC asR : List en_V) (t : en_H) (n : Nat) : Prop := ∃ v t1 t2, en_u 60 mic asC t n = some (some (.inl v), t1, n, 0) ∧ en_u 60 mir asR t1 n = some (some (.inl v), t2, n, 0) ∧ ai_HG ah_G t1 ∧ pi_I (i + 7) t2
/-- a call of the reference that leaves all that stands alone -/
noncomputable def pi_JK (i mir : Nat) (as : List en_V) (n : Nat) : Prop := ∀ (t1 t2 : en_H) (v : Option en_V), ai_HG ah_G t1 → ai_E t1 → SP t1 → ZS (5 * i) t1 → en_u 60 mir as t1 n = some (v, t2, n, 0) → ∀ c i, pi_VZ c i → ai_hv t2 c i = ai_hv t1 c i
theorem pi_pairK {i k mic mir : Nat} {c cR : ai_C} {s : ai_O} {asC asR : List en_V} {t : en_H} {n : Nat} (hj : pi_JK i mir asR n) (hS : pi_S s) (h : ai_cok ah_G (en_u 60) mic c) (hk : pi_kp c s = true) (hc : pi_cat k c.2.2.2.2 = true) (ha : ai_rvs (fun _ => 0) c.2.1 asC) (hR : ai_cok ah_G (en_u 60) mir cR) (hkR : pi_kp cR s = true) (hcR : pi_cat k cR.2.2.2.2 = true) (haR : ai_rvs (fun _ => 0) cR.2.1 asR) (hm : (pi_nm c.2.2.2.1 && pi_nx cR.2.2.2.1) = true) (hG : ai_HG ah_G t) (hE : ai_E t) (hs : ai_HO s t) (hl : pi_T t ∧ pi_U t ∧ pi_M (5 * i) t) : pi_P2 i (en_u 60) k mic mir asC asR t n := by
  rw [Bool.and_eq_true] at hm
  obtain ⟨v1, t1, a1, a2, a3, a4, a5, a6, a7, o1, b1, b2⟩ := pi_step (n := n) h hk ha hG hE hs
  obtain ⟨v2, t2, d1, d2, d3, d4, d5, d6, d7, o2, b3, b4⟩ := pi_step (n := n) hR hkR haR a2 a3 a4
  obtain ⟨w1, rfl, z1⟩ := pi_cat_ok hc b1 b2
  obtain ⟨w2, rfl, z2⟩ := pi_cat_ok hcR b3 b4
  have hM1 := pi_M_keep hl.2.2 (pi_N_of hm.1 a7)
  have hU1 := pi_U_keep hl.2.1 a6
  exact ⟨w1, t1, w2, t2, a1, d1, z1, z2, a2, d2, d3, ⟨s, hS, d4⟩, pi_T_keep (pi_T_keep hl.1 a5) d5, pi_U_keep hU1 d6, pi_M_mono (pi_M_keep hM1 ⟨pi_NX_of hm.2 d7, hj t1 t2 _ a2 a3 (pi_SP a2 a3 hU1 hM1.1) hM1.2 d1⟩) (by first | decide | omega)⟩
theorem pi_pairS {i mic mir : Nat} {c cR : ai_C} {s : ai_O} {asC asR : List en_V} {t : en_H} {n : Nat} (hS : pi_S s) (h : ai_cok ah_G (en_u 60) mic c) (hk : pi_kp c s = true) (ha : ai_rvs (fun _ => 0) c.2.1 asC) (hR : ai_cok ah_G (en_u 60) mir cR) (hkR : pi_kp cR s = true) (haR : ai_rvs (fun _ => 0) cR.2.1 asR) (hm : (pi_nx c.2.2.2.1 && pi_nx cR.2.2.2.1) = true) (hG : ai_HG ah_G t) (hE : ai_E t) (hs : ai_HO s t) (hl : pi_T t ∧ pi_U t ∧ pi_M (5 * i) t) (hz : zs_P mic mir asC asR (5 * i + 30) t n) : pi_P1 i mic mir asC asR t n := by
  rw [Bool.and_eq_true] at hm
  obtain ⟨z, t1, t2, r1, r2, g1, hZ⟩ := hz
  obtain ⟨v1, t1', a1, a2, a3, a4, a5, a6, a7, -⟩ := pi_step (n := n) h hk ha hG hE hs
  have e1 : t1' = t1 := congrArg (fun z => z.2.1) (Option.some.inj (a1.symm.trans r1))
  subst e1
  obtain ⟨v2, t2', d1, d2, d3, d4, d5, d6, d7, -⟩ := pi_step (n := n) hR hkR haR a2 a3 a4
  have e2 : t2' = t2 := congrArg (fun z => z.2.1) (Option.some.inj (d1.symm.trans r2))
  subst e2
  exact ⟨z, t1', t2', r1, r2, g1, d2, d3, ⟨s, hS, d4⟩, pi_T_keep (pi_T_keep hl.1 a5) d5, pi_U_keep (pi_U_keep hl.2.1 a6) d6, pi_X_keep (pi_X_keep hl.2.2.1 (pi_NX_of hm.1 a7)) (pi_NX_of hm.2 d7), ZS_mono hZ (by first | decide | omega)⟩
/-! pack and weeks: the tape is emptied, two cells may have changed their places -/
noncomputable def pi_to (c : ai_C) (s s' : ai_O) (o : Option ai_v × ai_O) : Bool := ai_all (fun q => pi_has o.2 q || (pi_out c.2.2.2.1 q.1 q.2.1 && pi_has s q)) s'
noncomputable def pi_mv (c : ai_C) (s : ai_O) : Bool := ai_all (pi_has s) c.2.2.1 && ((ai_all (fun q => Nat.blt q.1 383) c.2.2.2.1 && ((pi_noc c.2.2.2.1 2 && (pi_noc c.2.2.2.1 147 && pi_noc c.2.2.2.1 180)) && (pi_noc c.2.2.2.1 240 && pi_noc c.2.2.2.1 306))) && ai_all (fun o => pi_has o.2 (1, 0, .inl (2147483648, 2147483648)) && (((pi_to c s pi_s00 o || pi_to c s pi_s01 o) || pi_to c s pi_s10 o) || pi_to c s pi_s11 o)) c.2.2.2.2)
theorem pi_to_ok {c : ai_C} {s s' : ai_O} {o : Option ai_v × ai_O} {t t' : en_H} (h : pi_to c s s' o = true) (hs : ai_HO s t) (ho : ai_HO o.2 t') (hf : ai_FR c.2.2.2.1 t t') : ai_HO s' t' := fun q hq => by
  have h1 := ai_all_ok h q hq
  rw [Bool.or_eq_true, Bool.and_eq_true] at h1
  rcases h1 with h1 | ⟨h1, h2⟩
  · exact pi_has_ok h1 ho
  · obtain ⟨v, v1, v2⟩ := pi_has_ok h2 hs
    exact ⟨v, (hf _ _ (pi_out_ok h1)).trans v1, v2⟩
theorem pi_move {f : en_F} {mi : Nat} {c : ai_C} {s : ai_O} {as : List en_V} {t : en_H} {n : Nat} (h : ai_cok ah_G f mi c) (hk : pi_mv c s = true) (hc : pi_cat 1 c.2.2.2.2 = true) (ha : ai_rvs (fun _ => 0) c.2.1 as) (hG : ai_HG ah_G t) (hE : ai_E t) (hs : ai_HO s t) : ∃ v t' s', f mi as t n = some (some v, t', n, 0) ∧ en_cat v = 1 ∧ ai_HG ah_G t' ∧ ai_E t' ∧ pi_S s' ∧ ai_HO s' t' ∧ ai_hv t' 1 0 = some (.inl 0) ∧ (∀ c i, c = 2 ∨ c = 147 ∨ c = 180 ∨ c = 240 ∨ c = 306 ∨ 383 ≤ c → ai_hv t' c i = ai_hv t c i) := by
  unfold pi_mv at hk
  simp only [Bool.and_eq_true] at hk
  obtain ⟨k1, k2, k3⟩ := hk
  obtain ⟨⟨rv, rt, rn, rs⟩, r1, r2, r3, r4, r5, r6, o, ho, r7, r8⟩ := h (fun _ => 0) as t n ha hG (pi_sub_ok k1 hs) hE
  have r2 : rn = n := r2
  have r3 : rs = 0 := r3
  subst r2 r3
  obtain ⟨w, rfl, z⟩ := pi_cat_ok hc ho r7
  have h1 := ai_all_ok k3 o ho
  simp only [Bool.and_eq_true, Bool.or_eq_true] at h1
  obtain ⟨v, v1, m, rfl, m1, m2, m3⟩ := pi_has_ok h1.1 r8
  have hm : m = 0 := by unfold ai_off at m2 m3; dsimp only at m2 m3; omega
  subst hm
  have h9 : ∃ s', pi_S s' ∧ ai_HO s' rt := by
    rcases h1.2 with ((h2 | h2) | h2) | h2
    · exact ⟨_, Or.inl rfl, pi_to_ok h2 hs r8 r5⟩
    · exact ⟨_, Or.inr (Or.inl rfl), pi_to_ok h2 hs r8 r5⟩
    · exact ⟨_, Or.inr (Or.inr (Or.inl rfl)), pi_to_ok h2 hs r8 r5⟩
    · exact ⟨_, Or.inr (Or.inr (Or.inr rfl)), pi_to_ok h2 hs r8 r5⟩
  obtain ⟨s', g1, g2⟩ := h9
  refine ⟨w, rt, s', r1, z, r4, r6, g1, g2, v1, fun c i hc => ?_⟩
  rcases hc with rfl | rfl | rfl | rfl | rfl | hc
  · exact r5 _ _ (pi_noc_ok k2.2.1.1)
  · exact r5 _ _ (pi_noc_ok k2.2.1.2.1)
  · exact r5 _ _ (pi_noc_ok k2.2.1.2.2)
  · exact r5 _ _ (pi_noc_ok k2.2.2.1)
  · exact r5 _ _ (pi_noc_ok k2.2.2.2)
  · exact r5 _ _ (fun ⟨q, hq, z1, z2, z3⟩ => by have z4 := bt_iff.mp (ai_all_ok k2.1 q hq); omega)
theorem ln_out {p c i : Nat} (hp : p = 191 ∨ p = 257) (h : (c = 0 ∧ i = 12) ∨ (323 ≤ c ∧ c ≤ 334) ∨ (c = 389 ∧ i < 160) ∨ (c = 396 ∧ i < 110)) (h9 : c < 383) : ¬ (c = 1 ∨ (3 ≤ c ∧ c ≤ 7) ∨ (p ≤ c ∧ c ≤ p + 65)) := by omega
theorem pi_frm {f : en_F} {mi : Nat} {c : ai_C} {s : ai_O} {as : List en_V} {t t' : en_H} {n n' k : Nat} {v : Option en_V} (h : ai_cok ah_G f mi c) (hk : pi_mv c s = true) (ha : ai_rvs (fun _ => 0) c.2.1 as) (hG : ai_HG ah_G t) (hE : ai_E t) (hs : ai_HO s t) (r : f mi as t n = some (v, t', n', k)) : ai_FR c.2.2.2.1 t t' := by
  unfold pi_mv at hk
  simp only [Bool.and_eq_true] at hk
  obtain ⟨⟨rv, rt, rn, rs⟩, r1, r2, r3, r4, r5, r6, -⟩ := h (fun _ => 0) as t n ha hG (pi_sub_ok hk.1 hs) hE
  have e1 := Option.some.inj (r1.symm.trans r)
  have e2 : rt = t' := congrArg (fun z => z.2.1) e1
  subst e2
  exact r5
noncomputable def pi_nrb (a : Nat) (q : Nat × Nat × Nat) : Bool := !(Nat.ble a q.1 && Nat.ble q.1 (a + 5))
theorem pi_nr_ok {wr : ai_W} {a c i : Nat} (h : ai_all (pi_nrb a) wr = true) (h1 : a ≤ c) (h2 : c ≤ a + 5) : ¬ ai_inw wr c i := fun ⟨q, hq, g1, g2, g3⟩ => by
  have h9 := ai_all_ok h q hq
  unfold pi_nrb at h9
  simp only [bnot_iff, Bool.and_eq_true, bl_iff] at h9
  omega
theorem pi_moveL {f : en_F} {mi : Nat} {c : ai_C} {s : ai_O} {as : List en_V} {t : en_H} {n : Nat} (h : ai_cok ah_G f mi c) (hk : pi_mv c s = true) (hc : pi_cat 1 c.2.2.2.2 = true) (hu : (pi_nu c.2.2.2.1 && pi_nm c.2.2.2.1) = true) (ha : ai_rvs (fun _ => 0) c.2.1 as) (hG : ai_HG ah_G t) (hE : ai_E t) (hs : ai_HO s t) : ∃ v t' s', f mi as t n = some (some v, t', n, 0) ∧ en_cat v = 1 ∧ ai_HG ah_G t' ∧ ai_E t' ∧ pi_S s' ∧ ai_HO s' t' ∧ ai_hv t' 1 0 = some (.inl 0) ∧ (∀ c i, c = 2 ∨ c = 147 ∨ c = 180 ∨ c = 240 ∨ c = 306 ∨ 383 ≤ c → ai_hv t' c i = ai_hv t c i) ∧ pi_L t t' ∧ pi_N t t' := by
  obtain ⟨v, t', s', a1, a2, a3, a4, a5, a6, a7, a8⟩ := pi_move (n := n) h hk hc ha hG hE hs
  have hk1 := hk
  unfold pi_mv at hk1
  simp only [Bool.and_eq_true] at hk1
  obtain ⟨⟨rv, rt, rn, rs⟩, r1, r2, r3, r4, r5, r6, -⟩ := h (fun _ => 0) as t n ha hG (pi_sub_ok hk1.1 hs) hE
  have e1 := Option.some.inj (r1.symm.trans a1)
  have e2 : rt = t' := congrArg (fun z => z.2.1) e1
  subst e2
  exact ⟨v, rt, s', a1, a2, a3, a4, a5, a6, a7, a8, pi_L_of (Bool.and_eq_true_iff.mp hu).1 r5, pi_N_of (Bool.and_eq_true_iff.mp hu).2 r5⟩
theorem pi_far {s : ai_O} {t t' : en_H} (hS : pi_S s) (h : ai_HO s t) (e : ∀ c i, c < 383 → c ≠ 1 → c ≠ 2 → ai_hv t' c i = ai_hv t c i) : ai_HO s t' := by
  intro q hq
  obtain ⟨v, v1, v2⟩ := h q hq
  refine ⟨v, (e _ _ ?_ ?_ ?_).trans v1, v2⟩ <;> (rcases hS with rfl | rfl | rfl | rfl <;> simp only [pi_s00, pi_s01, pi_s10, pi_s11, List.mem_cons, List.not_mem_nil, or_false] at hq <;> rcases hq with rfl | rfl | rfl | rfl | rfl | rfl <;> decide)
theorem pi_iv {ρ : Nat → Nat} {m : Nat} (h : m < 4294967296) : ai_rv ρ (.inl (0, 4294967295, none)) (.inl m) := gx_vfull h
theorem pr_3a {i n x y : Nat} {t : en_H} (hx : x < 4294967296) (hy : y < 4294967296) (hI : pi_I i t) : pi_P3 i (en_u 60) 1 36 37 [gx_r 0, .inl x, .inl y] [gx_r 383, .inl x, .inl y] t n := by
  obtain ⟨hG, hE, ⟨s, hS, hs⟩, hl⟩ := hI
  have hR : ai_cok ah_G (en_u 60) 37 re_37_0.2.1 := ar_all ar_hands 60 37 re_37_0 (show re_37_0 ∈ rm_37 from List.mem_cons_self) (by decide)
  rcases hS with rfl | rfl | rfl | rfl
  · exact pi_pair3 (Or.inl rfl) (ac_all 60 36 ce_36_0 (show ce_36_0 ∈ cm_36 from List.mem_cons_self) (by decide)) (by decide +kernel) (by decide +kernel) ⟨gx_vref 0, pi_iv hx, pi_iv hy, trivial⟩ hR (by decide +kernel) (by decide +kernel) ⟨gx_vref 383, pi_iv hx, pi_iv hy, trivial⟩ (by decide +kernel) hG hE hs hl
  · exact pi_pair3 (Or.inr (Or.inl rfl)) (ac_all 60 36 ce_36_0 (show ce_36_0 ∈ cm_36 from List.mem_cons_self) (by decide)) (by decide +kernel) (by decide +kernel) ⟨gx_vref 0, pi_iv hx, pi_iv hy, trivial⟩ hR (by decide +kernel) (by decide +kernel) ⟨gx_vref 383, pi_iv hx, pi_iv hy, trivial⟩ (by decide +kernel) hG hE hs hl
  · exact pi_pair3 (Or.inr (Or.inr (Or.inl rfl))) (ac_all 60 36 ce_36_1 (show ce_36_1 ∈ cm_36 from (List.mem_cons_of_mem _ List.mem_cons_self)) (by decide)) (by decide +kernel) (by decide +kernel) ⟨gx_vref 0, pi_iv hx, pi_iv hy, trivial⟩ hR (by decide +kernel) (by decide +kernel) ⟨gx_vref 383, pi_iv hx, pi_iv hy, trivial⟩ (by decide +kernel) hG hE hs hl
  · exact pi_pair3 (Or.inr (Or.inr (Or.inr rfl))) (ac_all 60 36 ce_36_1 (show ce_36_1 ∈ cm_36 from (List.mem_cons_of_mem _ List.mem_cons_self)) (by decide)) (by decide +kernel) (by decide +kernel) ⟨gx_vref 0, pi_iv hx, pi_iv hy, trivial⟩ hR (by decide +kernel) (by decide +kernel) ⟨gx_vref 383, pi_iv hx, pi_iv hy, trivial⟩ (by decide +kernel) hG hE hs hl
theorem pr_4a {i n x y z : Nat} {t : en_H} (hx : x < 4294967296) (hy : y < 4294967296) (hz : z < 4294967296) (hI : pi_I i t) : pi_P2 i (en_u 60) 1 38 39 [gx_r 0, .inl x, .inl y, .inl z] [gx_r 383, .inl x, .inl y, .inl z] t n := by
  obtain ⟨hG, hE, ⟨s, hS, hs⟩, hl⟩ := hI
  have hR : ai_cok ah_G (en_u 60) 39 re_39_0.2.1 := ar_all ar_hands 60 39 re_39_0 (show re_39_0 ∈ rm_39 from List.mem_cons_self) (by decide)
  rcases hS with rfl | rfl | rfl | rfl
  · exact pi_pair (Or.inl rfl) (ac_all 60 38 ce_38_0 (show ce_38_0 ∈ cm_38 from List.mem_cons_self) (by decide)) (by decide +kernel) (by decide +kernel) ⟨gx_vref 0, pi_iv hx, pi_iv hy, pi_iv hz, trivial⟩ hR (by decide +kernel) (by decide +kernel) ⟨gx_vref 383, pi_iv hx, pi_iv hy, pi_iv hz, trivial⟩ (by decide +kernel) hG hE hs hl
  · exact pi_pair (Or.inr (Or.inl rfl)) (ac_all 60 38 ce_38_0 (show ce_38_0 ∈ cm_38 from List.mem_cons_self) (by decide)) (by decide +kernel) (by decide +kernel) ⟨gx_vref 0, pi_iv hx, pi_iv hy, pi_iv hz, trivial⟩ hR (by decide +kernel) (by decide +kernel) ⟨gx_vref 383, pi_iv hx, pi_iv hy, pi_iv hz, trivial⟩ (by decide +kernel) hG hE hs hl
  · exact pi_pair (Or.inr (Or.inr (Or.inl rfl))) (ac_all 60 38 ce_38_1 (show ce_38_1 ∈ cm_38 from (List.mem_cons_of_mem _ List.mem_cons_self)) (by decide)) (by decide +kernel) (by decide +kernel) ⟨gx_vref 0, pi_iv hx, pi_iv hy, pi_iv hz, trivial⟩ hR (by decide +kernel) (by decide +kernel) ⟨gx_vref 383, pi_iv hx, pi_iv hy, pi_iv hz, trivial⟩ (by decide +kernel) hG hE hs hl
  · exact pi_pair (Or.inr (Or.inr (Or.inr rfl))) (ac_all 60 38 ce_38_1 (show ce_38_1 ∈ cm_38 from (List.mem_cons_of_mem _ List.mem_cons_self)) (by decide)) (by decide +kernel) (by decide +kernel) ⟨gx_vref 0, pi_iv hx, pi_iv hy, pi_iv hz, trivial⟩ hR (by decide +kernel) (by decide +kernel) ⟨gx_vref 383, pi_iv hx, pi_iv hy, pi_iv hz, trivial⟩ (by decide +kernel) hG hE hs hl
theorem pr_7 {i n x : Nat} {t : en_H} (hx : x < 4294967296) (hI : pi_I i t) (hi : i ≤ 4000) : pi_P1 i 42 43 [gx_r 0, .inl x] [gx_r 383, .inl x] t n := by
  obtain ⟨hG, hE, ⟨s, hS, hs⟩, hl⟩ := hI
  have hR : ai_cok ah_G (en_u 60) 43 re_43_0.2.1 := ar_all ar_hands 60 43 re_43_0 (show re_43_0 ∈ rm_43 from List.mem_cons_self) (by decide)
  have hz9 : zs_P 42 43 [gx_r 0, .inl x] [gx_r 383, .inl x] (5 * i + 30) t n := by
    rcases pi_SP hG hE hl.2.1 hl.2.2.1 with P | P
    · exact zs_drift191 hG hE P hl.2.2.2 (by first | decide | omega) hx
    · exact zs_drift257 hG hE P hl.2.2.2 (by first | decide | omega) hx
  rcases hS with rfl | rfl | rfl | rfl
  · exact pi_pairS (Or.inl rfl) (ac_all 60 42 ce_42_0 (show ce_42_0 ∈ cm_42 from List.mem_cons_self) (by decide)) (by decide +kernel) ⟨gx_vref 0, pi_iv hx, trivial⟩ hR (by decide +kernel) ⟨gx_vref 383, pi_iv hx, trivial⟩ (by decide +kernel) hG hE hs hl hz9
  · exact pi_pairS (Or.inr (Or.inl rfl)) (ac_all 60 42 ce_42_0 (show ce_42_0 ∈ cm_42 from List.mem_cons_self) (by decide)) (by decide +kernel) ⟨gx_vref 0, pi_iv hx, trivial⟩ hR (by decide +kernel) ⟨gx_vref 383, pi_iv hx, trivial⟩ (by decide +kernel) hG hE hs hl hz9
  · exact pi_pairS (Or.inr (Or.inr (Or.inl rfl))) (ac_all 60 42 ce_42_1 (show ce_42_1 ∈ cm_42 from (List.mem_cons_of_mem _ List.mem_cons_self)) (by decide)) (by decide +kernel) ⟨gx_vref 0, pi_iv hx, trivial⟩ hR (by decide +kernel) ⟨gx_vref 383, pi_iv hx, trivial⟩ (by decide +kernel) hG hE hs hl hz9
  · exact pi_pairS (Or.inr (Or.inr (Or.inr rfl))) (ac_all 60 42 ce_42_1 (show ce_42_1 ∈ cm_42 from (List.mem_cons_of_mem _ List.mem_cons_self)) (by decide)) (by decide +kernel) ⟨gx_vref 0, pi_iv hx, trivial⟩ hR (by decide +kernel) ⟨gx_vref 383, pi_iv hx, trivial⟩ (by decide +kernel) hG hE hs hl hz9
theorem pr_8 {i n x y z : Nat} {t : en_H} (hx : x < 4294967296) (hy : y < 4294967296) (hz : z < 4294967296) (hI : pi_I i t) (hi : i ≤ 4000) : pi_P1 i 44 45 [gx_r 0, .inl x, .inl y, .inl z] [gx_r 383, .inl x, .inl y, .inl z] t n := by
  obtain ⟨hG, hE, ⟨s, hS, hs⟩, hl⟩ := hI
  have hR : ai_cok ah_G (en_u 60) 45 re_45_0.2.1 := ar_all ar_hands 60 45 re_45_0 (show re_45_0 ∈ rm_45 from List.mem_cons_self) (by decide)
  have hz9 : zs_P 44 45 [gx_r 0, .inl x, .inl y, .inl z] [gx_r 383, .inl x, .inl y, .inl z] (5 * i + 30) t n := by
    rcases pi_SP hG hE hl.2.1 hl.2.2.1 with P | P
    · exact zs_haul191 hG hE P hl.2.2.2 (by first | decide | omega) hx hy hz
    · exact zs_haul257 hG hE P hl.2.2.2 (by first | decide | omega) hx hy hz
  rcases hS with rfl | rfl | rfl | rfl
  · exact pi_pairS (Or.inl rfl) (ac_all 60 44 ce_44_0 (show ce_44_0 ∈ cm_44 from List.mem_cons_self) (by decide)) (by decide +kernel) ⟨gx_vref 0, pi_iv hx, pi_iv hy, pi_iv hz, trivial⟩ hR (by decide +kernel) ⟨gx_vref 383, pi_iv hx, pi_iv hy, pi_iv hz, trivial⟩ (by decide +kernel) hG hE hs hl hz9
  · exact pi_pairS (Or.inr (Or.inl rfl)) (ac_all 60 44 ce_44_0 (show ce_44_0 ∈ cm_44 from List.mem_cons_self) (by decide)) (by decide +kernel) ⟨gx_vref 0, pi_iv hx, pi_iv hy, pi_iv hz, trivial⟩ hR (by decide +kernel) ⟨gx_vref 383, pi_iv hx, pi_iv hy, pi_iv hz, trivial⟩ (by decide +kernel) hG hE hs hl hz9
  · exact pi_pairS (Or.inr (Or.inr (Or.inl rfl))) (ac_all 60 44 ce_44_1 (show ce_44_1 ∈ cm_44 from (List.mem_cons_of_mem _ List.mem_cons_self)) (by decide)) (by decide +kernel) ⟨gx_vref 0, pi_iv hx, pi_iv hy, pi_iv hz, trivial⟩ hR (by decide +kernel) ⟨gx_vref 383, pi_iv hx, pi_iv hy, pi_iv hz, trivial⟩ (by decide +kernel) hG hE hs hl hz9
  · exact pi_pairS (Or.inr (Or.inr (Or.inr rfl))) (ac_all 60 44 ce_44_1 (show ce_44_1 ∈ cm_44 from (List.mem_cons_of_mem _ List.mem_cons_self)) (by decide)) (by decide +kernel) ⟨gx_vref 0, pi_iv hx, pi_iv hy, pi_iv hz, trivial⟩ hR (by decide +kernel) ⟨gx_vref 383, pi_iv hx, pi_iv hy, pi_iv hz, trivial⟩ (by decide +kernel) hG hE hs hl hz9
theorem pr_9 {i n x y : Nat} {t : en_H} (hx : x < 4294967296) (hy : y < 4294967296) (hI : pi_I i t) (hi : i ≤ 4000) : pi_P1 i 46 47 [gx_r 0, .inl x, .inl y] [gx_r 383, .inl x, .inl y] t n := by
  obtain ⟨hG, hE, ⟨s, hS, hs⟩, hl⟩ := hI
  have hR : ai_cok ah_G (en_u 60) 47 re_47_0.2.1 := ar_all ar_hands 60 47 re_47_0 (show re_47_0 ∈ rm_47 from List.mem_cons_self) (by decide)
  have hz9 : zs_P 46 47 [gx_r 0, .inl x, .inl y] [gx_r 383, .inl x, .inl y] (5 * i + 30) t n := by
    rcases pi_SP hG hE hl.2.1 hl.2.2.1 with P | P
    · exact zs_lend191 hG hE P hl.2.2.2 (by first | decide | omega) hx hy
    · exact zs_lend257 hG hE P hl.2.2.2 (by first | decide | omega) hx hy
  rcases hS with rfl | rfl | rfl | rfl
  · exact pi_pairS (Or.inl rfl) (ac_all 60 46 ce_46_0 (show ce_46_0 ∈ cm_46 from List.mem_cons_self) (by decide)) (by decide +kernel) ⟨gx_vref 0, pi_iv hx, pi_iv hy, trivial⟩ hR (by decide +kernel) ⟨gx_vref 383, pi_iv hx, pi_iv hy, trivial⟩ (by decide +kernel) hG hE hs hl hz9
  · exact pi_pairS (Or.inr (Or.inl rfl)) (ac_all 60 46 ce_46_0 (show ce_46_0 ∈ cm_46 from List.mem_cons_self) (by decide)) (by decide +kernel) ⟨gx_vref 0, pi_iv hx, pi_iv hy, trivial⟩ hR (by decide +kernel) ⟨gx_vref 383, pi_iv hx, pi_iv hy, trivial⟩ (by decide +kernel) hG hE hs hl hz9
  · exact pi_pairS (Or.inr (Or.inr (Or.inl rfl))) (ac_all 60 46 ce_46_1 (show ce_46_1 ∈ cm_46 from (List.mem_cons_of_mem _ List.mem_cons_self)) (by decide)) (by decide +kernel) ⟨gx_vref 0, pi_iv hx, pi_iv hy, trivial⟩ hR (by decide +kernel) ⟨gx_vref 383, pi_iv hx, pi_iv hy, trivial⟩ (by decide +kernel) hG hE hs hl hz9
  · exact pi_pairS (Or.inr (Or.inr (Or.inr rfl))) (ac_all 60 46 ce_46_1 (show ce_46_1 ∈ cm_46 from (List.mem_cons_of_mem _ List.mem_cons_self)) (by decide)) (by decide +kernel) ⟨gx_vref 0, pi_iv hx, pi_iv hy, trivial⟩ hR (by decide +kernel) ⟨gx_vref 383, pi_iv hx, pi_iv hy, trivial⟩ (by decide +kernel) hG hE hs hl hz9
theorem pr_10 {i n x : Nat} {t : en_H} (hx : x < 4294967296) (hI : pi_I i t) (hi : i ≤ 4000) : pi_P1 i 48 49 [gx_r 0, .inl x] [gx_r 383, .inl x] t n := by
  obtain ⟨hG, hE, ⟨s, hS, hs⟩, hl⟩ := hI
  have hR : ai_cok ah_G (en_u 60) 49 re_49_0.2.1 := ar_all ar_hands 60 49 re_49_0 (show re_49_0 ∈ rm_49 from List.mem_cons_self) (by decide)
  have hz9 : zs_P 48 49 [gx_r 0, .inl x] [gx_r 383, .inl x] (5 * i + 30) t n := by
    rcases pi_SP hG hE hl.2.1 hl.2.2.1 with P | P
    · exact zs_home191 hG hE P hl.2.2.2 (by first | decide | omega) hx
    · exact zs_home257 hG hE P hl.2.2.2 (by first | decide | omega) hx
  rcases hS with rfl | rfl | rfl | rfl
  · exact pi_pairS (Or.inl rfl) (ac_all 60 48 ce_48_0 (show ce_48_0 ∈ cm_48 from List.mem_cons_self) (by decide)) (by decide +kernel) ⟨gx_vref 0, pi_iv hx, trivial⟩ hR (by decide +kernel) ⟨gx_vref 383, pi_iv hx, trivial⟩ (by decide +kernel) hG hE hs hl hz9
  · exact pi_pairS (Or.inr (Or.inl rfl)) (ac_all 60 48 ce_48_0 (show ce_48_0 ∈ cm_48 from List.mem_cons_self) (by decide)) (by decide +kernel) ⟨gx_vref 0, pi_iv hx, trivial⟩ hR (by decide +kernel) ⟨gx_vref 383, pi_iv hx, trivial⟩ (by decide +kernel) hG hE hs hl hz9
  · exact pi_pairS (Or.inr (Or.inr (Or.inl rfl))) (ac_all 60 48 ce_48_1 (show ce_48_1 ∈ cm_48 from (List.mem_cons_of_mem _ List.mem_cons_self)) (by decide)) (by decide +kernel) ⟨gx_vref 0, pi_iv hx, trivial⟩ hR (by decide +kernel) ⟨gx_vref 383, pi_iv hx, trivial⟩ (by decide +kernel) hG hE hs hl hz9
  · exact pi_pairS (Or.inr (Or.inr (Or.inr rfl))) (ac_all 60 48 ce_48_1 (show ce_48_1 ∈ cm_48 from (List.mem_cons_of_mem _ List.mem_cons_self)) (by decide)) (by decide +kernel) ⟨gx_vref 0, pi_iv hx, trivial⟩ hR (by decide +kernel) ⟨gx_vref 383, pi_iv hx, trivial⟩ (by decide +kernel) hG hE hs hl hz9
theorem pr_11 {i n : Nat} {t : en_H} (hI : pi_I i t) (hi : i ≤ 4000) : pi_P1 i 50 51 [gx_r 0] [gx_r 383] t n := by
  obtain ⟨hG, hE, ⟨s, hS, hs⟩, hl⟩ := hI
  have hR : ai_cok ah_G (en_u 60) 51 re_51_0.2.1 := ar_all ar_hands 60 51 re_51_0 (show re_51_0 ∈ rm_51 from List.mem_cons_self) (by decide)
  have hz9 : zs_P 50 51 [gx_r 0] [gx_r 383] (5 * i + 30) t n := by
    rcases pi_SP hG hE hl.2.1 hl.2.2.1 with P | P
    · exact zs_undo191 hG hE P hl.2.2.2 (by first | decide | omega) 
    · exact zs_undo257 hG hE P hl.2.2.2 (by first | decide | omega) 
  rcases hS with rfl | rfl | rfl | rfl
  · exact pi_pairS (Or.inl rfl) (ac_all 60 50 ce_50_0 (show ce_50_0 ∈ cm_50 from List.mem_cons_self) (by decide)) (by decide +kernel) ⟨gx_vref 0, trivial⟩ hR (by decide +kernel) ⟨gx_vref 383, trivial⟩ (by decide +kernel) hG hE hs hl hz9
  · exact pi_pairS (Or.inr (Or.inl rfl)) (ac_all 60 50 ce_50_0 (show ce_50_0 ∈ cm_50 from List.mem_cons_self) (by decide)) (by decide +kernel) ⟨gx_vref 0, trivial⟩ hR (by decide +kernel) ⟨gx_vref 383, trivial⟩ (by decide +kernel) hG hE hs hl hz9
  · exact pi_pairS (Or.inr (Or.inr (Or.inl rfl))) (ac_all 60 50 ce_50_0 (show ce_50_0 ∈ cm_50 from List.mem_cons_self) (by decide)) (by decide +kernel) ⟨gx_vref 0, trivial⟩ hR (by decide +kernel) ⟨gx_vref 383, trivial⟩ (by decide +kernel) hG hE hs hl hz9
  · exact pi_pairS (Or.inr (Or.inr (Or.inr rfl))) (ac_all 60 50 ce_50_0 (show ce_50_0 ∈ cm_50 from List.mem_cons_self) (by decide)) (by decide +kernel) ⟨gx_vref 0, trivial⟩ hR (by decide +kernel) ⟨gx_vref 383, trivial⟩ (by decide +kernel) hG hE hs hl hz9
theorem pr_12a {i n x : Nat} {t : en_H} (hx : x < 4294967296) (hI : pi_I i t) : pi_P2 i (en_u 60) 1 52 53 [gx_r 0, .inl x] [gx_r 383, .inl x] t n := by
  obtain ⟨hG, hE, ⟨s, hS, hs⟩, hl⟩ := hI
  have hR : ai_cok ah_G (en_u 60) 53 re_53_0.2.1 := ar_all ar_hands 60 53 re_53_0 (show re_53_0 ∈ rm_53 from List.mem_cons_self) (by decide)
  rcases hS with rfl | rfl | rfl | rfl
  · exact pi_pair (Or.inl rfl) (ac_all 60 52 ce_52_0 (show ce_52_0 ∈ cm_52 from List.mem_cons_self) (by decide)) (by decide +kernel) (by decide +kernel) ⟨gx_vref 0, pi_iv hx, trivial⟩ hR (by decide +kernel) (by decide +kernel) ⟨gx_vref 383, pi_iv hx, trivial⟩ (by decide +kernel) hG hE hs hl
  · exact pi_pair (Or.inr (Or.inl rfl)) (ac_all 60 52 ce_52_1 (show ce_52_1 ∈ cm_52 from (List.mem_cons_of_mem _ List.mem_cons_self)) (by decide)) (by decide +kernel) (by decide +kernel) ⟨gx_vref 0, pi_iv hx, trivial⟩ hR (by decide +kernel) (by decide +kernel) ⟨gx_vref 383, pi_iv hx, trivial⟩ (by decide +kernel) hG hE hs hl
  · exact pi_pair (Or.inr (Or.inr (Or.inl rfl))) (ac_all 60 52 ce_52_2 (show ce_52_2 ∈ cm_52 from (List.mem_cons_of_mem _ (List.mem_cons_of_mem _ List.mem_cons_self))) (by decide)) (by decide +kernel) (by decide +kernel) ⟨gx_vref 0, pi_iv hx, trivial⟩ hR (by decide +kernel) (by decide +kernel) ⟨gx_vref 383, pi_iv hx, trivial⟩ (by decide +kernel) hG hE hs hl
  · exact pi_pair (Or.inr (Or.inr (Or.inr rfl))) (ac_all 60 52 ce_52_3 (show ce_52_3 ∈ cm_52 from (List.mem_cons_of_mem _ (List.mem_cons_of_mem _ (List.mem_cons_of_mem _ List.mem_cons_self)))) (by decide)) (by decide +kernel) (by decide +kernel) ⟨gx_vref 0, pi_iv hx, trivial⟩ hR (by decide +kernel) (by decide +kernel) ⟨gx_vref 383, pi_iv hx, trivial⟩ (by decide +kernel) hG hE hs hl
theorem pr_13a {i n x y : Nat} {t : en_H} (hx : x < 4294967296) (hy : y < 4294967296) (hI : pi_I i t) : pi_P2 i (en_u 60) 1 54 55 [gx_r 0, .inl x, .inl y] [gx_r 383, .inl x, .inl y] t n := by
  obtain ⟨hG, hE, ⟨s, hS, hs⟩, hl⟩ := hI
  have hR : ai_cok ah_G (en_u 60) 55 re_55_0.2.1 := ar_all ar_hands 60 55 re_55_0 (show re_55_0 ∈ rm_55 from List.mem_cons_self) (by decide)
  rcases hS with rfl | rfl | rfl | rfl
  · exact pi_pair (Or.inl rfl) (ac_all 60 54 ce_54_0 (show ce_54_0 ∈ cm_54 from List.mem_cons_self) (by decide)) (by decide +kernel) (by decide +kernel) ⟨gx_vref 0, pi_iv hx, pi_iv hy, trivial⟩ hR (by decide +kernel) (by decide +kernel) ⟨gx_vref 383, pi_iv hx, pi_iv hy, trivial⟩ (by decide +kernel) hG hE hs hl
  · exact pi_pair (Or.inr (Or.inl rfl)) (ac_all 60 54 ce_54_0 (show ce_54_0 ∈ cm_54 from List.mem_cons_self) (by decide)) (by decide +kernel) (by decide +kernel) ⟨gx_vref 0, pi_iv hx, pi_iv hy, trivial⟩ hR (by decide +kernel) (by decide +kernel) ⟨gx_vref 383, pi_iv hx, pi_iv hy, trivial⟩ (by decide +kernel) hG hE hs hl
  · exact pi_pair (Or.inr (Or.inr (Or.inl rfl))) (ac_all 60 54 ce_54_1 (show ce_54_1 ∈ cm_54 from (List.mem_cons_of_mem _ List.mem_cons_self)) (by decide)) (by decide +kernel) (by decide +kernel) ⟨gx_vref 0, pi_iv hx, pi_iv hy, trivial⟩ hR (by decide +kernel) (by decide +kernel) ⟨gx_vref 383, pi_iv hx, pi_iv hy, trivial⟩ (by decide +kernel) hG hE hs hl
  · exact pi_pair (Or.inr (Or.inr (Or.inr rfl))) (ac_all 60 54 ce_54_1 (show ce_54_1 ∈ cm_54 from (List.mem_cons_of_mem _ List.mem_cons_self)) (by decide)) (by decide +kernel) (by decide +kernel) ⟨gx_vref 0, pi_iv hx, pi_iv hy, trivial⟩ hR (by decide +kernel) (by decide +kernel) ⟨gx_vref 383, pi_iv hx, pi_iv hy, trivial⟩ (by decide +kernel) hG hE hs hl
theorem pr_14a {i n x y : Nat} {t : en_H} (hx : x < 4294967296) (hy : y < 4294967296) (hI : pi_I i t) : pi_P2 i (en_u 60) 1 56 57 [gx_r 0, .inl x, .inl y] [gx_r 383, .inl x, .inl y] t n := by
  obtain ⟨hG, hE, ⟨s, hS, hs⟩, hl⟩ := hI
  have hR : ai_cok ah_G (en_u 60) 57 re_57_0.2.1 := ar_all ar_hands 60 57 re_57_0 (show re_57_0 ∈ rm_57 from List.mem_cons_self) (by decide)
  rcases hS with rfl | rfl | rfl | rfl
  · exact pi_pair (Or.inl rfl) (ac_all 60 56 ce_56_0 (show ce_56_0 ∈ cm_56 from List.mem_cons_self) (by decide)) (by decide +kernel) (by decide +kernel) ⟨gx_vref 0, pi_iv hx, pi_iv hy, trivial⟩ hR (by decide +kernel) (by decide +kernel) ⟨gx_vref 383, pi_iv hx, pi_iv hy, trivial⟩ (by decide +kernel) hG hE hs hl
  · exact pi_pair (Or.inr (Or.inl rfl)) (ac_all 60 56 ce_56_0 (show ce_56_0 ∈ cm_56 from List.mem_cons_self) (by decide)) (by decide +kernel) (by decide +kernel) ⟨gx_vref 0, pi_iv hx, pi_iv hy, trivial⟩ hR (by decide +kernel) (by decide +kernel) ⟨gx_vref 383, pi_iv hx, pi_iv hy, trivial⟩ (by decide +kernel) hG hE hs hl
  · exact pi_pair (Or.inr (Or.inr (Or.inl rfl))) (ac_all 60 56 ce_56_1 (show ce_56_1 ∈ cm_56 from (List.mem_cons_of_mem _ List.mem_cons_self)) (by decide)) (by decide +kernel) (by decide +kernel) ⟨gx_vref 0, pi_iv hx, pi_iv hy, trivial⟩ hR (by decide +kernel) (by decide +kernel) ⟨gx_vref 383, pi_iv hx, pi_iv hy, trivial⟩ (by decide +kernel) hG hE hs hl
  · exact pi_pair (Or.inr (Or.inr (Or.inr rfl))) (ac_all 60 56 ce_56_1 (show ce_56_1 ∈ cm_56 from (List.mem_cons_of_mem _ List.mem_cons_self)) (by decide)) (by decide +kernel) (by decide +kernel) ⟨gx_vref 0, pi_iv hx, pi_iv hy, trivial⟩ hR (by decide +kernel) (by decide +kernel) ⟨gx_vref 383, pi_iv hx, pi_iv hy, trivial⟩ (by decide +kernel) hG hE hs hl
theorem pr_15a {i n x y z : Nat} {t : en_H} (hx : x < 4294967296) (hy : y < 4294967296) (hz : z < 4294967296) (hI : pi_I i t) : pi_P2 i (en_u 60) 1 58 59 [gx_r 0, .inl x, .inl y, .inl z] [gx_r 383, .inl x, .inl y, .inl z] t n := by
  obtain ⟨hG, hE, ⟨s, hS, hs⟩, hl⟩ := hI
  have hR : ai_cok ah_G (en_u 60) 59 re_59_0.2.1 := ar_all ar_hands 60 59 re_59_0 (show re_59_0 ∈ rm_59 from List.mem_cons_self) (by decide)
  rcases hS with rfl | rfl | rfl | rfl
  · exact pi_pair (Or.inl rfl) (ac_all 60 58 ce_58_0 (show ce_58_0 ∈ cm_58 from List.mem_cons_self) (by decide)) (by decide +kernel) (by decide +kernel) ⟨gx_vref 0, pi_iv hx, pi_iv hy, pi_iv hz, trivial⟩ hR (by decide +kernel) (by decide +kernel) ⟨gx_vref 383, pi_iv hx, pi_iv hy, pi_iv hz, trivial⟩ (by decide +kernel) hG hE hs hl
  · exact pi_pair (Or.inr (Or.inl rfl)) (ac_all 60 58 ce_58_0 (show ce_58_0 ∈ cm_58 from List.mem_cons_self) (by decide)) (by decide +kernel) (by decide +kernel) ⟨gx_vref 0, pi_iv hx, pi_iv hy, pi_iv hz, trivial⟩ hR (by decide +kernel) (by decide +kernel) ⟨gx_vref 383, pi_iv hx, pi_iv hy, pi_iv hz, trivial⟩ (by decide +kernel) hG hE hs hl
  · exact pi_pair (Or.inr (Or.inr (Or.inl rfl))) (ac_all 60 58 ce_58_1 (show ce_58_1 ∈ cm_58 from (List.mem_cons_of_mem _ List.mem_cons_self)) (by decide)) (by decide +kernel) (by decide +kernel) ⟨gx_vref 0, pi_iv hx, pi_iv hy, pi_iv hz, trivial⟩ hR (by decide +kernel) (by decide +kernel) ⟨gx_vref 383, pi_iv hx, pi_iv hy, pi_iv hz, trivial⟩ (by decide +kernel) hG hE hs hl
  · exact pi_pair (Or.inr (Or.inr (Or.inr rfl))) (ac_all 60 58 ce_58_1 (show ce_58_1 ∈ cm_58 from (List.mem_cons_of_mem _ List.mem_cons_self)) (by decide)) (by decide +kernel) (by decide +kernel) ⟨gx_vref 0, pi_iv hx, pi_iv hy, pi_iv hz, trivial⟩ hR (by decide +kernel) (by decide +kernel) ⟨gx_vref 383, pi_iv hx, pi_iv hy, pi_iv hz, trivial⟩ (by decide +kernel) hG hE hs hl
theorem pr_16a {i n x y : Nat} {t : en_H} (hx : x < 4294967296) (hy : y < 4294967296) (hI : pi_I i t) : pi_P2 i (en_u 60) 1 60 61 [gx_r 0, .inl x, .inl y] [gx_r 383, .inl x, .inl y] t n := by
  obtain ⟨hG, hE, ⟨s, hS, hs⟩, hl⟩ := hI
  have hR : ai_cok ah_G (en_u 60) 61 re_61_0.2.1 := ar_all ar_hands 60 61 re_61_0 (show re_61_0 ∈ rm_61 from List.mem_cons_self) (by decide)
  rcases hS with rfl | rfl | rfl | rfl
  · exact pi_pair (Or.inl rfl) (ac_all 60 60 ce_60_0 (show ce_60_0 ∈ cm_60 from List.mem_cons_self) (by decide)) (by decide +kernel) (by decide +kernel) ⟨gx_vref 0, pi_iv hx, pi_iv hy, trivial⟩ hR (by decide +kernel) (by decide +kernel) ⟨gx_vref 383, pi_iv hx, pi_iv hy, trivial⟩ (by decide +kernel) hG hE hs hl
  · exact pi_pair (Or.inr (Or.inl rfl)) (ac_all 60 60 ce_60_0 (show ce_60_0 ∈ cm_60 from List.mem_cons_self) (by decide)) (by decide +kernel) (by decide +kernel) ⟨gx_vref 0, pi_iv hx, pi_iv hy, trivial⟩ hR (by decide +kernel) (by decide +kernel) ⟨gx_vref 383, pi_iv hx, pi_iv hy, trivial⟩ (by decide +kernel) hG hE hs hl
  · exact pi_pair (Or.inr (Or.inr (Or.inl rfl))) (ac_all 60 60 ce_60_1 (show ce_60_1 ∈ cm_60 from (List.mem_cons_of_mem _ List.mem_cons_self)) (by decide)) (by decide +kernel) (by decide +kernel) ⟨gx_vref 0, pi_iv hx, pi_iv hy, trivial⟩ hR (by decide +kernel) (by decide +kernel) ⟨gx_vref 383, pi_iv hx, pi_iv hy, trivial⟩ (by decide +kernel) hG hE hs hl
  · exact pi_pair (Or.inr (Or.inr (Or.inr rfl))) (ac_all 60 60 ce_60_1 (show ce_60_1 ∈ cm_60 from (List.mem_cons_of_mem _ List.mem_cons_self)) (by decide)) (by decide +kernel) (by decide +kernel) ⟨gx_vref 0, pi_iv hx, pi_iv hy, trivial⟩ hR (by decide +kernel) (by decide +kernel) ⟨gx_vref 383, pi_iv hx, pi_iv hy, trivial⟩ (by decide +kernel) hG hE hs hl
theorem pr_17 {i n x y z : Nat} {t : en_H} (hx : x < 4294967296) (hy : y < 4294967296) (hz : z < 4294967296) (hI : pi_I i t) (hi : i ≤ 4000) : pi_P1 i 62 63 [gx_r 0, .inl x, .inl y, .inl z] [gx_r 383, .inl x, .inl y, .inl z] t n := by
  obtain ⟨hG, hE, ⟨s, hS, hs⟩, hl⟩ := hI
  have hR : ai_cok ah_G (en_u 60) 63 re_63_0.2.1 := ar_all ar_hands 60 63 re_63_0 (show re_63_0 ∈ rm_63 from List.mem_cons_self) (by decide)
  have hz9 : zs_P 62 63 [gx_r 0, .inl x, .inl y, .inl z] [gx_r 383, .inl x, .inl y, .inl z] (5 * i + 30) t n := by
    rcases pi_SP hG hE hl.2.1 hl.2.2.1 with P | P
    · exact zs_see191 hG hE P hl.2.2.2 (by first | decide | omega) hx hy hz
    · exact zs_see257 hG hE P hl.2.2.2 (by first | decide | omega) hx hy hz
  rcases hS with rfl | rfl | rfl | rfl
  · exact pi_pairS (Or.inl rfl) (ac_all 60 62 ce_62_0 (show ce_62_0 ∈ cm_62 from List.mem_cons_self) (by decide)) (by decide +kernel) ⟨gx_vref 0, pi_iv hx, pi_iv hy, pi_iv hz, trivial⟩ hR (by decide +kernel) ⟨gx_vref 383, pi_iv hx, pi_iv hy, pi_iv hz, trivial⟩ (by decide +kernel) hG hE hs hl hz9
  · exact pi_pairS (Or.inr (Or.inl rfl)) (ac_all 60 62 ce_62_0 (show ce_62_0 ∈ cm_62 from List.mem_cons_self) (by decide)) (by decide +kernel) ⟨gx_vref 0, pi_iv hx, pi_iv hy, pi_iv hz, trivial⟩ hR (by decide +kernel) ⟨gx_vref 383, pi_iv hx, pi_iv hy, pi_iv hz, trivial⟩ (by decide +kernel) hG hE hs hl hz9
  · exact pi_pairS (Or.inr (Or.inr (Or.inl rfl))) (ac_all 60 62 ce_62_1 (show ce_62_1 ∈ cm_62 from (List.mem_cons_of_mem _ List.mem_cons_self)) (by decide)) (by decide +kernel) ⟨gx_vref 0, pi_iv hx, pi_iv hy, pi_iv hz, trivial⟩ hR (by decide +kernel) ⟨gx_vref 383, pi_iv hx, pi_iv hy, pi_iv hz, trivial⟩ (by decide +kernel) hG hE hs hl hz9
  · exact pi_pairS (Or.inr (Or.inr (Or.inr rfl))) (ac_all 60 62 ce_62_1 (show ce_62_1 ∈ cm_62 from (List.mem_cons_of_mem _ List.mem_cons_self)) (by decide)) (by decide +kernel) ⟨gx_vref 0, pi_iv hx, pi_iv hy, pi_iv hz, trivial⟩ hR (by decide +kernel) ⟨gx_vref 383, pi_iv hx, pi_iv hy, pi_iv hz, trivial⟩ (by decide +kernel) hG hE hs hl hz9
theorem pr_18 {i n : Nat} {t : en_H} (hI : pi_I i t) : pi_P2 i (en_u 60) 2 64 65 [gx_r 0] [gx_r 383] t n := by
  obtain ⟨hG, hE, ⟨s, hS, hs⟩, hl⟩ := hI
  have hR : ai_cok ah_G (en_u 60) 65 re_65_0.2.1 := ar_all ar_hands 60 65 re_65_0 (show re_65_0 ∈ rm_65 from List.mem_cons_self) (by decide)
  rcases hS with rfl | rfl | rfl | rfl
  · exact pi_pair (Or.inl rfl) (ac_all 60 64 ce_64_0 (show ce_64_0 ∈ cm_64 from List.mem_cons_self) (by decide)) (by decide +kernel) (by decide +kernel) ⟨gx_vref 0, trivial⟩ hR (by decide +kernel) (by decide +kernel) ⟨gx_vref 383, trivial⟩ (by decide +kernel) hG hE hs hl
  · exact pi_pair (Or.inr (Or.inl rfl)) (ac_all 60 64 ce_64_0 (show ce_64_0 ∈ cm_64 from List.mem_cons_self) (by decide)) (by decide +kernel) (by decide +kernel) ⟨gx_vref 0, trivial⟩ hR (by decide +kernel) (by decide +kernel) ⟨gx_vref 383, trivial⟩ (by decide +kernel) hG hE hs hl
  · exact pi_pair (Or.inr (Or.inr (Or.inl rfl))) (ac_all 60 64 ce_64_1 (show ce_64_1 ∈ cm_64 from (List.mem_cons_of_mem _ List.mem_cons_self)) (by decide)) (by decide +kernel) (by decide +kernel) ⟨gx_vref 0, trivial⟩ hR (by decide +kernel) (by decide +kernel) ⟨gx_vref 383, trivial⟩ (by decide +kernel) hG hE hs hl
  · exact pi_pair (Or.inr (Or.inr (Or.inr rfl))) (ac_all 60 64 ce_64_1 (show ce_64_1 ∈ cm_64 from (List.mem_cons_of_mem _ List.mem_cons_self)) (by decide)) (by decide +kernel) (by decide +kernel) ⟨gx_vref 0, trivial⟩ hR (by decide +kernel) (by decide +kernel) ⟨gx_vref 383, trivial⟩ (by decide +kernel) hG hE hs hl
theorem pr_19 {i n : Nat} {t : en_H} (hI : pi_I i t) : pi_P2 i (en_u 60) 1 66 67 [gx_r 0] [gx_r 383] t n := by
  obtain ⟨hG, hE, ⟨s, hS, hs⟩, hl⟩ := hI
  have hR : ai_cok ah_G (en_u 60) 67 re_67_0.2.1 := ar_all ar_hands 60 67 re_67_0 (show re_67_0 ∈ rm_67 from List.mem_cons_self) (by decide)
  rcases hS with rfl | rfl | rfl | rfl
  · exact pi_pair (Or.inl rfl) (ac_all 60 66 ce_66_0 (show ce_66_0 ∈ cm_66 from List.mem_cons_self) (by decide)) (by decide +kernel) (by decide +kernel) ⟨gx_vref 0, trivial⟩ hR (by decide +kernel) (by decide +kernel) ⟨gx_vref 383, trivial⟩ (by decide +kernel) hG hE hs hl
  · exact pi_pair (Or.inr (Or.inl rfl)) (ac_all 60 66 ce_66_0 (show ce_66_0 ∈ cm_66 from List.mem_cons_self) (by decide)) (by decide +kernel) (by decide +kernel) ⟨gx_vref 0, trivial⟩ hR (by decide +kernel) (by decide +kernel) ⟨gx_vref 383, trivial⟩ (by decide +kernel) hG hE hs hl
  · exact pi_pair (Or.inr (Or.inr (Or.inl rfl))) (ac_all 60 66 ce_66_1 (show ce_66_1 ∈ cm_66 from (List.mem_cons_of_mem _ List.mem_cons_self)) (by decide)) (by decide +kernel) (by decide +kernel) ⟨gx_vref 0, trivial⟩ hR (by decide +kernel) (by decide +kernel) ⟨gx_vref 383, trivial⟩ (by decide +kernel) hG hE hs hl
  · exact pi_pair (Or.inr (Or.inr (Or.inr rfl))) (ac_all 60 66 ce_66_1 (show ce_66_1 ∈ cm_66 from (List.mem_cons_of_mem _ List.mem_cons_self)) (by decide)) (by decide +kernel) (by decide +kernel) ⟨gx_vref 0, trivial⟩ hR (by decide +kernel) (by decide +kernel) ⟨gx_vref 383, trivial⟩ (by decide +kernel) hG hE hs hl
theorem pr_20a {i n x : Nat} {t : en_H} (hx : x < 4294967296) (hI : pi_I i t) : pi_P2 i (en_u 60) 1 68 69 [gx_r 0, .inl x] [gx_r 383, .inl x] t n := by
  obtain ⟨hG, hE, ⟨s, hS, hs⟩, hl⟩ := hI
  have hR : ai_cok ah_G (en_u 60) 69 re_69_0.2.1 := ar_all ar_hands 60 69 re_69_0 (show re_69_0 ∈ rm_69 from List.mem_cons_self) (by decide)
  rcases hS with rfl | rfl | rfl | rfl
  · exact pi_pair (Or.inl rfl) (ac_all 60 68 ce_68_0 (show ce_68_0 ∈ cm_68 from List.mem_cons_self) (by decide)) (by decide +kernel) (by decide +kernel) ⟨gx_vref 0, pi_iv hx, trivial⟩ hR (by decide +kernel) (by decide +kernel) ⟨gx_vref 383, pi_iv hx, trivial⟩ (by decide +kernel) hG hE hs hl
  · exact pi_pair (Or.inr (Or.inl rfl)) (ac_all 60 68 ce_68_0 (show ce_68_0 ∈ cm_68 from List.mem_cons_self) (by decide)) (by decide +kernel) (by decide +kernel) ⟨gx_vref 0, pi_iv hx, trivial⟩ hR (by decide +kernel) (by decide +kernel) ⟨gx_vref 383, pi_iv hx, trivial⟩ (by decide +kernel) hG hE hs hl
  · exact pi_pair (Or.inr (Or.inr (Or.inl rfl))) (ac_all 60 68 ce_68_1 (show ce_68_1 ∈ cm_68 from (List.mem_cons_of_mem _ List.mem_cons_self)) (by decide)) (by decide +kernel) (by decide +kernel) ⟨gx_vref 0, pi_iv hx, trivial⟩ hR (by decide +kernel) (by decide +kernel) ⟨gx_vref 383, pi_iv hx, trivial⟩ (by decide +kernel) hG hE hs hl
  · exact pi_pair (Or.inr (Or.inr (Or.inr rfl))) (ac_all 60 68 ce_68_1 (show ce_68_1 ∈ cm_68 from (List.mem_cons_of_mem _ List.mem_cons_self)) (by decide)) (by decide +kernel) (by decide +kernel) ⟨gx_vref 0, pi_iv hx, trivial⟩ hR (by decide +kernel) (by decide +kernel) ⟨gx_vref 383, pi_iv hx, trivial⟩ (by decide +kernel) hG hE hs hl
theorem pr_22a {i n x y : Nat} {t : en_H} (hx : x < 4294967296) (hy : y < 4294967296) (hI : pi_I i t) : pi_P3 i (en_u 60) 1 71 72 [gx_r 0, .inl x, .inl y] [gx_r 383, .inl x, .inl y] t n := by
  obtain ⟨hG, hE, ⟨s, hS, hs⟩, hl⟩ := hI
  have hR : ai_cok ah_G (en_u 60) 72 re_72_0.2.1 := ar_all ar_hands 60 72 re_72_0 (show re_72_0 ∈ rm_72 from List.mem_cons_self) (by decide)
  rcases hS with rfl | rfl | rfl | rfl
  · exact pi_pair3 (Or.inl rfl) (ac_all 60 71 ce_71_0 (show ce_71_0 ∈ cm_71 from List.mem_cons_self) (by decide)) (by decide +kernel) (by decide +kernel) ⟨gx_vref 0, pi_iv hx, pi_iv hy, trivial⟩ hR (by decide +kernel) (by decide +kernel) ⟨gx_vref 383, pi_iv hx, pi_iv hy, trivial⟩ (by decide +kernel) hG hE hs hl
  · exact pi_pair3 (Or.inr (Or.inl rfl)) (ac_all 60 71 ce_71_0 (show ce_71_0 ∈ cm_71 from List.mem_cons_self) (by decide)) (by decide +kernel) (by decide +kernel) ⟨gx_vref 0, pi_iv hx, pi_iv hy, trivial⟩ hR (by decide +kernel) (by decide +kernel) ⟨gx_vref 383, pi_iv hx, pi_iv hy, trivial⟩ (by decide +kernel) hG hE hs hl
  · exact pi_pair3 (Or.inr (Or.inr (Or.inl rfl))) (ac_all 60 71 ce_71_1 (show ce_71_1 ∈ cm_71 from (List.mem_cons_of_mem _ List.mem_cons_self)) (by decide)) (by decide +kernel) (by decide +kernel) ⟨gx_vref 0, pi_iv hx, pi_iv hy, trivial⟩ hR (by decide +kernel) (by decide +kernel) ⟨gx_vref 383, pi_iv hx, pi_iv hy, trivial⟩ (by decide +kernel) hG hE hs hl
  · exact pi_pair3 (Or.inr (Or.inr (Or.inr rfl))) (ac_all 60 71 ce_71_1 (show ce_71_1 ∈ cm_71 from (List.mem_cons_of_mem _ List.mem_cons_self)) (by decide)) (by decide +kernel) (by decide +kernel) ⟨gx_vref 0, pi_iv hx, pi_iv hy, trivial⟩ hR (by decide +kernel) (by decide +kernel) ⟨gx_vref 383, pi_iv hx, pi_iv hy, trivial⟩ (by decide +kernel) hG hE hs hl
theorem pr_23a {i n x y z : Nat} {t : en_H} (hx : x < 4294967296) (hy : y < 4294967296) (hz : z < 4294967296) (hI : pi_I i t) : pi_P3 i (en_u 60) 1 73 74 [gx_r 0, .inl x, .inl y, .inl z] [gx_r 383, .inl x, .inl y, .inl z] t n := by
  obtain ⟨hG, hE, ⟨s, hS, hs⟩, hl⟩ := hI
  have hR : ai_cok ah_G (en_u 60) 74 re_74_0.2.1 := ar_all ar_hands 60 74 re_74_0 (show re_74_0 ∈ rm_74 from List.mem_cons_self) (by decide)
  rcases hS with rfl | rfl | rfl | rfl
  · exact pi_pair3 (Or.inl rfl) (ac_all 60 73 ce_73_0 (show ce_73_0 ∈ cm_73 from List.mem_cons_self) (by decide)) (by decide +kernel) (by decide +kernel) ⟨gx_vref 0, pi_iv hx, pi_iv hy, pi_iv hz, trivial⟩ hR (by decide +kernel) (by decide +kernel) ⟨gx_vref 383, pi_iv hx, pi_iv hy, pi_iv hz, trivial⟩ (by decide +kernel) hG hE hs hl
  · exact pi_pair3 (Or.inr (Or.inl rfl)) (ac_all 60 73 ce_73_0 (show ce_73_0 ∈ cm_73 from List.mem_cons_self) (by decide)) (by decide +kernel) (by decide +kernel) ⟨gx_vref 0, pi_iv hx, pi_iv hy, pi_iv hz, trivial⟩ hR (by decide +kernel) (by decide +kernel) ⟨gx_vref 383, pi_iv hx, pi_iv hy, pi_iv hz, trivial⟩ (by decide +kernel) hG hE hs hl
  · exact pi_pair3 (Or.inr (Or.inr (Or.inl rfl))) (ac_all 60 73 ce_73_1 (show ce_73_1 ∈ cm_73 from (List.mem_cons_of_mem _ List.mem_cons_self)) (by decide)) (by decide +kernel) (by decide +kernel) ⟨gx_vref 0, pi_iv hx, pi_iv hy, pi_iv hz, trivial⟩ hR (by decide +kernel) (by decide +kernel) ⟨gx_vref 383, pi_iv hx, pi_iv hy, pi_iv hz, trivial⟩ (by decide +kernel) hG hE hs hl
  · exact pi_pair3 (Or.inr (Or.inr (Or.inr rfl))) (ac_all 60 73 ce_73_1 (show ce_73_1 ∈ cm_73 from (List.mem_cons_of_mem _ List.mem_cons_self)) (by decide)) (by decide +kernel) (by decide +kernel) ⟨gx_vref 0, pi_iv hx, pi_iv hy, pi_iv hz, trivial⟩ hR (by decide +kernel) (by decide +kernel) ⟨gx_vref 383, pi_iv hx, pi_iv hy, pi_iv hz, trivial⟩ (by decide +kernel) hG hE hs hl
theorem pr_24a {i n x y : Nat} {t : en_H} (hx : x < 4294967296) (hy : y < 4294967296) (hI : pi_I i t) : pi_P3 i (en_u 60) 1 75 76 [gx_r 0, .inl x, .inl y] [gx_r 383, .inl x, .inl y] t n := by
  obtain ⟨hG, hE, ⟨s, hS, hs⟩, hl⟩ := hI
  have hR : ai_cok ah_G (en_u 60) 76 re_76_0.2.1 := ar_all ar_hands 60 76 re_76_0 (show re_76_0 ∈ rm_76 from List.mem_cons_self) (by decide)
  rcases hS with rfl | rfl | rfl | rfl
  · exact pi_pair3 (Or.inl rfl) (ac_all 60 75 ce_75_0 (show ce_75_0 ∈ cm_75 from List.mem_cons_self) (by decide)) (by decide +kernel) (by decide +kernel) ⟨gx_vref 0, pi_iv hx, pi_iv hy, trivial⟩ hR (by decide +kernel) (by decide +kernel) ⟨gx_vref 383, pi_iv hx, pi_iv hy, trivial⟩ (by decide +kernel) hG hE hs hl
  · exact pi_pair3 (Or.inr (Or.inl rfl)) (ac_all 60 75 ce_75_0 (show ce_75_0 ∈ cm_75 from List.mem_cons_self) (by decide)) (by decide +kernel) (by decide +kernel) ⟨gx_vref 0, pi_iv hx, pi_iv hy, trivial⟩ hR (by decide +kernel) (by decide +kernel) ⟨gx_vref 383, pi_iv hx, pi_iv hy, trivial⟩ (by decide +kernel) hG hE hs hl
  · exact pi_pair3 (Or.inr (Or.inr (Or.inl rfl))) (ac_all 60 75 ce_75_1 (show ce_75_1 ∈ cm_75 from (List.mem_cons_of_mem _ List.mem_cons_self)) (by decide)) (by decide +kernel) (by decide +kernel) ⟨gx_vref 0, pi_iv hx, pi_iv hy, trivial⟩ hR (by decide +kernel) (by decide +kernel) ⟨gx_vref 383, pi_iv hx, pi_iv hy, trivial⟩ (by decide +kernel) hG hE hs hl
  · exact pi_pair3 (Or.inr (Or.inr (Or.inr rfl))) (ac_all 60 75 ce_75_1 (show ce_75_1 ∈ cm_75 from (List.mem_cons_of_mem _ List.mem_cons_self)) (by decide)) (by decide +kernel) (by decide +kernel) ⟨gx_vref 0, pi_iv hx, pi_iv hy, trivial⟩ hR (by decide +kernel) (by decide +kernel) ⟨gx_vref 383, pi_iv hx, pi_iv hy, trivial⟩ (by decide +kernel) hG hE hs hl
theorem pr_25a {i n x : Nat} {t : en_H} (hx : x < 4294967296) (hI : pi_I i t) : pi_P2 i (en_u 60) 1 77 78 [gx_r 0, .inl x] [gx_r 383, .inl x] t n := by
  obtain ⟨hG, hE, ⟨s, hS, hs⟩, hl⟩ := hI
  have hR : ai_cok ah_G (en_u 60) 78 re_78_0.2.1 := ar_all ar_hands 60 78 re_78_0 (show re_78_0 ∈ rm_78 from List.mem_cons_self) (by decide)
  rcases hS with rfl | rfl | rfl | rfl
  · exact pi_pair (Or.inl rfl) (ac_all 60 77 ce_77_0 (show ce_77_0 ∈ cm_77 from List.mem_cons_self) (by decide)) (by decide +kernel) (by decide +kernel) ⟨gx_vref 0, pi_iv hx, trivial⟩ hR (by decide +kernel) (by decide +kernel) ⟨gx_vref 383, pi_iv hx, trivial⟩ (by decide +kernel) hG hE hs hl
  · exact pi_pair (Or.inr (Or.inl rfl)) (ac_all 60 77 ce_77_0 (show ce_77_0 ∈ cm_77 from List.mem_cons_self) (by decide)) (by decide +kernel) (by decide +kernel) ⟨gx_vref 0, pi_iv hx, trivial⟩ hR (by decide +kernel) (by decide +kernel) ⟨gx_vref 383, pi_iv hx, trivial⟩ (by decide +kernel) hG hE hs hl
  · exact pi_pair (Or.inr (Or.inr (Or.inl rfl))) (ac_all 60 77 ce_77_1 (show ce_77_1 ∈ cm_77 from (List.mem_cons_of_mem _ List.mem_cons_self)) (by decide)) (by decide +kernel) (by decide +kernel) ⟨gx_vref 0, pi_iv hx, trivial⟩ hR (by decide +kernel) (by decide +kernel) ⟨gx_vref 383, pi_iv hx, trivial⟩ (by decide +kernel) hG hE hs hl
  · exact pi_pair (Or.inr (Or.inr (Or.inr rfl))) (ac_all 60 77 ce_77_1 (show ce_77_1 ∈ cm_77 from (List.mem_cons_of_mem _ List.mem_cons_self)) (by decide)) (by decide +kernel) (by decide +kernel) ⟨gx_vref 0, pi_iv hx, trivial⟩ hR (by decide +kernel) (by decide +kernel) ⟨gx_vref 383, pi_iv hx, trivial⟩ (by decide +kernel) hG hE hs hl
theorem pr_26a {i n x : Nat} {t : en_H} (hx : x < 4294967296) (hI : pi_I i t) : pi_P2 i (en_u 60) 1 79 80 [gx_r 0, .inl x] [gx_r 383, .inl x] t n := by
  obtain ⟨hG, hE, ⟨s, hS, hs⟩, hl⟩ := hI
  have hR : ai_cok ah_G (en_u 60) 80 re_80_0.2.1 := ar_all ar_hands 60 80 re_80_0 (show re_80_0 ∈ rm_80 from List.mem_cons_self) (by decide)
  rcases hS with rfl | rfl | rfl | rfl
  · exact pi_pair (Or.inl rfl) (ac_all 60 79 ce_79_0 (show ce_79_0 ∈ cm_79 from List.mem_cons_self) (by decide)) (by decide +kernel) (by decide +kernel) ⟨gx_vref 0, pi_iv hx, trivial⟩ hR (by decide +kernel) (by decide +kernel) ⟨gx_vref 383, pi_iv hx, trivial⟩ (by decide +kernel) hG hE hs hl
  · exact pi_pair (Or.inr (Or.inl rfl)) (ac_all 60 79 ce_79_0 (show ce_79_0 ∈ cm_79 from List.mem_cons_self) (by decide)) (by decide +kernel) (by decide +kernel) ⟨gx_vref 0, pi_iv hx, trivial⟩ hR (by decide +kernel) (by decide +kernel) ⟨gx_vref 383, pi_iv hx, trivial⟩ (by decide +kernel) hG hE hs hl
  · exact pi_pair (Or.inr (Or.inr (Or.inl rfl))) (ac_all 60 79 ce_79_1 (show ce_79_1 ∈ cm_79 from (List.mem_cons_of_mem _ List.mem_cons_self)) (by decide)) (by decide +kernel) (by decide +kernel) ⟨gx_vref 0, pi_iv hx, trivial⟩ hR (by decide +kernel) (by decide +kernel) ⟨gx_vref 383, pi_iv hx, trivial⟩ (by decide +kernel) hG hE hs hl
  · exact pi_pair (Or.inr (Or.inr (Or.inr rfl))) (ac_all 60 79 ce_79_1 (show ce_79_1 ∈ cm_79 from (List.mem_cons_of_mem _ List.mem_cons_self)) (by decide)) (by decide +kernel) (by decide +kernel) ⟨gx_vref 0, pi_iv hx, trivial⟩ hR (by decide +kernel) (by decide +kernel) ⟨gx_vref 383, pi_iv hx, trivial⟩ (by decide +kernel) hG hE hs hl
theorem pr_27a {i n x y z : Nat} {t : en_H} (hx : x < 4294967296) (hy : y < 4294967296) (hz : z < 4294967296) (hI : pi_I i t) : pi_P2 i (en_u 60) 1 81 82 [gx_r 0, .inl x, .inl y, .inl z] [gx_r 383, .inl x, .inl y, .inl z] t n := by
  obtain ⟨hG, hE, ⟨s, hS, hs⟩, hl⟩ := hI
  have hR : ai_cok ah_G (en_u 60) 82 re_82_0.2.1 := ar_all ar_hands 60 82 re_82_0 (show re_82_0 ∈ rm_82 from List.mem_cons_self) (by decide)
  rcases hS with rfl | rfl | rfl | rfl
  · exact pi_pair (Or.inl rfl) (ac_all 60 81 ce_81_0 (show ce_81_0 ∈ cm_81 from List.mem_cons_self) (by decide)) (by decide +kernel) (by decide +kernel) ⟨gx_vref 0, pi_iv hx, pi_iv hy, pi_iv hz, trivial⟩ hR (by decide +kernel) (by decide +kernel) ⟨gx_vref 383, pi_iv hx, pi_iv hy, pi_iv hz, trivial⟩ (by decide +kernel) hG hE hs hl
  · exact pi_pair (Or.inr (Or.inl rfl)) (ac_all 60 81 ce_81_0 (show ce_81_0 ∈ cm_81 from List.mem_cons_self) (by decide)) (by decide +kernel) (by decide +kernel) ⟨gx_vref 0, pi_iv hx, pi_iv hy, pi_iv hz, trivial⟩ hR (by decide +kernel) (by decide +kernel) ⟨gx_vref 383, pi_iv hx, pi_iv hy, pi_iv hz, trivial⟩ (by decide +kernel) hG hE hs hl
  · exact pi_pair (Or.inr (Or.inr (Or.inl rfl))) (ac_all 60 81 ce_81_1 (show ce_81_1 ∈ cm_81 from (List.mem_cons_of_mem _ List.mem_cons_self)) (by decide)) (by decide +kernel) (by decide +kernel) ⟨gx_vref 0, pi_iv hx, pi_iv hy, pi_iv hz, trivial⟩ hR (by decide +kernel) (by decide +kernel) ⟨gx_vref 383, pi_iv hx, pi_iv hy, pi_iv hz, trivial⟩ (by decide +kernel) hG hE hs hl
  · exact pi_pair (Or.inr (Or.inr (Or.inr rfl))) (ac_all 60 81 ce_81_1 (show ce_81_1 ∈ cm_81 from (List.mem_cons_of_mem _ List.mem_cons_self)) (by decide)) (by decide +kernel) (by decide +kernel) ⟨gx_vref 0, pi_iv hx, pi_iv hy, pi_iv hz, trivial⟩ hR (by decide +kernel) (by decide +kernel) ⟨gx_vref 383, pi_iv hx, pi_iv hy, pi_iv hz, trivial⟩ (by decide +kernel) hG hE hs hl
theorem pr_29a {i n x : Nat} {t : en_H} (hx : x < 4294967296) (hI : pi_I i t) : pi_P2 i (en_u 60) 1 85 86 [gx_r 0, .inl x] [gx_r 383, .inl x] t n := by
  obtain ⟨hG, hE, ⟨s, hS, hs⟩, hl⟩ := hI
  have hR : ai_cok ah_G (en_u 60) 86 re_86_0.2.1 := ar_all ar_hands 60 86 re_86_0 (show re_86_0 ∈ rm_86 from List.mem_cons_self) (by decide)
  rcases hS with rfl | rfl | rfl | rfl
  · exact pi_pair (Or.inl rfl) (ac_all 60 85 ce_85_0 (show ce_85_0 ∈ cm_85 from List.mem_cons_self) (by decide)) (by decide +kernel) (by decide +kernel) ⟨gx_vref 0, pi_iv hx, trivial⟩ hR (by decide +kernel) (by decide +kernel) ⟨gx_vref 383, pi_iv hx, trivial⟩ (by decide +kernel) hG hE hs hl
  · exact pi_pair (Or.inr (Or.inl rfl)) (ac_all 60 85 ce_85_1 (show ce_85_1 ∈ cm_85 from (List.mem_cons_of_mem _ List.mem_cons_self)) (by decide)) (by decide +kernel) (by decide +kernel) ⟨gx_vref 0, pi_iv hx, trivial⟩ hR (by decide +kernel) (by decide +kernel) ⟨gx_vref 383, pi_iv hx, trivial⟩ (by decide +kernel) hG hE hs hl
  · exact pi_pair (Or.inr (Or.inr (Or.inl rfl))) (ac_all 60 85 ce_85_2 (show ce_85_2 ∈ cm_85 from (List.mem_cons_of_mem _ (List.mem_cons_of_mem _ List.mem_cons_self))) (by decide)) (by decide +kernel) (by decide +kernel) ⟨gx_vref 0, pi_iv hx, trivial⟩ hR (by decide +kernel) (by decide +kernel) ⟨gx_vref 383, pi_iv hx, trivial⟩ (by decide +kernel) hG hE hs hl
  · exact pi_pair (Or.inr (Or.inr (Or.inr rfl))) (ac_all 60 85 ce_85_3 (show ce_85_3 ∈ cm_85 from (List.mem_cons_of_mem _ (List.mem_cons_of_mem _ (List.mem_cons_of_mem _ List.mem_cons_self)))) (by decide)) (by decide +kernel) (by decide +kernel) ⟨gx_vref 0, pi_iv hx, trivial⟩ hR (by decide +kernel) (by decide +kernel) ⟨gx_vref 383, pi_iv hx, trivial⟩ (by decide +kernel) hG hE hs hl
theorem sp_N_one {S : Nat → Nat} {m N N' : Nat} (h1 : ∀ j, j < N → sp_st S m j < m) (h2 : sp_st S m N = m) (h3 : ∀ j, j < N' → sp_st S m j < m) (h4 : sp_st S m N' = m) : N = N' := by
  rcases Nat.lt_trichotomy N N' with h | h | h
  · have := h3 N h; omega
  · exact h
  · have := h1 N' h; omega
theorem pr_1 {i n : Nat} {t : en_H} (hI : pi_I i t) : pi_P2 i (en_u 60) 1 32 33 [gx_r 0] [gx_r 383] t n := by
  obtain ⟨hG, hE, ⟨s, hS, hs⟩, hl, hU, hM⟩ := hI
  have h1 : ∃ v t' s', en_u 60 32 [gx_r 0] t n = some (some v, t', n, 0) ∧ en_cat v = 1 ∧ ai_HG ah_G t' ∧ ai_E t' ∧ pi_S s' ∧ ai_HO s' t' ∧ ai_hv t' 1 0 = some (.inl 0) ∧ (∀ c i, c = 2 ∨ c = 147 ∨ c = 180 ∨ c = 240 ∨ c = 306 ∨ 383 ≤ c → ai_hv t' c i = ai_hv t c i) := by
    rcases hS with rfl | rfl | rfl | rfl
    · exact pi_move (ac_all 60 32 ce_32_0 (show ce_32_0 ∈ cm_32 from List.mem_cons_self) (by decide)) (by decide +kernel) (by decide +kernel) ⟨gx_vref 0, trivial⟩ hG hE hs
    · exact pi_move (ac_all 60 32 ce_32_1 (show ce_32_1 ∈ cm_32 from (List.mem_cons_of_mem _ List.mem_cons_self)) (by decide)) (by decide +kernel) (by decide +kernel) ⟨gx_vref 0, trivial⟩ hG hE hs
    · exact pi_move (ac_all 60 32 ce_32_2 (show ce_32_2 ∈ cm_32 from (List.mem_cons_of_mem _ (List.mem_cons_of_mem _ List.mem_cons_self))) (by decide)) (by decide +kernel) (by decide +kernel) ⟨gx_vref 0, trivial⟩ hG hE hs
    · exact pi_move (ac_all 60 32 ce_32_3 (show ce_32_3 ∈ cm_32 from (List.mem_cons_of_mem _ (List.mem_cons_of_mem _ (List.mem_cons_of_mem _ List.mem_cons_self)))) (by decide)) (by decide +kernel) (by decide +kernel) ⟨gx_vref 0, trivial⟩ hG hE hs
  obtain ⟨v, t1, s1, a1, a2, a3, a4, a5, a6, a7, a8⟩ := h1
  have hF : ai_hv t1 0 12 = ai_hv t 0 12 := by
    rcases hS with rfl | rfl | rfl | rfl
    · exact pi_frm (as := [gx_r 0]) (ac_all 60 32 ce_32_0 (show ce_32_0 ∈ cm_32 from List.mem_cons_self) (by decide)) (by decide +kernel) ⟨gx_vref 0, trivial⟩ hG hE hs a1 0 12 (pi_out_ok (by decide +kernel))
    · exact pi_frm (as := [gx_r 0]) (ac_all 60 32 ce_32_1 (show ce_32_1 ∈ cm_32 from (List.mem_cons_of_mem _ List.mem_cons_self)) (by decide)) (by decide +kernel) ⟨gx_vref 0, trivial⟩ hG hE hs a1 0 12 (pi_out_ok (by decide +kernel))
    · exact pi_frm (as := [gx_r 0]) (ac_all 60 32 ce_32_2 (show ce_32_2 ∈ cm_32 from (List.mem_cons_of_mem _ (List.mem_cons_of_mem _ List.mem_cons_self))) (by decide)) (by decide +kernel) ⟨gx_vref 0, trivial⟩ hG hE hs a1 0 12 (pi_out_ok (by decide +kernel))
    · exact pi_frm (as := [gx_r 0]) (ac_all 60 32 ce_32_3 (show ce_32_3 ∈ cm_32 from (List.mem_cons_of_mem _ (List.mem_cons_of_mem _ (List.mem_cons_of_mem _ List.mem_cons_self)))) (by decide)) (by decide +kernel) ⟨gx_vref 0, trivial⟩ hG hE hs a1 0 12 (pi_out_ok (by decide +kernel))
  obtain ⟨len, S, l1, l2, l3, l4, l5, l6, lL⟩ := hl
  obtain ⟨_, r1, v2, t2, rfl, vb, g2, E2, k2, e2, e3⟩ := pk_pack 25 n a3 a4
  have h2 : ∃ p q r, (p = 191 ∨ p = 257) ∧ (q = 191 ∨ q = 257) ∧ p ≠ q ∧ ai_hv t 0 10 = some (gx_r q) ∧ en_u 60 32 [gx_r 0] t n = some r ∧ ∃ v t', r = (some (.inl v), t', n, 0) ∧ v < 2147483648 ∧ ∃ N, (∀ j, j < N → sp_st S len j < len) ∧ sp_st S len N = len ∧ Pk S len N 1001 (sg_0 S len) (sl_0 S len N) v ∧ (v = 0 → (∃ υ, Pt S len N 1001 (sg_0 S len) (sl_0 S len N) υ ∧ W3 S len N υ ∧ CA t' p S len υ ∧ CLw t' p S len N υ) ∧ ai_hv t' 0 10 = some (gx_r p)) ∧ (v ≠ 0 → ai_hv t' 0 10 = some (gx_r q) ∧ ∀ c i, q ≤ c → c ≤ q + 47 → ai_hv t' c i = ai_hv t c i) ∧ (v = 0 → ∃ l, (l = 323 ∨ l = 329) ∧ CBg t' p l ∧ NX t' p ∧ ai_hv t 0 12 = some (gx_r l)) ∧ (v ≠ 0 → ∀ c i, ¬ (c = 1 ∨ (3 ≤ c ∧ c ≤ 7) ∨ (p ≤ c ∧ c ≤ p + 65)) → ai_hv t' c i = ai_hv t c i) := by
    rcases hS with rfl | rfl | rfl | rfl
    · obtain ⟨w0, x0, y0⟩ := hs _ List.mem_cons_self
      obtain ⟨w1, x1, y1⟩ := hs _ (List.mem_cons_of_mem _ List.mem_cons_self)
      obtain ⟨w2, x2, y2⟩ := hs _ (List.mem_cons_of_mem _ (List.mem_cons_of_mem _ List.mem_cons_self))
      rw [rh_one (c := 191) y0] at x0
      rw [rh_one (c := 257) y1] at x1
      rw [rh_one (c := 323) y2] at x2
      obtain ⟨r, b1, v9, t9, rfl, j1, N9, j2, j3, j4, j5, j6⟩ := pc_pack257_0 18 n (m := len) hG hE (fun q hq => hs q (List.mem_cons_of_mem _ (List.mem_cons_of_mem _ (List.mem_cons_of_mem _ (List.mem_cons_of_mem _ hq))))) x0 x1 x2 l1 l2 (fun i hi => ⟨(l4 i hi).1, Nat.le_trans (l4 i hi).2 (by decide)⟩) hM.1.2.1
      obtain ⟨_, b2, v8, t8, rfl, z1, z2⟩ := pc_packB257_0 18 n (m := len) hG hE (fun q hq => hs q (List.mem_cons_of_mem _ (List.mem_cons_of_mem _ (List.mem_cons_of_mem _ (List.mem_cons_of_mem _ hq))))) x0 x1 x2 l1 l2 (fun i hi => ⟨(l4 i hi).1, Nat.le_trans (l4 i hi).2 (by decide)⟩) hM.1.2.1
      have e9 := Option.some.inj (b1.symm.trans b2)
      have e8 : v9 = v8 := Sum.inl.inj (Option.some.inj (congrArg (fun z => z.1) e9))
      have e7 : t9 = t8 := congrArg (fun z => z.2.1) e9
      subst e8 e7
      exact ⟨257, 191, _, by omega, by omega, by omega, x0, b1, v9, t9, rfl, j1, N9, j2, j3, j4, j5, j6, (fun z => ⟨323, by omega, (z1 z).1, (z1 z).2, x2⟩), z2⟩
    · obtain ⟨w0, x0, y0⟩ := hs _ List.mem_cons_self
      obtain ⟨w1, x1, y1⟩ := hs _ (List.mem_cons_of_mem _ List.mem_cons_self)
      obtain ⟨w2, x2, y2⟩ := hs _ (List.mem_cons_of_mem _ (List.mem_cons_of_mem _ List.mem_cons_self))
      rw [rh_one (c := 191) y0] at x0
      rw [rh_one (c := 257) y1] at x1
      rw [rh_one (c := 329) y2] at x2
      obtain ⟨r, b1, v9, t9, rfl, j1, N9, j2, j3, j4, j5, j6⟩ := pc_pack257_1 18 n (m := len) hG hE (fun q hq => hs q (List.mem_cons_of_mem _ (List.mem_cons_of_mem _ (List.mem_cons_of_mem _ (List.mem_cons_of_mem _ hq))))) x0 x1 x2 l1 l2 (fun i hi => ⟨(l4 i hi).1, Nat.le_trans (l4 i hi).2 (by decide)⟩) hM.1.2.1
      obtain ⟨_, b2, v8, t8, rfl, z1, z2⟩ := pc_packB257_1 18 n (m := len) hG hE (fun q hq => hs q (List.mem_cons_of_mem _ (List.mem_cons_of_mem _ (List.mem_cons_of_mem _ (List.mem_cons_of_mem _ hq))))) x0 x1 x2 l1 l2 (fun i hi => ⟨(l4 i hi).1, Nat.le_trans (l4 i hi).2 (by decide)⟩) hM.1.2.1
      have e9 := Option.some.inj (b1.symm.trans b2)
      have e8 : v9 = v8 := Sum.inl.inj (Option.some.inj (congrArg (fun z => z.1) e9))
      have e7 : t9 = t8 := congrArg (fun z => z.2.1) e9
      subst e8 e7
      exact ⟨257, 191, _, by omega, by omega, by omega, x0, b1, v9, t9, rfl, j1, N9, j2, j3, j4, j5, j6, (fun z => ⟨329, by omega, (z1 z).1, (z1 z).2, x2⟩), z2⟩
    · obtain ⟨w0, x0, y0⟩ := hs _ List.mem_cons_self
      obtain ⟨w1, x1, y1⟩ := hs _ (List.mem_cons_of_mem _ List.mem_cons_self)
      obtain ⟨w2, x2, y2⟩ := hs _ (List.mem_cons_of_mem _ (List.mem_cons_of_mem _ List.mem_cons_self))
      rw [rh_one (c := 257) y0] at x0
      rw [rh_one (c := 191) y1] at x1
      rw [rh_one (c := 323) y2] at x2
      obtain ⟨r, b1, v9, t9, rfl, j1, N9, j2, j3, j4, j5, j6⟩ := pc_pack191_0 18 n (m := len) hG hE (fun q hq => hs q (List.mem_cons_of_mem _ (List.mem_cons_of_mem _ (List.mem_cons_of_mem _ (List.mem_cons_of_mem _ hq))))) x0 x1 x2 l1 l2 (fun i hi => ⟨(l4 i hi).1, Nat.le_trans (l4 i hi).2 (by decide)⟩) hM.1.1
      obtain ⟨_, b2, v8, t8, rfl, z1, z2⟩ := pc_packB191_0 18 n (m := len) hG hE (fun q hq => hs q (List.mem_cons_of_mem _ (List.mem_cons_of_mem _ (List.mem_cons_of_mem _ (List.mem_cons_of_mem _ hq))))) x0 x1 x2 l1 l2 (fun i hi => ⟨(l4 i hi).1, Nat.le_trans (l4 i hi).2 (by decide)⟩) hM.1.1
      have e9 := Option.some.inj (b1.symm.trans b2)
      have e8 : v9 = v8 := Sum.inl.inj (Option.some.inj (congrArg (fun z => z.1) e9))
      have e7 : t9 = t8 := congrArg (fun z => z.2.1) e9
      subst e8 e7
      exact ⟨191, 257, _, by omega, by omega, by omega, x0, b1, v9, t9, rfl, j1, N9, j2, j3, j4, j5, j6, (fun z => ⟨323, by omega, (z1 z).1, (z1 z).2, x2⟩), z2⟩
    · obtain ⟨w0, x0, y0⟩ := hs _ List.mem_cons_self
      obtain ⟨w1, x1, y1⟩ := hs _ (List.mem_cons_of_mem _ List.mem_cons_self)
      obtain ⟨w2, x2, y2⟩ := hs _ (List.mem_cons_of_mem _ (List.mem_cons_of_mem _ List.mem_cons_self))
      rw [rh_one (c := 257) y0] at x0
      rw [rh_one (c := 191) y1] at x1
      rw [rh_one (c := 329) y2] at x2
      obtain ⟨r, b1, v9, t9, rfl, j1, N9, j2, j3, j4, j5, j6⟩ := pc_pack191_1 18 n (m := len) hG hE (fun q hq => hs q (List.mem_cons_of_mem _ (List.mem_cons_of_mem _ (List.mem_cons_of_mem _ (List.mem_cons_of_mem _ hq))))) x0 x1 x2 l1 l2 (fun i hi => ⟨(l4 i hi).1, Nat.le_trans (l4 i hi).2 (by decide)⟩) hM.1.1
      obtain ⟨_, b2, v8, t8, rfl, z1, z2⟩ := pc_packB191_1 18 n (m := len) hG hE (fun q hq => hs q (List.mem_cons_of_mem _ (List.mem_cons_of_mem _ (List.mem_cons_of_mem _ (List.mem_cons_of_mem _ hq))))) x0 x1 x2 l1 l2 (fun i hi => ⟨(l4 i hi).1, Nat.le_trans (l4 i hi).2 (by decide)⟩) hM.1.1
      have e9 := Option.some.inj (b1.symm.trans b2)
      have e8 : v9 = v8 := Sum.inl.inj (Option.some.inj (congrArg (fun z => z.1) e9))
      have e7 : t9 = t8 := congrArg (fun z => z.2.1) e9
      subst e8 e7
      exact ⟨191, 257, _, by omega, by omega, by omega, x0, b1, v9, t9, rfl, j1, N9, j2, j3, j4, j5, j6, (fun z => ⟨329, by omega, (z1 z).1, (z1 z).2, x2⟩), z2⟩
  obtain ⟨p, q, _, hp, hq, hpq, x10, c1, x, tx, rfl, hx, N, hN1, hN2, hPk, hT0, hT1, hB0, hB1⟩ := h2
  obtain ⟨_, c2, y, ty, rfl, N', hM1, hM2, hPk', hR0⟩ := pe_pack 25 n (t0 := t1) (S := S) (m := len) a3 l1 ((a8 383 2 (by first | decide | omega)).trans l3) (fun i hi => ⟨(a8 384 i (by first | decide | omega)).trans (l5 i hi).1, Nat.le_trans (l5 i hi).2 (by decide)⟩) (fun w hw => (a8 388 w (by first | decide | omega)).trans (l6 w hw))
  have eN := sp_N_one hN1 hN2 hM1 hM2
  subst eN
  have exy := Pk_det 1001 1001 _ _ _ _ hPk hPk'
  have f3 := Option.some.inj (a1.symm.trans c1)
  have f4 := Option.some.inj (r1.symm.trans c2)
  have e5 : v = .inl x := Option.some.inj (congrArg (fun z => z.1) f3)
  have e5t : tx = t1 := (congrArg (fun z => z.2.1) f3).symm
  have e6 : (Sum.inl v2 : en_V) = .inl y := Option.some.inj (congrArg (fun z => z.1) f4)
  have e6t : ty = t2 := (congrArg (fun z => z.2.1) f4).symm
  have e7 : v2 = x := (Sum.inl.inj e6).trans exy.symm
  have e8 : y = x := exy.symm
  subst e5t
  subst e6t
  have hU2 : pi_U ty := by
    by_cases hz : x = 0
    · obtain ⟨⟨υ, u1, u2, u3, u5⟩, u4⟩ := hT0 hz
      obtain ⟨υ', w1, w2, w3, -, w5⟩ := hR0 (by first | decide | omega)
      have eu := Pt_det 1001 1001 _ _ _ _ u1 w1
      subst eu
      have hFb : ∀ j, j < 64 → υ 23 j ≤ 4 := fun j hj => by
        obtain ⟨-, -, -, -, -, -, -, -, -, -, -, -, -, -, -, -, -, -, -, -, kF⟩ := u3
        rcases hp with rfl | rfl
        · obtain ⟨m9, k9, k8, k7⟩ := gx_inb (c := 192) (i := j) (lo := 0) (hi := 4) a3 rfl (show j < 64 from hj) (gx_run1 (show j < 64 from hj)) (by decide) (by decide) rfl
          have h9 := Sum.inl.inj (Option.some.inj ((kF j hj).symm.trans k9))
          omega
        · obtain ⟨m9, k9, k8, k7⟩ := gx_inb (c := 258) (i := j) (lo := 0) (hi := 4) a3 rfl (show j < 64 from hj) (gx_run1 (show j < 64 from hj)) (by decide) (by decide) rfl
          have h9 := Sum.inl.inj (Option.some.inj ((kF j hj).symm.trans k9))
          omega
      have hcr : CL ty := ⟨fun k hk => (e2 147 k (Or.inl (by first | decide | omega))).trans ((a8 147 k (by first | decide | omega)).trans (pi_U_CR hU k hk)), fun k hk => (e2 180 k (Or.inl (by first | decide | omega))).trans ((a8 180 k (by first | decide | omega)).trans (pi_U_LR hU k hk))⟩
      exact ⟨p, S, len, N, υ, hp, (e2 0 10 (Or.inl (by first | decide | omega))).trans u4, told_V u1, ⟨hFb, PW_of (WL_Pt 1001 _ _ _ WL_0 u1) w5 (CLw_keep u5 (fun c i h1 h2 => e2 c i (Or.inl (cv_lt hp h1 h2))) (fun l => ⟨rfl, rfl⟩)) hcr⟩, w3, CU_keep (CU_of u3) (fun c i h => e2 c i (Or.inl (cu_lt hp h)))⟩
    · obtain ⟨u1, u2⟩ := hT1 hz
      obtain ⟨q', S0, m0, N0, υ, hq', k1', k2', k3', k4', k5'⟩ := hU
      have eq : q' = q := by
        have h9 : (gx_r q' : en_V) = gx_r q := Option.some.inj (k1'.symm.trans x10)
        exact Option.some.inj (Sum.inl.inj (Sum.inr.inj (Sum.inr.inj h9)))
      subst eq
      have hv2 : v2 ≠ 0 := by omega
      exact ⟨q', S0, m0, N0, υ, hq', (e2 0 10 (Or.inl (by first | decide | omega))).trans u1, k2', ⟨k3'.1, PW_keep k3'.2 (fun i hi => (e3 hv2 389 i (by first | decide | omega)).trans (a8 389 i (by first | decide | omega))) (fun c i hc hi => (e3 hv2 c i (by first | decide | omega)).trans (a8 c i (by first | decide | omega))) (fun i => (e2 147 i (Or.inl (by first | decide | omega))).trans (a8 147 i (by first | decide | omega))) (fun i => (e2 180 i (Or.inl (by first | decide | omega))).trans (a8 180 i (by first | decide | omega))) (fun k hk => ⟨(e2 _ 2 (Or.inl (by first | decide | omega))).trans (u2 _ 2 (by first | decide | omega) (by first | decide | omega)), fun i => (e2 _ i (Or.inl (by first | decide | omega))).trans (u2 _ i (by first | decide | omega) (by first | decide | omega))⟩)⟩, RT_keep k4' (fun c i h => (e3 hv2 c i (by first | decide | omega)).trans (a8 c i (by first | decide | omega))), CU_keep k5' (fun c i h => (e2 c i (Or.inl (by first | decide | omega))).trans (u2 c i (by first | decide | omega) (by first | decide | omega)))⟩
  have hM2 : pi_M (5 * (i + 7)) ty := by
    obtain ⟨⟨jr1, jr2, q', -, x10', hN'⟩, hZ'⟩ := hM
    have j1 : JRw ty 191 := fun i hi => (e2 240 i (Or.inl (by decide))).trans ((a8 240 i (by first | decide | omega)).trans (jr1 i hi))
    have j2 : JRw ty 257 := fun i hi => (e2 306 i (Or.inl (by decide))).trans ((a8 306 i (by first | decide | omega)).trans (jr2 i hi))
    by_cases hz : x = 0
    · obtain ⟨-, -, -, -, w9, -⟩ := hR0 (by first | decide | omega)
      obtain ⟨l9, hl9, hC9, hN9, -⟩ := hB0 hz
      have k10 : ai_hv ty 0 10 = some (gx_r p) := (e2 0 10 (Or.inl (by first | decide | omega))).trans (hT0 hz).2
      have hN : NX ty p := NX_keep hN9 (fun c i h => e2 c i (Or.inl (nxc_lt hp h)))
      obtain ⟨q9, S9, m9, N9, υ9, -, k19, ⟨k29, k2c9, k2d9, k2g9⟩, ⟨-, hP9⟩, k49, k59⟩ := hU2
      have e := gx_req (Option.some.inj (k19.symm.trans k10))
      subst e
      obtain ⟨w, L, hRW, hCW, -, -, hgr⟩ := pi_wldX g2 E2 k29 k2c9 k2d9 k2g9 hP9 k49 k59 hN
      obtain ⟨σ, b1, b2, b3, b4, -⟩ := beg_of hRW hCW w9 (CBg_keep hC9 hp hl9 (fun c i h => e2 c i (Or.inl h)))
      exact ⟨⟨j1, j2, q9, hp, k10, hN⟩, w 0 2, w 0 4, σ, 0, _, _, _, 0, _, ⟨hRW.1 2 (by decide), hRW.1 4 (by decide)⟩, b1, b2, ⟨Nat.zero_le _, by omega, fun k hk => absurd hk (Nat.not_lt_zero k), fun m hm z => absurd (show (0 : Nat) = 1 from z) (by decide)⟩, fun _ _ => Nat.zero_le _, Nat.zero_le _, fun _ _ _ => Nat.zero_le _, w 0 0, w 0 1, ⟨hRW.1 0 (by decide), hRW.1 1 (by decide)⟩, (fun i hi => by rw [b4 i hi]; exact hgr i hi), fun k hk => absurd hk (Nat.not_lt_zero k), fun m hm z => absurd (show (0 : Nat) = 1 from z) (by decide)⟩
    · have hv2 : v2 ≠ 0 := by omega
      have e := gx_req (Option.some.inj (x10'.symm.trans x10))
      subst e
      exact ⟨⟨j1, j2, q', hq, (e2 0 10 (Or.inl (by first | decide | omega))).trans (hT1 hz).1, NX_keep hN' (fun c i h => (e2 c i (Or.inl (nxc_lt hq h))).trans (hB1 hz c i (nxc_out hp hq hpq h)))⟩, ZS_keep hZ' (by first | decide | omega) ((e3 hv2 389 0 (by first | decide | omega)).trans (a8 389 0 (by first | decide | omega))) ((e3 hv2 389 1 (by first | decide | omega)).trans (a8 389 1 (by first | decide | omega))) ((e3 hv2 389 2 (by first | decide | omega)).trans (a8 389 2 (by first | decide | omega))) ((e3 hv2 389 4 (by first | decide | omega)).trans (a8 389 4 (by first | decide | omega))) (fun c i h => (e3 hv2 c i (by unfold RSC at h; omega)).trans (a8 c i (by unfold RSC at h; omega))) (fun c i h => (e2 c i (Or.inl (by unfold CSC at h; omega))).trans (hB1 hz c i (csc_out hp h)))⟩
  have hLN : LN ty := by
    by_cases hz : x = 0
    · obtain ⟨-, -, -, -, w9, -⟩ := hR0 (by first | decide | omega)
      obtain ⟨l9, hl9, hC9, -, k12⟩ := hB0 hz
      obtain ⟨X9, Y9, B9, -, -, -, -, -, r9, -⟩ := w9
      obtain ⟨q9, S9, m9, N9, υ9, -, -, ⟨h39, -⟩, -, hRT9, -⟩ := hU2
      obtain ⟨hTN9, ko9, kd9⟩ := TN_of hRT9 h39
      exact ⟨l9, 0, υ9 0 0, υ9 1 0, υ9 4 0, hl9, (e2 0 12 (Or.inl (by first | decide | omega))).trans (hF.trans k12), ⟨ko9, kd9, hTN9.2.2.1⟩, by decide, (e2 l9 5 (Or.inl (by first | decide | omega))).trans hC9.2.2.2.1, r9, fun k hk => absurd hk (Nat.not_lt_zero k)⟩
    · have hv2 : v2 ≠ 0 := by omega
      refine LN_keep lL (fun c i h => ?_)
      by_cases c9 : c < 383
      · exact (e2 c i (Or.inl c9)).trans (hB1 hz c i (ln_out hp h c9))
      · exact (e3 hv2 c i (by first | decide | omega)).trans (a8 c i (by first | decide | omega))
  exact ⟨v, tx, .inl v2, ty, a1, r1, a2, rfl, a3, ⟨g2, E2, ⟨s1, a5, pi_far a5 a6 (fun c i h1 _ _ => e2 c i (Or.inl h1))⟩, ⟨0, S, by omega, (e2 1 0 (Or.inl (by first | decide | omega))).trans a7, k2, (fun i hi => absurd hi (Nat.not_lt_zero i)), (fun i hi => absurd hi (Nat.not_lt_zero i)), (fun w hw => (e2 388 w (by first | decide | omega)).trans ((a8 388 w (by first | decide | omega)).trans (l6 w hw))), hLN⟩, hU2, hM2⟩⟩
theorem pr_2 {i n : Nat} {t : en_H} (hI : pi_I i t) : ∃ x t1 t2, en_u 60 34 [gx_r 0] t n = some (some (.inl x), t1, n, 0) ∧ en_u 60 35 [gx_r 383] t1 n = some (some (.inl x), t2, n, 0) ∧ x < 2147483648 ∧ ai_HG ah_G t1 ∧ pi_I (i + 7) t2 := by
  obtain ⟨hG, hE, ⟨s, hS, hs⟩, hl, hU, hM⟩ := hI
  have h1 : ∃ v t' s', en_u 60 34 [gx_r 0] t n = some (some v, t', n, 0) ∧ en_cat v = 1 ∧ ai_HG ah_G t' ∧ ai_E t' ∧ pi_S s' ∧ ai_HO s' t' ∧ ai_hv t' 1 0 = some (.inl 0) ∧ (∀ c i, c = 2 ∨ c = 147 ∨ c = 180 ∨ c = 240 ∨ c = 306 ∨ 383 ≤ c → ai_hv t' c i = ai_hv t c i) ∧ pi_L t t' ∧ pi_N t t' := by
    rcases hS with rfl | rfl | rfl | rfl
    · exact pi_moveL (ac_all 60 34 ce_34_0 (show ce_34_0 ∈ cm_34 from List.mem_cons_self) (by decide)) (by decide +kernel) (by decide +kernel) (by decide +kernel) ⟨gx_vref 0, trivial⟩ hG hE hs
    · exact pi_moveL (ac_all 60 34 ce_34_1 (show ce_34_1 ∈ cm_34 from (List.mem_cons_of_mem _ List.mem_cons_self)) (by decide)) (by decide +kernel) (by decide +kernel) (by decide +kernel) ⟨gx_vref 0, trivial⟩ hG hE hs
    · exact pi_moveL (ac_all 60 34 ce_34_2 (show ce_34_2 ∈ cm_34 from (List.mem_cons_of_mem _ (List.mem_cons_of_mem _ List.mem_cons_self))) (by decide)) (by decide +kernel) (by decide +kernel) (by decide +kernel) ⟨gx_vref 0, trivial⟩ hG hE hs
    · exact pi_moveL (ac_all 60 34 ce_34_3 (show ce_34_3 ∈ cm_34 from (List.mem_cons_of_mem _ (List.mem_cons_of_mem _ (List.mem_cons_of_mem _ List.mem_cons_self)))) (by decide)) (by decide +kernel) (by decide +kernel) (by decide +kernel) ⟨gx_vref 0, trivial⟩ hG hE hs
  obtain ⟨v, t1, s1, a1, a2, a3, a4, a5, a6, a7, a8, a9, a9m⟩ := h1
  obtain ⟨len, S, l1, l2, l3, l4, l5, l6, lL⟩ := hl
  obtain ⟨_, r1, v2, t2, rfl, vb, g2, E2, k2, e2⟩ := pk_weeks 54 n a3 a4
  have e2a : ∀ c i, c < 383 ∨ c = 388 → ai_hv t2 c i = ai_hv t1 c i := fun c i h => e2 c i (by first | decide | omega)
  have hU9 := hU
  obtain ⟨q, S0, m0, N0, υ, hq, x10, ⟨h3, hc, hd, -⟩, -, hRT, t9, hCA, hCe⟩ := hU9
  have h2 : ∃ R R2, ((R = 323 ∧ R2 = 329) ∨ (R = 329 ∧ R2 = 323)) ∧ ai_hv t 0 12 = some (gx_r R2) ∧ (∀ c i, R2 ≤ c → c ≤ R2 + 5 → ai_hv t1 c i = ai_hv t c i) ∧ ∃ r, en_u 60 34 [gx_r 0] t n = some r ∧ ∃ v t', r = (some (.inl v), t', n, 0) ∧ v < 2147483648 ∧ ((v = 0 → ai_hv t' 0 12 = some (gx_r R)) ∧ (v ≠ 0 → ai_hv t' 0 12 = some (gx_r R2))) ∧ ∃ N, (∀ j, j < N → sp_st S len j < len) ∧ sp_st S len N = len ∧ ∃ nl ρ, Wx S len N (υ 0 0) (υ 1 0) (tcr S0 m0 υ S len) 1001 0 (fun _ => 0) (0, 0) (wr v nl ρ) ∧ (v = 0 → ai_hv t' R 5 = some (.inl nl) ∧ nl ≤ 24 ∧ ∀ k, k < nl → LCr S0 m0 υ S len N t' R k (ρ k)) := by
    obtain ⟨⟨ka0, ka1, -, -, ka4, -⟩, -, -, -, -, -, -, -, kb, -⟩ := hCA
    rcases hS with rfl | rfl | rfl | rfl
    · obtain ⟨w0, x0, y0⟩ := hs _ List.mem_cons_self
      obtain ⟨w2, x2, y2⟩ := hs _ (List.mem_cons_of_mem _ (List.mem_cons_of_mem _ List.mem_cons_self))
      obtain ⟨w3, x3, y3⟩ := hs _ (List.mem_cons_of_mem _ (List.mem_cons_of_mem _ (List.mem_cons_of_mem _ List.mem_cons_self)))
      rw [rh_one (c := 191) y0] at x0
      rw [rh_one (c := 323) y2] at x2
      rw [rh_one (c := 329) y3] at x3
      have eq : q = 191 := by
        have h9 : (gx_r q : en_V) = gx_r 191 := Option.some.inj (x10.symm.trans x0)
        exact Option.some.inj (Sum.inl.inj (Sum.inr.inj (Sum.inr.inj h9)))
      subst eq
      exact ⟨329, 323, Or.inr ⟨rfl, rfl⟩, x2, fun c i h7 h8 => pi_frm (as := [gx_r 0]) (ac_all 60 34 ce_34_0 (show ce_34_0 ∈ cm_34 from List.mem_cons_self) (by decide)) (by decide +kernel) ⟨gx_vref 0, trivial⟩ hG hE hs a1 c i (pi_nr_ok (by decide +kernel) h7 h8), pc_weeks191_329 53 n (m := len) hG x0 x2 x3 ((hCe _ _ (by first | decide | omega)).trans ka4) (fun i hi => (hCe _ _ (by first | decide | omega)).trans (kb i hi)) ((hCe _ _ (by first | decide | omega)).trans ka0) ((hCe _ _ (by first | decide | omega)).trans ka1) h3 hc l1 l2 (fun i hi => ⟨(l4 i hi).1, Nat.le_trans (l4 i hi).2 (by decide)⟩)⟩
    · obtain ⟨w0, x0, y0⟩ := hs _ List.mem_cons_self
      obtain ⟨w2, x2, y2⟩ := hs _ (List.mem_cons_of_mem _ (List.mem_cons_of_mem _ List.mem_cons_self))
      obtain ⟨w3, x3, y3⟩ := hs _ (List.mem_cons_of_mem _ (List.mem_cons_of_mem _ (List.mem_cons_of_mem _ List.mem_cons_self)))
      rw [rh_one (c := 191) y0] at x0
      rw [rh_one (c := 329) y2] at x2
      rw [rh_one (c := 323) y3] at x3
      have eq : q = 191 := by
        have h9 : (gx_r q : en_V) = gx_r 191 := Option.some.inj (x10.symm.trans x0)
        exact Option.some.inj (Sum.inl.inj (Sum.inr.inj (Sum.inr.inj h9)))
      subst eq
      exact ⟨323, 329, Or.inl ⟨rfl, rfl⟩, x2, fun c i h7 h8 => pi_frm (as := [gx_r 0]) (ac_all 60 34 ce_34_1 (show ce_34_1 ∈ cm_34 from (List.mem_cons_of_mem _ List.mem_cons_self)) (by decide)) (by decide +kernel) ⟨gx_vref 0, trivial⟩ hG hE hs a1 c i (pi_nr_ok (by decide +kernel) h7 h8), pc_weeks191_323 53 n (m := len) hG x0 x2 x3 ((hCe _ _ (by first | decide | omega)).trans ka4) (fun i hi => (hCe _ _ (by first | decide | omega)).trans (kb i hi)) ((hCe _ _ (by first | decide | omega)).trans ka0) ((hCe _ _ (by first | decide | omega)).trans ka1) h3 hc l1 l2 (fun i hi => ⟨(l4 i hi).1, Nat.le_trans (l4 i hi).2 (by decide)⟩)⟩
    · obtain ⟨w0, x0, y0⟩ := hs _ List.mem_cons_self
      obtain ⟨w2, x2, y2⟩ := hs _ (List.mem_cons_of_mem _ (List.mem_cons_of_mem _ List.mem_cons_self))
      obtain ⟨w3, x3, y3⟩ := hs _ (List.mem_cons_of_mem _ (List.mem_cons_of_mem _ (List.mem_cons_of_mem _ List.mem_cons_self)))
      rw [rh_one (c := 257) y0] at x0
      rw [rh_one (c := 323) y2] at x2
      rw [rh_one (c := 329) y3] at x3
      have eq : q = 257 := by
        have h9 : (gx_r q : en_V) = gx_r 257 := Option.some.inj (x10.symm.trans x0)
        exact Option.some.inj (Sum.inl.inj (Sum.inr.inj (Sum.inr.inj h9)))
      subst eq
      exact ⟨329, 323, Or.inr ⟨rfl, rfl⟩, x2, fun c i h7 h8 => pi_frm (as := [gx_r 0]) (ac_all 60 34 ce_34_2 (show ce_34_2 ∈ cm_34 from (List.mem_cons_of_mem _ (List.mem_cons_of_mem _ List.mem_cons_self))) (by decide)) (by decide +kernel) ⟨gx_vref 0, trivial⟩ hG hE hs a1 c i (pi_nr_ok (by decide +kernel) h7 h8), pc_weeks257_329 53 n (m := len) hG x0 x2 x3 ((hCe _ _ (by first | decide | omega)).trans ka4) (fun i hi => (hCe _ _ (by first | decide | omega)).trans (kb i hi)) ((hCe _ _ (by first | decide | omega)).trans ka0) ((hCe _ _ (by first | decide | omega)).trans ka1) h3 hc l1 l2 (fun i hi => ⟨(l4 i hi).1, Nat.le_trans (l4 i hi).2 (by decide)⟩)⟩
    · obtain ⟨w0, x0, y0⟩ := hs _ List.mem_cons_self
      obtain ⟨w2, x2, y2⟩ := hs _ (List.mem_cons_of_mem _ (List.mem_cons_of_mem _ List.mem_cons_self))
      obtain ⟨w3, x3, y3⟩ := hs _ (List.mem_cons_of_mem _ (List.mem_cons_of_mem _ (List.mem_cons_of_mem _ List.mem_cons_self)))
      rw [rh_one (c := 257) y0] at x0
      rw [rh_one (c := 329) y2] at x2
      rw [rh_one (c := 323) y3] at x3
      have eq : q = 257 := by
        have h9 : (gx_r q : en_V) = gx_r 257 := Option.some.inj (x10.symm.trans x0)
        exact Option.some.inj (Sum.inl.inj (Sum.inr.inj (Sum.inr.inj h9)))
      subst eq
      exact ⟨323, 329, Or.inl ⟨rfl, rfl⟩, x2, fun c i h7 h8 => pi_frm (as := [gx_r 0]) (ac_all 60 34 ce_34_3 (show ce_34_3 ∈ cm_34 from (List.mem_cons_of_mem _ (List.mem_cons_of_mem _ (List.mem_cons_of_mem _ List.mem_cons_self)))) (by decide)) (by decide +kernel) ⟨gx_vref 0, trivial⟩ hG hE hs a1 c i (pi_nr_ok (by decide +kernel) h7 h8), pc_weeks257_323 53 n (m := len) hG x0 x2 x3 ((hCe _ _ (by first | decide | omega)).trans ka4) (fun i hi => (hCe _ _ (by first | decide | omega)).trans (kb i hi)) ((hCe _ _ (by first | decide | omega)).trans ka0) ((hCe _ _ (by first | decide | omega)).trans ka1) h3 hc l1 l2 (fun i hi => ⟨(l4 i hi).1, Nat.le_trans (l4 i hi).2 (by decide)⟩)⟩
  obtain ⟨R, R2, hRR, k12, hFr, _, c1, x, tx, rfl, hx, ⟨kz0, kz1⟩, N, hN1, hN2, nl, ρ, hWk, hrc⟩ := h2
  have hRT1 : RT t1 S0 m0 υ := RT_keep hRT (fun c i h => a8 c i (by first | decide | omega))
  obtain ⟨hTN, ko, kd⟩ := TN_of hRT1 h3
  obtain ⟨_, c2, y, ty, rfl, N', hM1, hM2, nl', ρ', hWk', hrr1, hrr0⟩ := pe_weeks 54 n (t0 := t1) (S := S) (m := len) a3 l1 ((a8 383 2 (by first | decide | omega)).trans l3) (fun i hi => ⟨(a8 384 i (by first | decide | omega)).trans (l5 i hi).1, Nat.le_trans (l5 i hi).2 (by decide)⟩) (fun w hw => (a8 388 w (by first | decide | omega)).trans (l6 w hw)) hTN h3 hc ko kd
  have eN := sp_N_one hN1 hN2 hM1 hM2
  subst eN
  have ewr := Wx_det 1001 1001 _ _ _ _ _ hWk hWk'
  have exy := wr_1 ewr
  have f3 := Option.some.inj (a1.symm.trans c1)
  have f4 := Option.some.inj (r1.symm.trans c2)
  have e5 : v = .inl x := Option.some.inj (congrArg (fun z => z.1) f3)
  have e6 : (Sum.inl v2 : en_V) = .inl y := Option.some.inj (congrArg (fun z => z.1) f4)
  have e7 : v2 = x := (Sum.inl.inj e6).trans exy.symm
  have e8 : tx = t1 := (congrArg (fun z => z.2.1) f3).symm
  have e9 : ty = t2 := (congrArg (fun z => z.2.1) f4).symm
  subst e5
  subst e7
  subst e8
  subst e9
  have hLN : LN ty := by
    by_cases hz : v2 = 0
    · subst hz
      subst exy
      obtain ⟨rfl, rfl⟩ := wr_2 ewr
      obtain ⟨r1', r2', r3'⟩ := hrc rfl
      obtain ⟨g1', g2', g3'⟩ := hrr0 rfl
      exact ⟨R, nl, υ 0 0, υ 1 0, υ 4 0, by omega, (e2a 0 12 (by first | decide | omega)).trans (kz0 rfl), ⟨(e2 389 0 (by first | decide | omega)).trans ko, (e2 389 1 (by first | decide | omega)).trans kd, (e2 389 4 (by first | decide | omega)).trans hTN.2.2.1⟩, r2', (e2a R 5 (by first | decide | omega)).trans r1', g2', fun k hk => LK_of h3 hc hd (LCr_mv (r3' k hk) (fun c h7 h8 => e2a c k (by first | decide | omega))) (g3' k hk)⟩
    · refine LN_keepR lL k12 (fun c i h => ?_)
      by_cases c9 : c < 383
      · refine (e2a c i (Or.inl c9)).trans ?_
        by_cases c8 : c = 0
        · subst c8
          obtain rfl : i = 12 := by omega
          exact (kz1 hz).trans k12.symm
        · exact hFr c i (by first | decide | omega) (by first | decide | omega)
      · by_cases c8 : c = 396
        · subst c8
          exact (hrr1 (by first | decide | omega) i (by first | decide | omega)).trans (a8 396 i (by first | decide | omega))
        · exact (e2 c i (by first | decide | omega)).trans (a8 c i (by first | decide | omega))
  exact ⟨v2, tx, ty, a1, r1, hx, a3, ⟨g2, E2, ⟨s1, a5, pi_far a5 a6 (fun c i h1 _ _ => e2a c i (Or.inl h1))⟩, ⟨0, S, by omega, (e2a 1 0 (Or.inl (by first | decide | omega))).trans a7, k2, (fun i hi => absurd hi (Nat.not_lt_zero i)), (fun i hi => absurd hi (Nat.not_lt_zero i)), (fun w hw => (e2a 388 w (by first | decide | omega)).trans ((a8 388 w (by first | decide | omega)).trans (l6 w hw))), hLN⟩, pi_U_keep (pi_U_keep hU a9) (fun c i hc => e2 c i (by unfold pi_LC at hc; omega)), pi_M_mono (pi_M_keep (pi_M_keep hM a9m) ⟨fun c i h => e2 c i (by unfold pi_VX at h; omega), fun c i h => e2 c i (by unfold pi_VZ RSC CSC at h; omega)⟩) (by first | decide | omega)⟩⟩
theorem pr_0 {i n u v w : Nat} {t : en_H} (hI : pi_I i t) : ∃ x t1 t2, en_u 60 30 [gx_r 0, .inr (.inl u), .inr (.inl v), .inr (.inl w)] t n = some (some (.inl x), t1, n, 0) ∧ en_u 60 31 [gx_r 383, .inr (.inl u), .inr (.inl v), .inr (.inl w)] t1 n = some (some (.inl x), t2, n, 0) ∧ x ≤ 1000 ∧ ai_HG ah_G t1 ∧ pi_I (i + 7) t2 := by
  obtain ⟨hG, hE, ⟨s, hS, hs⟩, ⟨len, S, hl, k1, k2, p1, p2, p3, pL⟩, hU, hM⟩ := hI
  obtain ⟨_, r1, t1, rfl, g1, j1, q1, e1⟩ := pq_feedC 58 n (u := u) (v := v) (w := w) hG hl k1 p1
  have E1 : ai_E t1 := ai_E_kept hE (fun c i hz => e1 c i (fun z => by
    rcases z with z | z
    · rw [z.1] at hz; exact absurd hz (by decide)
    · rw [z] at hz; exact absurd hz (by decide)))
  have s1 := pi_far hS hs (fun c i h1 h2 h3 => e1 c i (by first | decide | omega))
  obtain ⟨_, r2, t2, rfl, g2, j2, q2, e2⟩ := pq_feedM 58 n (u := u) (v := v) (w := w) (len := len) g1 hl ((e1 383 2 (by first | decide | omega)).trans k2) (tp_keep p2 (fun i => e1 384 i (by first | decide | omega)))
  have E2 : ai_E t2 := ai_E_kept E1 (fun c i hz => e2 c i (fun z => by
    rcases z with z | z
    · rw [z.1] at hz; exact absurd hz (by decide)
    · rw [z] at hz; exact absurd hz (by decide)))
  have l3 := fdv_le w (fdv_le v (fdv_le u hl))
  exact ⟨_, t1, t2, r1, r2, l3, g1, g2, E2, ⟨s, hS, pi_far hS s1 (fun c i h1 h2 h3 => e2 c i (by first | decide | omega))⟩, ⟨_, _, l3, (e2 1 0 (by first | decide | omega)).trans j1, j2, tp_keep q1 (fun i => e2 2 i (by first | decide | omega)), q2, (fun w hw => (e2 388 w (by first | decide | omega)).trans ((e1 388 w (by first | decide | omega)).trans (p3 w hw))), LN_keep (LN_keep pL (fun c i h => e1 c i (by first | decide | omega))) (fun c i h => e2 c i (by first | decide | omega))⟩, pi_U_keep (pi_U_keep hU (fun c i h => e1 c i (by unfold pi_LC at h; omega))) (fun c i h => e2 c i (by unfold pi_LC at h; omega)), pi_M_mono (pi_M_keep (pi_M_keep hM ⟨fun c i h => e1 c i (by unfold pi_VX at h; omega), fun c i h => e1 c i (by unfold pi_VZ RSC CSC at h; omega)⟩) ⟨fun c i h => e2 c i (by unfold pi_VX at h; omega), fun c i h => e2 c i (by unfold pi_VZ RSC CSC at h; omega)⟩) (by first | decide | omega)⟩
noncomputable def pi_int (outs : List (Option ai_v × ai_O)) : Bool := ai_all (fun o => match o.1 with
  | some (.inl _) => true
  | _ => false) outs
theorem pi_int_ok {outs : List (Option ai_v × ai_O)} {o : Option ai_v × ai_O} {v : Option en_V} (h : pi_int outs = true) (ho : o ∈ outs) (hr : ai_ro (fun _ => 0) o.1 v) : ∃ m, v = some (.inl m) := by
  have h1 := ai_all_ok h o ho
  split at h1
  · rename_i a ha
    rw [ha] at hr
    cases v with
    | none => exact absurd hr (fun h => h)
    | some w =>
      obtain ⟨m, rfl, -⟩ := hr
      exact ⟨m, rfl⟩
  · cases h1
theorem pi_ref {i : Nat} {f : en_F} {mir : Nat} {cR : ai_C} {asR : List en_V} {t : en_H} {n : Nat} (hR : ai_cok ah_G f mir cR) (hk0 : pi_kp cR pi_s00 = true) (hk1 : pi_kp cR pi_s01 = true) (hk2 : pi_kp cR pi_s10 = true) (hk3 : pi_kp cR pi_s11 = true) (hcR : pi_int cR.2.2.2.2 = true) (hm : pi_nm cR.2.2.2.1 = true) (haR : ai_rvs (fun _ => 0) cR.2.1 asR) (hI : pi_I i t) : ∃ v t', f mir asR t n = some (some (.inl v), t', n, 0) ∧ ai_HG ah_G t' ∧ pi_I (i + 7) t' := by
  obtain ⟨hG, hE, ⟨s, hS, hs⟩, hl⟩ := hI
  have hk : pi_kp cR s = true := by rcases hS with rfl | rfl | rfl | rfl <;> assumption
  obtain ⟨v2, t2, d1, d2, d3, d4, d5, d6, d7, o2, b3, b4⟩ := pi_step (n := n) hR hk haR hG hE hs
  obtain ⟨m, rfl⟩ := pi_int_ok hcR b3 b4
  exact ⟨m, t2, d1, d2, d2, d3, ⟨s, hS, d4⟩, pi_T_keep hl.1 d5, pi_U_keep hl.2.1 d6, pi_M_mono (pi_M_keep hl.2.2 (pi_N_of hm d7)) (by first | decide | omega)⟩
theorem rr_5 {i n x y : Nat} {t : en_H} (hx : x < 4294967296) (hy : y < 4294967296) (hI : pi_I i t) : ∃ v t', en_u 60 40 [gx_r 383, .inl x, .inl y] t n = some (some (.inl v), t', n, 0) ∧ ai_HG ah_G t' ∧ pi_I (i + 7) t' :=
  pi_ref (ar_all ar_hands 60 40 re_40_0 (show re_40_0 ∈ rm_40 from List.mem_cons_self) (by decide)) (by decide +kernel) (by decide +kernel) (by decide +kernel) (by decide +kernel) (by decide +kernel) (by decide +kernel) ⟨gx_vref 383, pi_iv hx, pi_iv hy, trivial⟩ hI
theorem rr_6 {i n x y : Nat} {t : en_H} (hx : x < 4294967296) (hy : y < 4294967296) (hI : pi_I i t) : ∃ v t', en_u 60 41 [gx_r 383, .inl x, .inl y] t n = some (some (.inl v), t', n, 0) ∧ ai_HG ah_G t' ∧ pi_I (i + 7) t' :=
  pi_ref (ar_all ar_hands 60 41 re_41_0 (show re_41_0 ∈ rm_41 from List.mem_cons_self) (by decide)) (by decide +kernel) (by decide +kernel) (by decide +kernel) (by decide +kernel) (by decide +kernel) (by decide +kernel) ⟨gx_vref 383, pi_iv hx, pi_iv hy, trivial⟩ hI
theorem rr_21 {i n : Nat} {t : en_H} (hI : pi_I i t) : ∃ v t', en_u 60 70 [gx_r 383] t n = some (some (.inl v), t', n, 0) ∧ ai_HG ah_G t' ∧ pi_I (i + 7) t' :=
  pi_ref (ar_all ar_hands 60 70 re_70_0 (show re_70_0 ∈ rm_70 from List.mem_cons_self) (by decide)) (by decide +kernel) (by decide +kernel) (by decide +kernel) (by decide +kernel) (by decide +kernel) (by decide +kernel) ⟨gx_vref 383, trivial⟩ hI
theorem pi_gaps {t : en_H} (hG : ai_HG ah_G t) (hU : pi_U t) : ∃ (q K : Nat) (O N : Nat → Nat), (q = 191 ∨ q = 257) ∧ ai_hv t 0 10 = some (gx_r q) ∧ K ≤ 5 ∧ ai_hv t (q + 21) 5 = some (.inl K) ∧ (∀ g, g < K → ai_hv t (q + 23) g = some (.inl (O g))) ∧ (∀ g, g < K → O g ≤ 10) ∧ (∀ g, g < K → ai_hv t (q + 24) g = some (.inl (N g))) ∧ (∀ g, g < K → N g ≤ 10) ∧ ai_hv t 389 6 = some (.inl K) ∧ (∀ g, g < K → ai_hv t 389 (124 + 2 * g) = some (.inl (O g))) ∧ (∀ g, g < K → ai_hv t 389 (125 + 2 * g) = some (.inl (N g))) := by
  obtain ⟨q, S0, m0, N0, υ, hq, x10, ⟨h3, -, -⟩, -, ⟨⟨t1, hRA, hR⟩, -, -⟩, t9, hCA, hCe⟩ := hU
  have hB := h3.1.1
  obtain ⟨⟨-, -, -, -, -, ka5, -⟩, -, -, -, -, -, -, -, -, -, -, -, -, -, gO, gN, -⟩ := hCA
  obtain ⟨⟨-, -, -, -, -, rb5, -⟩, -, -, -, -, -, -, -, -, -, -, -, -, rO, rN, -⟩ := hRA
  have hb : ∀ g, g < υ 5 0 → sp_nv S0 m0 (υ 17 g + 2) ≤ 10 ∧ sp_nv S0 m0 (υ 17 g + 4) ≤ 10 := fun g hg => by
    have e1 := (hCe _ _ (by first | decide | omega)).trans (gO g hg)
    have e2 := (hCe _ _ (by first | decide | omega)).trans (gN g hg)
    rcases hq with rfl | rfl
    · obtain ⟨m1, k1, -, b1⟩ := gx_inb (c := 214) (i := g) (lo := 0) (hi := 10) hG rfl (show g < 5 by omega) (gx_run1 (show g < 5 by omega)) (by decide) (by decide) rfl
      obtain ⟨m2, k2, -, b2⟩ := gx_inb (c := 215) (i := g) (lo := 0) (hi := 10) hG rfl (show g < 5 by omega) (gx_run1 (show g < 5 by omega)) (by decide) (by decide) rfl
      have e3 := Sum.inl.inj (Option.some.inj (e1.symm.trans k1))
      have e4 := Sum.inl.inj (Option.some.inj (e2.symm.trans k2))
      omega
    · obtain ⟨m1, k1, -, b1⟩ := gx_inb (c := 280) (i := g) (lo := 0) (hi := 10) hG rfl (show g < 5 by omega) (gx_run1 (show g < 5 by omega)) (by decide) (by decide) rfl
      obtain ⟨m2, k2, -, b2⟩ := gx_inb (c := 281) (i := g) (lo := 0) (hi := 10) hG rfl (show g < 5 by omega) (gx_run1 (show g < 5 by omega)) (by decide) (by decide) rfl
      have e3 := Sum.inl.inj (Option.some.inj (e1.symm.trans k1))
      have e4 := Sum.inl.inj (Option.some.inj (e2.symm.trans k2))
      omega
  refine ⟨q, υ 5 0, fun g => sp_nv S0 m0 (υ 17 g + 2), fun g => sp_nv S0 m0 (υ 17 g + 4), hq, x10, by omega, (hCe _ _ (by first | decide | omega)).trans ka5, fun g hg => (hCe _ _ (by first | decide | omega)).trans (gO g hg), fun g hg => (hb g hg).1, fun g hg => (hCe _ _ (by first | decide | omega)).trans (gN g hg), fun g hg => (hb g hg).2, (hR 6 (by first | decide | omega)).trans rb5, fun g hg => ?_, fun g hg => ?_⟩
  · refine (hR _ (by first | decide | omega)).trans ?_
    rw [show 160 + (124 + 2 * g) = 284 + 2 * g by omega]
    exact rO g hg
  · refine (hR _ (by first | decide | omega)).trans ?_
    rw [show 160 + (125 + 2 * g) = 285 + 2 * g by omega]
    exact rN g hg
theorem pr_22 {i n x y : Nat} {t : en_H} (hx : x < 4294967296) (hy : y < 4294967296) (hI : pi_I i t) : ∃ v t1 t2, en_u 60 71 [gx_r 0, .inl x, .inl y] t n = some (some (.inl v), t1, n, 0) ∧ en_u 60 72 [gx_r 383, .inl x, .inl y] t1 n = some (some (.inl v), t2, n, 0) ∧ ai_HG ah_G t1 ∧ pi_I (i + 7) t2 := by
  obtain ⟨v1, t1, v2, t2, a1, a2, z1, z2, g1, hI2, hL1⟩ := pr_22a (n := n) hx hy hI
  obtain ⟨hG, hE, ⟨s, hS, hs⟩, hl, hU, hM⟩ := hI
  obtain ⟨q, K, O, N, hq, x10, hK, kK, kO, hO, kN, hN, rK, rO, rN⟩ := pi_gaps hG hU
  have hC : ∃ r, en_u 60 71 [gx_r 0, .inl x, .inl y] t n = some r ∧ ∃ v t', r = (some (.inl v), t', n, 0) ∧ (∀ c i, c ≠ 145 → ai_hv t' c i = ai_hv t c i) ∧ ((x ≤ K ∧ y ≤ 40 → v = gR O N K (K - x) y 3) ∧ (¬ (x ≤ K ∧ y ≤ 40) → v = 4294967295)) := by
    rcases hq with rfl | rfl
    · exact pc_through191 53 n hG hx hy x10 kK hK kO hO kN hN
    · exact pc_through257 53 n hG hx hy x10 kK hK kO hO kN hN
  obtain ⟨_, c1, v, tc, rfl, ec, w1, w2⟩ := hC
  have e1 := Option.some.inj (a1.symm.trans c1)
  have e2 : v1 = .inl v := Option.some.inj (congrArg (fun z => z.1) e1)
  have e3 : tc = t1 := (congrArg (fun z => z.2.1) e1).symm
  subst e3
  subst e2
  have f0 : ∀ i, ai_hv tc 389 i = ai_hv t 389 i := fun i => ec _ _ (by decide)
  obtain ⟨_, d1, v', td, rfl, w3, w4⟩ := pe_through 55 n (t0 := tc) (K := K) (O := O) (N := N) g1 hx hy ((f0 _).trans rK) hK (fun g h => (f0 _).trans (rO g h)) hO (fun g h => (f0 _).trans (rN g h)) hN
  have e4 := Option.some.inj (a2.symm.trans d1)
  have e5 : v2 = .inl v' := Option.some.inj (congrArg (fun z => z.1) e4)
  subst e5
  have e6 : v' = v := by
    by_cases h : x ≤ K ∧ y ≤ 40
    · rw [w1 h, w3 h]
    · rw [w2 h, w4 h]
  subst e6
  exact ⟨v', tc, t2, a1, a2, g1, hI2⟩
theorem pr_23 {i n x y z : Nat} {t : en_H} (hx : x < 4294967296) (hy : y < 4294967296) (hz : z < 4294967296) (hI : pi_I i t) : ∃ v t1 t2, en_u 60 73 [gx_r 0, .inl x, .inl y, .inl z] t n = some (some (.inl v), t1, n, 0) ∧ en_u 60 74 [gx_r 383, .inl x, .inl y, .inl z] t1 n = some (some (.inl v), t2, n, 0) ∧ ai_HG ah_G t1 ∧ pi_I (i + 7) t2 := by
  obtain ⟨v1, t1, v2, t2, a1, a2, z1, z2, g1, hI2, hL1⟩ := pr_23a (n := n) hx hy hz hI
  obtain ⟨hG, hE, ⟨s, hS, hs⟩, hl, hU, hM⟩ := hI
  obtain ⟨q, K, O, N, hq, x10, hK, kK, kO, hO, kN, hN, rK, rO, rN⟩ := pi_gaps hG hU
  have hC : ∃ r, en_u 60 73 [gx_r 0, .inl x, .inl y, .inl z] t n = some r ∧ ∃ v t', r = (some (.inl v), t', n, 0) ∧ (∀ c i, c ≠ 145 → ai_hv t' c i = ai_hv t c i) ∧ ((x < K ∧ y ≤ 2 ∧ z ≤ 40 → v = if gR O N K (K - x) z y ≤ gG (N x) y (gR O N K (K - (x + 1)) z 3) then 1 else 0) ∧ (¬ (x < K ∧ y ≤ 2 ∧ z ≤ 40) → v = 4294967295)) := by
    rcases hq with rfl | rfl
    · exact pc_now191 53 n hG hx hy hz x10 kK hK kO hO kN hN
    · exact pc_now257 53 n hG hx hy hz x10 kK hK kO hO kN hN
  obtain ⟨_, c1, v, tc, rfl, ec, w1, w2⟩ := hC
  have e1 := Option.some.inj (a1.symm.trans c1)
  have e2 : v1 = .inl v := Option.some.inj (congrArg (fun z => z.1) e1)
  have e3 : tc = t1 := (congrArg (fun z => z.2.1) e1).symm
  subst e3
  subst e2
  have f0 : ∀ i, ai_hv tc 389 i = ai_hv t 389 i := fun i => ec _ _ (by decide)
  obtain ⟨_, d1, v', td, rfl, w3, w4⟩ := pe_now 55 n (t0 := tc) (K := K) (O := O) (N := N) g1 hx hy hz ((f0 _).trans rK) hK (fun g h => (f0 _).trans (rO g h)) hO (fun g h => (f0 _).trans (rN g h)) hN
  have e4 := Option.some.inj (a2.symm.trans d1)
  have e5 : v2 = .inl v' := Option.some.inj (congrArg (fun z => z.1) e4)
  subst e5
  have e6 : v' = v := by
    by_cases h : x < K ∧ y ≤ 2 ∧ z ≤ 40
    · rw [w1 h, w3 h]
    · rw [w2 h, w4 h]
  subst e6
  exact ⟨v', tc, t2, a1, a2, g1, hI2⟩
theorem pr_3 {i n x y : Nat} {t : en_H} (hx : x < 4294967296) (hy : y < 4294967296) (hI : pi_I i t) : ∃ v t1 t2, en_u 60 36 [gx_r 0, .inl x, .inl y] t n = some (some (.inl v), t1, n, 0) ∧ en_u 60 37 [gx_r 383, .inl x, .inl y] t1 n = some (some (.inl v), t2, n, 0) ∧ ai_HG ah_G t1 ∧ pi_I (i + 7) t2 := by
  obtain ⟨v1, t1, v2, t2, a1, a2, z1, z2, g1, hI2, hL1⟩ := pr_3a (n := n) hx hy hI
  obtain ⟨hG, hE, -, -, hU, -⟩ := hI
  obtain ⟨q, S0, m0, N0, υ, hq, k1, ⟨h3, -, -⟩, k9, ⟨⟨tr, hRA, hR⟩, -, -⟩, tq, hCA, hCe⟩ := hU
  have k8 := h3.1.1
  obtain ⟨⟨ka0, ka1, -⟩, -, -, -, -, -, -, -, -, -, -, -, -, -, -, -, -, -, -, -, kF⟩ := hCA
  obtain ⟨⟨kb0, kb1, -⟩, -, -, -, -, -, -, -, -, -, -, -, -, -, -, -, -, -, -, kG⟩ := hRA
  have kg : ∀ j, j < 64 → ai_hv t 389 (12 + j) = some (.inl (υ 23 j)) := fun j hj => by
    have h9 := kG j hj
    rw [Nat.one_mul] at h9
    exact (hR (12 + j) (by first | decide | omega)).trans (by rw [show 160 + (12 + j) = 172 + j by omega]; exact h9)
  have hC : ∃ r, en_u 60 36 [gx_r 0, .inl x, .inl y] t n = some r ∧ ∃ v t', r = (some (.inl v), t', n, 0) ∧ (∀ c i, ¬ (c = 383 ∧ i = 0) → ai_hv t' c i = ai_hv t c i) ∧ ((x < υ 0 0 ∧ y < υ 1 0 → v = υ 23 (8 * y + x)) ∧ (¬ (x < υ 0 0 ∧ y < υ 1 0) → v = 4294967295)) := by
    rcases hq with rfl | rfl
    · exact pc_flow191 58 n hG k1 ((hCe _ _ (by first | decide | omega)).trans ka0) ((hCe _ _ (by first | decide | omega)).trans ka1) (fun j hj => (hCe _ _ (by first | decide | omega)).trans (kF j hj)) hx hy (by first | decide | omega) (by first | decide | omega)
    · exact pc_flow257 58 n hG k1 ((hCe _ _ (by first | decide | omega)).trans ka0) ((hCe _ _ (by first | decide | omega)).trans ka1) (fun j hj => (hCe _ _ (by first | decide | omega)).trans (kF j hj)) hx hy (by first | decide | omega) (by first | decide | omega)
  obtain ⟨_, c1, v, tc, rfl, ec, w1, w2⟩ := hC
  have e1 := Option.some.inj (a1.symm.trans c1)
  have e2 : v1 = .inl v := Option.some.inj (congrArg (fun z => z.1) e1)
  have e3 : tc = t1 := (congrArg (fun z => z.2.1) e1).symm
  subst e3
  subst e2
  obtain ⟨_, d1, v', td, rfl, ed, w3, w4⟩ := pe_flow 58 n (t0 := tc) (x := x) (y := y) (o := υ 0 0) (e := υ 1 0) (F := υ 23) g1 ((ec 389 0 (by first | decide | omega)).trans ((hR 0 (by first | decide | omega)).trans kb0)) ((ec 389 1 (by first | decide | omega)).trans ((hR 1 (by first | decide | omega)).trans kb1)) (fun j hj => (ec 389 (12 + j) (by first | decide | omega)).trans (kg j hj)) hx hy (by first | decide | omega) (by first | decide | omega)
  have e4 := Option.some.inj (a2.symm.trans d1)
  have e5 : v2 = .inl v' := Option.some.inj (congrArg (fun z => z.1) e4)
  subst e5
  have e6 : v' = v := by
    by_cases h : x < υ 0 0 ∧ y < υ 1 0
    · rw [w1 h, w3 h]
    · rw [w2 h, w4 h]
  subst e6
  exact ⟨v', tc, t2, a1, a2, g1, hI2⟩
theorem pr_24 {i n x y : Nat} {t : en_H} (hx : x < 4294967296) (hy : y < 4294967296) (hI : pi_I i t) : ∃ v t1 t2, en_u 60 75 [gx_r 0, .inl x, .inl y] t n = some (some (.inl v), t1, n, 0) ∧ en_u 60 76 [gx_r 383, .inl x, .inl y] t1 n = some (some (.inl v), t2, n, 0) ∧ ai_HG ah_G t1 ∧ pi_I (i + 7) t2 := by
  obtain ⟨v1, t1, v2, t2, a1, a2, z1, z2, g1, hI2, hL1⟩ := pr_24a (n := n) hx hy hI
  obtain ⟨hG, hE, -, -, hU, -⟩ := hI
  have hL2 : ∀ c i, (c = 389 ∧ i < 160) ∨ ((c = 390 ∨ c = 391) ∧ i < 1000) → ai_hv t1 c i = ai_hv t c i := fun c i h => hL1 c i (by unfold pi_LC; omega)
  obtain ⟨q, S0, m0, N0, υ, hq, x10, -, ⟨-, hP, hCR, -⟩, -⟩ := hU
  obtain ⟨L, hR, ⟨hs, hc⟩, hlen, hvo, hrn⟩ := hP 1 (by first | decide | omega)
  have hc' : ∀ LC, LC = q + 42 → cco t LC 0 L := fun LC e => cco_of (fun j hj => by
    have h9 := hc j hj
    rw [Nat.zero_add, e]
    exact h9)
  have hC : ∃ r, en_u 60 75 [gx_r 0, .inl x, .inl y] t n = some r ∧ ∃ v t', r = (some (.inl v), t', n, 0) ∧ (¬ (1 ≤ x ∧ x ≤ 30 ∧ y ≤ 1) → v = 4294967295) ∧ (1 ≤ x ∧ x ≤ 30 ∧ y ≤ 1 → v = lostv (wlo L) x y) := by
    rcases hq with rfl | rfl
    · exact pc_lost191 56 n hG hx hy hCR x10 hs hlen (hc' 233 rfl) (fun z hz => ⟨_, hvo z hz⟩) hrn
    · exact pc_lost257 56 n hG hx hy hCR x10 hs hlen (hc' 299 rfl) (fun z hz => ⟨_, hvo z hz⟩) hrn
  obtain ⟨_, c1, v, tc, rfl, w1, w2⟩ := hC
  have e1 := Option.some.inj (a1.symm.trans c1)
  have e2 : v1 = .inl v := Option.some.inj (congrArg (fun z => z.1) e1)
  have e3 : tc = t1 := (congrArg (fun z => z.2.1) e1).symm
  subst e3
  subst e2
  have hRb : RLL tc 1 8 L := by
    rcases hR with ⟨h1, h4⟩ | ⟨z, h1, h4, h5, h6⟩
    · exact Or.inl ⟨(hL2 _ _ (Or.inl ⟨rfl, by omega⟩)).trans h1, h4⟩
    · exact Or.inr ⟨z, (hL2 _ _ (Or.inl ⟨rfl, by omega⟩)).trans h1, h4, rco_keepb (fun c i hc hi => hL2 c i (Or.inr ⟨hc, hi⟩)) (by first | decide | omega) h5, h6⟩
  obtain ⟨_, d1, v', td, rfl, w3, w4⟩ := pe_lost 53 n g1 hx hy hRb
  have e4 := Option.some.inj (a2.symm.trans d1)
  have e5 : v2 = .inl v' := Option.some.inj (congrArg (fun z => z.1) e4)
  subst e5
  have e6 : v' = v := by
    by_cases h : 1 ≤ x ∧ x ≤ 30 ∧ y ≤ 1
    · rw [w2 h, w4 h]
    · rw [w1 h, w3 h]
  subst e6
  exact ⟨v', tc, t2, a1, a2, g1, hI2⟩
theorem pr_28 {i n x y : Nat} {t : en_H} (hx : x < 4294967296) (hy : y ≤ 1) (hI : pi_I i t) (hi : i ≤ 4000) : pi_P1 i 83 84 [gx_r 0, .inl x, .inl y] [gx_r 383, .inl x, .inl y] t n := by
  obtain ⟨hG, hE, ⟨s, hS, hs⟩, hl⟩ := hI
  have hR : ai_cok ah_G (en_u 60) 84 re_84_0.2.1 := ar_all ar_hands 60 84 re_84_0 (show re_84_0 ∈ rm_84 from List.mem_cons_self) (by decide)
  have hz9 : zs_P 83 84 [gx_r 0, .inl x, .inl y] [gx_r 383, .inl x, .inl y] (5 * i + 30) t n := by
    rcases pi_SP hG hE hl.2.1 hl.2.2.1 with P | P
    · exact zs_mark191 hG hE P hl.2.2.2 (by first | decide | omega) hx hy
    · exact zs_mark257 hG hE P hl.2.2.2 (by first | decide | omega) hx hy
  rcases hS with rfl | rfl | rfl | rfl
  · exact pi_pairS (Or.inl rfl) (ac_all 60 83 ce_83_0 (show ce_83_0 ∈ cm_83 from List.mem_cons_self) (by decide)) (by decide +kernel) ⟨gx_vref 0, pi_iv hx, gx_vi (lo := 0) (hi := 1) (Nat.zero_le _) hy (by decide), trivial⟩ hR (by decide +kernel) ⟨gx_vref 383, pi_iv hx, gx_vi (lo := 0) (hi := 1) (Nat.zero_le _) hy (by decide), trivial⟩ (by decide +kernel) hG hE hs hl hz9
  · exact pi_pairS (Or.inr (Or.inl rfl)) (ac_all 60 83 ce_83_0 (show ce_83_0 ∈ cm_83 from List.mem_cons_self) (by decide)) (by decide +kernel) ⟨gx_vref 0, pi_iv hx, gx_vi (lo := 0) (hi := 1) (Nat.zero_le _) hy (by decide), trivial⟩ hR (by decide +kernel) ⟨gx_vref 383, pi_iv hx, gx_vi (lo := 0) (hi := 1) (Nat.zero_le _) hy (by decide), trivial⟩ (by decide +kernel) hG hE hs hl hz9
  · exact pi_pairS (Or.inr (Or.inr (Or.inl rfl))) (ac_all 60 83 ce_83_0 (show ce_83_0 ∈ cm_83 from List.mem_cons_self) (by decide)) (by decide +kernel) ⟨gx_vref 0, pi_iv hx, gx_vi (lo := 0) (hi := 1) (Nat.zero_le _) hy (by decide), trivial⟩ hR (by decide +kernel) ⟨gx_vref 383, pi_iv hx, gx_vi (lo := 0) (hi := 1) (Nat.zero_le _) hy (by decide), trivial⟩ (by decide +kernel) hG hE hs hl hz9
  · exact pi_pairS (Or.inr (Or.inr (Or.inr rfl))) (ac_all 60 83 ce_83_0 (show ce_83_0 ∈ cm_83 from List.mem_cons_self) (by decide)) (by decide +kernel) ⟨gx_vref 0, pi_iv hx, gx_vi (lo := 0) (hi := 1) (Nat.zero_le _) hy (by decide), trivial⟩ hR (by decide +kernel) ⟨gx_vref 383, pi_iv hx, gx_vi (lo := 0) (hi := 1) (Nat.zero_le _) hy (by decide), trivial⟩ (by decide +kernel) hG hE hs hl hz9
theorem pi_P1_of {i mc mr : Nat} {ac ar : List en_V} {t : en_H} {n : Nat} (h : pi_P2 i (en_u 60) 1 mc mr ac ar t n) (hz : zs_A mc mr ac ar t n) : pi_P1 i mc mr ac ar t n := by
  obtain ⟨v1, t1, v2, t2, a1, a2, -, -, g1, hI⟩ := h
  obtain ⟨z, s1, s2, b1, b2⟩ := hz
  have e2 : t1 = s1 := congrArg (fun z => z.2.1) (Option.some.inj (a1.symm.trans b1))
  subst e2
  have e4 : t2 = s2 := congrArg (fun z => z.2.1) (Option.some.inj (a2.symm.trans b2))
  subst e4
  exact ⟨z, t1, t2, b1, b2, g1, hI⟩
theorem pr_4 {i n x y z : Nat} {t : en_H} (hx : x < 4294967296) (hy : y < 4294967296) (hz : z < 4294967296) (hI : pi_I i t) (hi : i ≤ 4000) : pi_P1 i 38 39 [gx_r 0, .inl x, .inl y, .inl z] [gx_r 383, .inl x, .inl y, .inl z] t n := by
  have h := pr_4a (n := n) hx hy hz hI
  obtain ⟨hG, hE, -, -, hU, hX, hZ⟩ := hI
  rcases pi_SP hG hE hU hX with P | P
  · exact pi_P1_of h (zs_open191 hG P hZ (by first | decide | omega) hx hy hz)
  · exact pi_P1_of h (zs_open257 hG P hZ (by first | decide | omega) hx hy hz)
theorem pr_13 {i n x y : Nat} {t : en_H} (hx : x < 4294967296) (hy : y < 4294967296) (hI : pi_I i t) (hi : i ≤ 4000) : pi_P1 i 54 55 [gx_r 0, .inl x, .inl y] [gx_r 383, .inl x, .inl y] t n := by
  have h := pr_13a (n := n) hx hy hI
  obtain ⟨hG, hE, -, -, hU, hX, hZ⟩ := hI
  rcases pi_SP hG hE hU hX with P | P
  · exact pi_P1_of h (zs_where191 hG P hZ hx hy)
  · exact pi_P1_of h (zs_where257 hG P hZ hx hy)
theorem pr_14 {i n x y : Nat} {t : en_H} (hx : x < 4294967296) (hy : y < 4294967296) (hI : pi_I i t) (hi : i ≤ 4000) : pi_P1 i 56 57 [gx_r 0, .inl x, .inl y] [gx_r 383, .inl x, .inl y] t n := by
  have h := pr_14a (n := n) hx hy hI
  obtain ⟨hG, hE, -, -, hU, hX, hZ⟩ := hI
  rcases pi_SP hG hE hU hX with P | P
  · exact pi_P1_of h (zs_meet191 hG P hZ hx hy)
  · exact pi_P1_of h (zs_meet257 hG P hZ hx hy)
theorem pr_15 {i n x y z : Nat} {t : en_H} (hx : x < 4294967296) (hy : y < 4294967296) (hz : z < 4294967296) (hI : pi_I i t) (hi : i ≤ 4000) : pi_P1 i 58 59 [gx_r 0, .inl x, .inl y, .inl z] [gx_r 383, .inl x, .inl y, .inl z] t n := by
  have h := pr_15a (n := n) hx hy hz hI
  obtain ⟨hG, hE, -, -, hU, hX, hZ⟩ := hI
  rcases pi_SPX hG hE hU hX with P | P
  · exact pi_P1_of h (zs_reach191 hG P hZ (by first | decide | omega) hx hy hz)
  · exact pi_P1_of h (zs_reach257 hG P hZ (by first | decide | omega) hx hy hz)
theorem pr_16 {i n x y : Nat} {t : en_H} (hx : x < 4294967296) (hy : y < 4294967296) (hI : pi_I i t) (hi : i ≤ 4000) : pi_P1 i 60 61 [gx_r 0, .inl x, .inl y] [gx_r 383, .inl x, .inl y] t n := by
  have h := pr_16a (n := n) hx hy hI
  obtain ⟨hG, hE, -, -, hU, hX, hZ⟩ := hI
  rcases pi_SPX hG hE hU hX with P | P
  · exact pi_P1_of h (zs_setout191 hG P hZ (by first | decide | omega) hx hy)
  · exact pi_P1_of h (zs_setout257 hG P hZ (by first | decide | omega) hx hy)
theorem pr_20 {i n x : Nat} {t : en_H} (hx : x < 4294967296) (hI : pi_I i t) (hi : i ≤ 4000) : pi_P1 i 68 69 [gx_r 0, .inl x] [gx_r 383, .inl x] t n := by
  have h := pr_20a (n := n) hx hI
  obtain ⟨hG, hE, -, -, hU, hX, hZ⟩ := hI
  rcases pi_SP hG hE hU hX with P | P
  · exact pi_P1_of h (zs_lasts191 hG P hZ (by first | decide | omega) hx)
  · exact pi_P1_of h (zs_lasts257 hG P hZ (by first | decide | omega) hx)
theorem pr_27 {i n x y z : Nat} {t : en_H} (hx : x < 4294967296) (hy : y < 4294967296) (hz : z < 4294967296) (hI : pi_I i t) (hi : i ≤ 4000) : pi_P1 i 81 82 [gx_r 0, .inl x, .inl y, .inl z] [gx_r 383, .inl x, .inl y, .inl z] t n := by
  have h := pr_27a (n := n) hx hy hz hI
  obtain ⟨hG, hE, -, -, hU, hX, hZ⟩ := hI
  rcases pi_SP hG hE hU hX with P | P
  · exact pi_P1_of h (zs_months191 hG P hZ hx hy hz)
  · exact pi_P1_of h (zs_months257 hG P hZ hx hy hz)
theorem pr_29 {i n x : Nat} {t : en_H} (hx : x < 4294967296) (hI : pi_I i t) (hi : i ≤ 4000) : pi_P1 i 85 86 [gx_r 0, .inl x] [gx_r 383, .inl x] t n := by
  have h := pr_29a (n := n) hx hI
  obtain ⟨hG, hE, ⟨s, hS, hs⟩, hT, hU, hX, hZ⟩ := hI
  refine pi_P1_of h ?_
  obtain ⟨len, S, l1, l2, l3, l4, l5, l6, lL⟩ := hT
  obtain ⟨R, nl, O, D, K, hR, n1, -, n3, n4, n5, -⟩ := lL
  obtain ⟨q, S0, m0, N0, υ, hq, k10, -, -, hRT, t9, hCA, hCe⟩ := hU
  obtain ⟨T, K', σ, u, τ, F, μ, q9, v9, -, hRS, hCS, -⟩ := hZ
  obtain ⟨⟨t8, hRA, hRe⟩, -, -⟩ := hRT
  obtain ⟨⟨a0, a1, a2, a3, a4, a5, a6, a7, -⟩, -⟩ := hCA
  obtain ⟨⟨b0, b1, b2, b3, b4, b5, b6, b7, -⟩, -⟩ := hRA
  obtain ⟨r0, r17, ⟨r26, -⟩, -⟩ := hRS
  obtain ⟨⟨c0, -⟩, c139, ⟨o, -, -, c22, -⟩, -⟩ := hCS
  obtain ⟨_, e2, t', rfl⟩ := sr_count 58 n (v := (cv (υ 0 0) (υ 1 0) (υ 2 0) (υ 3 0) (υ 4 0) (σ 0) (υ 5 0) (υ 6 0) (υ 7 0) nl q9 u len)) hG ((hRe 0 (by first | decide | omega)).trans b0) ((hRe 1 (by first | decide | omega)).trans b1) ((hRe 2 (by first | decide | omega)).trans b2) ((hRe 3 (by first | decide | omega)).trans b3) ((hRe 4 (by first | decide | omega)).trans b4) (r0 0 (by decide)) ((hRe 6 (by first | decide | omega)).trans b5) ((hRe 7 (by first | decide | omega)).trans b6) ((hRe 8 (by first | decide | omega)).trans b7) n5 r17 r26 l3 hx
  rcases hq with rfl | rfl <;> rcases hR with rfl | rfl
  · obtain ⟨_, e1, rfl⟩ := sc_count191_323 59 n (v := (cv (υ 0 0) (υ 1 0) (υ 2 0) (υ 3 0) (υ 4 0) (σ 0) (υ 5 0) (υ 6 0) (υ 7 0) nl q9 u len)) hG k10 n1 ((hCe 191 0 (by first | decide | omega)).trans a0) ((hCe 191 1 (by first | decide | omega)).trans a1) ((hCe 194 5 (by first | decide | omega)).trans a2) ((hCe 200 5 (by first | decide | omega)).trans a3) ((hCe 206 5 (by first | decide | omega)).trans a4) c0 ((hCe 212 5 (by first | decide | omega)).trans a5) ((hCe 218 5 (by first | decide | omega)).trans a6) ((hCe 224 5 (by first | decide | omega)).trans a7) n4 c139 c22 l2 hx
    exact ⟨_, _, _, e1, e2⟩
  · obtain ⟨_, e1, rfl⟩ := sc_count191_329 59 n (v := (cv (υ 0 0) (υ 1 0) (υ 2 0) (υ 3 0) (υ 4 0) (σ 0) (υ 5 0) (υ 6 0) (υ 7 0) nl q9 u len)) hG k10 n1 ((hCe 191 0 (by first | decide | omega)).trans a0) ((hCe 191 1 (by first | decide | omega)).trans a1) ((hCe 194 5 (by first | decide | omega)).trans a2) ((hCe 200 5 (by first | decide | omega)).trans a3) ((hCe 206 5 (by first | decide | omega)).trans a4) c0 ((hCe 212 5 (by first | decide | omega)).trans a5) ((hCe 218 5 (by first | decide | omega)).trans a6) ((hCe 224 5 (by first | decide | omega)).trans a7) n4 c139 c22 l2 hx
    exact ⟨_, _, _, e1, e2⟩
  · obtain ⟨_, e1, rfl⟩ := sc_count257_323 59 n (v := (cv (υ 0 0) (υ 1 0) (υ 2 0) (υ 3 0) (υ 4 0) (σ 0) (υ 5 0) (υ 6 0) (υ 7 0) nl q9 u len)) hG k10 n1 ((hCe 257 0 (by first | decide | omega)).trans a0) ((hCe 257 1 (by first | decide | omega)).trans a1) ((hCe 260 5 (by first | decide | omega)).trans a2) ((hCe 266 5 (by first | decide | omega)).trans a3) ((hCe 272 5 (by first | decide | omega)).trans a4) c0 ((hCe 278 5 (by first | decide | omega)).trans a5) ((hCe 284 5 (by first | decide | omega)).trans a6) ((hCe 290 5 (by first | decide | omega)).trans a7) n4 c139 c22 l2 hx
    exact ⟨_, _, _, e1, e2⟩
  · obtain ⟨_, e1, rfl⟩ := sc_count257_329 59 n (v := (cv (υ 0 0) (υ 1 0) (υ 2 0) (υ 3 0) (υ 4 0) (σ 0) (υ 5 0) (υ 6 0) (υ 7 0) nl q9 u len)) hG k10 n1 ((hCe 257 0 (by first | decide | omega)).trans a0) ((hCe 257 1 (by first | decide | omega)).trans a1) ((hCe 260 5 (by first | decide | omega)).trans a2) ((hCe 266 5 (by first | decide | omega)).trans a3) ((hCe 272 5 (by first | decide | omega)).trans a4) c0 ((hCe 278 5 (by first | decide | omega)).trans a5) ((hCe 284 5 (by first | decide | omega)).trans a6) ((hCe 290 5 (by first | decide | omega)).trans a7) n4 c139 c22 l2 hx
    exact ⟨_, _, _, e1, e2⟩
theorem pr_12 {i n x : Nat} {t : en_H} (hx : x < 4294967296) (hI : pi_I i t) (hi : i ≤ 4000) : pi_P1 i 52 53 [gx_r 0, .inl x] [gx_r 383, .inl x] t n := by
  have h := pr_12a (n := n) hx hI
  obtain ⟨hG, hE, ⟨s, hS, hs⟩, hT, hU, hX, hZ⟩ := hI
  refine pi_P1_of h ?_
  obtain ⟨len, S, l1, l2, l3, l4, l5, l6, lL⟩ := hT
  obtain ⟨R, nl, O, D, K, hR, n1, ⟨n2, n3, n8⟩, n4, n5, n6, n7⟩ := lL
  rcases pi_SP hG hE hU hX with P | P <;> rcases hR with rfl | rfl
  · exact zs_judged191_323 hG P n1 n2 n3 n8 n4 n5 n6 n7 hx
  · exact zs_judged191_329 hG P n1 n2 n3 n8 n4 n5 n6 n7 hx
  · exact zs_judged257_323 hG P n1 n2 n3 n8 n4 n5 n6 n7 hx
  · exact zs_judged257_329 hG P n1 n2 n3 n8 n4 n5 n6 n7 hx
theorem pi_loads {t : en_H} (hG : ai_HG ah_G t) (hU : pi_U t) : ∃ (q K : Nat) (O N : Nat → Nat), (q = 191 ∨ q = 257) ∧ ai_hv t 0 10 = some (gx_r q) ∧ K ≤ 6 ∧ ai_hv t (q + 33) 5 = some (.inl K) ∧ (∀ g, g < K → ai_hv t (q + 35) g = some (.inl (O g))) ∧ (∀ g, g < K → O g ≤ 999) ∧ (∀ g, g < K → ai_hv t (q + 36) g = some (.inl (N g))) ∧ (∀ g, g < K → N g ≤ 9) ∧ ai_hv t 389 8 = some (.inl K) ∧ (∀ g, g < K → ai_hv t 389 (140 + 2 * g) = some (.inl (O g))) ∧ (∀ g, g < K → ai_hv t 389 (141 + 2 * g) = some (.inl (N g))) := by
  obtain ⟨q, S0, m0, N0, υ, hq, x10, ⟨h3, -⟩, -, ⟨⟨t1, hRA, hR⟩, -, -⟩, t9, hCA, hCe⟩ := hU
  have hB := h3.1.1
  obtain ⟨⟨-, -, -, -, -, -, -, ka, -⟩, -, -, -, -, -, -, hCB⟩ := hCA
  obtain ⟨⟨-, -, -, -, -, -, -, rb, -⟩, -, -, -, -, -, hRB⟩ := hRA
  obtain ⟨-, -, -, -, -, -, -, -, -, -, gO, gN, -⟩ := hCB
  obtain ⟨-, -, -, -, -, -, -, -, -, -, rO, rN, -⟩ := hRB
  have hb0 : ∀ g, g < υ 7 0 → sp_nv S0 m0 (υ 19 g + 2) ≤ 999 := fun g hg => by
    have e1 := (hCe _ _ (by first | decide | omega)).trans (gO g hg)
    rcases hq with rfl | rfl
    · obtain ⟨m1, k1, -, b1⟩ := gx_inb (c := 226) (i := g) (lo := 0) (hi := 999) hG rfl (show g < 6 by omega) (gx_run1 (show g < 6 by omega)) (by decide) (by decide) rfl
      have e3 := Sum.inl.inj (Option.some.inj (e1.symm.trans k1))
      omega
    · obtain ⟨m1, k1, -, b1⟩ := gx_inb (c := 292) (i := g) (lo := 0) (hi := 999) hG rfl (show g < 6 by omega) (gx_run1 (show g < 6 by omega)) (by decide) (by decide) rfl
      have e3 := Sum.inl.inj (Option.some.inj (e1.symm.trans k1))
      omega
  have hb1 : ∀ g, g < υ 7 0 → sp_nv S0 m0 (υ 19 g + 4) ≤ 9 := fun g hg => by
    have e1 := (hCe _ _ (by first | decide | omega)).trans (gN g hg)
    rcases hq with rfl | rfl
    · obtain ⟨m1, k1, -, b1⟩ := gx_inb (c := 227) (i := g) (lo := 0) (hi := 9) hG rfl (show g < 6 by omega) (gx_run1 (show g < 6 by omega)) (by decide) (by decide) rfl
      have e3 := Sum.inl.inj (Option.some.inj (e1.symm.trans k1))
      omega
    · obtain ⟨m1, k1, -, b1⟩ := gx_inb (c := 293) (i := g) (lo := 0) (hi := 9) hG rfl (show g < 6 by omega) (gx_run1 (show g < 6 by omega)) (by decide) (by decide) rfl
      have e3 := Sum.inl.inj (Option.some.inj (e1.symm.trans k1))
      omega
  refine ⟨q, υ 7 0, fun g => sp_nv S0 m0 (υ 19 g + 2), fun g => sp_nv S0 m0 (υ 19 g + 4), hq, x10, by omega, (hCe _ _ (by first | decide | omega)).trans ka, fun g hg => (hCe _ _ (by first | decide | omega)).trans (gO g hg), fun g hg => hb0 g hg, fun g hg => (hCe _ _ (by first | decide | omega)).trans (gN g hg), fun g hg => hb1 g hg, (hR 8 (by first | decide | omega)).trans rb, fun g hg => ?_, fun g hg => ?_⟩
  · refine (hR _ (by first | decide | omega)).trans ?_
    rw [show 160 + (140 + 2 * g) = 300 + 2 * g by omega]
    exact rO g hg
  · refine (hR _ (by first | decide | omega)).trans ?_
    rw [show 160 + (141 + 2 * g) = 301 + 2 * g by omega]
    exact rN g hg
theorem pr_26 {i n x : Nat} {t : en_H} (hx : x < 4294967296) (hI : pi_I i t) (hi : i ≤ 4000) : pi_P1 i 79 80 [gx_r 0, .inl x] [gx_r 383, .inl x] t n := by
  have h := pr_26a (n := n) hx hI
  obtain ⟨hG, hE, -, -, hU, -⟩ := hI
  refine pi_P1_of h ?_
  obtain ⟨q, K, O, N, hq, x10, hK, kK, kO, hO, kN, hN, rK, rO, rN⟩ := pi_loads hG hU
  obtain ⟨q', S0, m0, N0, υ, hq', x10', -, ⟨-, hP, -⟩, -⟩ := hU
  have e := gx_req (Option.some.inj (x10'.symm.trans x10))
  subst e
  obtain ⟨L, hR, ⟨hs, hc⟩, hlen, hvo, hrn⟩ := hP 2 (by decide)
  have hc' : ∀ LC, LC = q' + 45 → cco t LC 0 L := fun LC e => cco_of (fun j hj => by
    have h9 := hc j hj
    rw [Nat.zero_add, e]
    exact h9)
  have hC : ∃ r, en_u 60 79 [gx_r 0, .inl x] t n = some r ∧ ∃ v t', r = (some (.inl v), t', n, 0) ∧ ai_HG ah_G t' ∧ (∀ c i, c < 383 ∨ ai_hv t' c i = ai_hv t c i) ∧ (¬ x ≤ 1 → v = 4294967294) ∧ (x ≤ 1 → v = carv L O N K x) := by
    rcases hq with rfl | rfl
    · obtain ⟨r, h1, v, t', h2, h3, h4, h5⟩ := pc_carry191 55 n (nl := K) (wh := x) (wt := O) (tk := N) (L := L) hG x10 kK hK kO hO kN (fun k hk => ⟨Nat.zero_le _, hN k hk⟩) hs hlen (hc' 236 rfl) (fun z hz => ⟨_, hvo z hz⟩) hrn hx
      exact ⟨r, h1, v, t', h2, h3, (fun c i => by by_cases z : c < 383; exact Or.inl z; exact Or.inr (h4 c i (by first | decide | omega))), h5⟩
    · obtain ⟨r, h1, v, t', h2, h3, h4, h5⟩ := pc_carry257 55 n (nl := K) (wh := x) (wt := O) (tk := N) (L := L) hG x10 kK hK kO hO kN (fun k hk => ⟨Nat.zero_le _, hN k hk⟩) hs hlen (hc' 302 rfl) (fun z hz => ⟨_, hvo z hz⟩) hrn hx
      exact ⟨r, h1, v, t', h2, h3, (fun c i => by by_cases z : c < 383; exact Or.inl z; exact Or.inr (h4 c i (by first | decide | omega))), h5⟩
  obtain ⟨_, c1, v, tc, rfl, g1, hf, w1, w2⟩ := hC
  have hf9 : ∀ c i, 383 ≤ c → ai_hv tc c i = ai_hv t c i := fun c i h => by
    rcases hf c i with z | z
    · omega
    · exact z
  obtain ⟨_, d1, v', td, rfl, w3, w4⟩ := pe_carry 54 n (nl := K) (wh := x) (wt := O) (tk := N) (L := L) g1 ((hf9 _ _ (by decide)).trans rK) hK (fun k hk => (hf9 _ _ (by decide)).trans (rO k hk)) hO (fun k hk => (hf9 _ _ (by decide)).trans (by rw [show 140 + 2 * k + 1 = 141 + 2 * k by omega]; exact rN k hk)) (fun k hk => ⟨Nat.zero_le _, hN k hk⟩) (RLL_keep hR (hf9 _ _ (by decide)) (fun c i h => hf9 c i (by first | decide | omega))) hx
  have e6 : v' = v := by
    by_cases h : x ≤ 1
    · rw [w2 h, w4 h]
    · rw [w1 h, w3 h]
  subst e6
  exact ⟨_, _, _, c1, d1⟩
theorem pi_signs {t : en_H} (hG : ai_HG ah_G t) (hU : pi_U t) : ∃ (q K : Nat) (O : Nat → Nat), (q = 191 ∨ q = 257) ∧ ai_hv t 0 10 = some (gx_r q) ∧ K ≤ 6 ∧ ai_hv t (q + 27) 5 = some (.inl K) ∧ (∀ g, g < K → ai_hv t (q + 29) g = some (.inl (O g))) ∧ (∀ g, g < K → O g ≤ 99) ∧ ai_hv t 389 7 = some (.inl K) ∧ (∀ g, g < K → ai_hv t 389 (134 + g) = some (.inl (O g))) := by
  obtain ⟨q, S0, m0, N0, υ, hq, x10, ⟨h3, -⟩, -, ⟨⟨t1, hRA, hR⟩, -, -⟩, t9, hCA, hCe⟩ := hU
  have hB := h3.1.1
  obtain ⟨⟨-, -, -, -, -, -, ka, -⟩, -, -, -, -, -, -, hCB⟩ := hCA
  obtain ⟨⟨-, -, -, -, -, -, rb, -⟩, -, -, -, -, -, hRB⟩ := hRA
  obtain ⟨-, -, -, -, -, -, -, -, -, gO, -⟩ := hCB
  obtain ⟨-, -, -, -, -, -, -, -, -, rO, -⟩ := hRB
  have hb0 : ∀ g, g < υ 6 0 → sp_nv S0 m0 (υ 18 g + 2) ≤ 99 := fun g hg => by
    have e1 := (hCe _ _ (by first | decide | omega)).trans (gO g hg)
    rcases hq with rfl | rfl
    · obtain ⟨m1, k1, -, b1⟩ := gx_inb (c := 220) (i := g) (lo := 0) (hi := 99) hG rfl (show g < 6 by omega) (gx_run1 (show g < 6 by omega)) (by decide) (by decide) rfl
      have e3 := Sum.inl.inj (Option.some.inj (e1.symm.trans k1))
      omega
    · obtain ⟨m1, k1, -, b1⟩ := gx_inb (c := 286) (i := g) (lo := 0) (hi := 99) hG rfl (show g < 6 by omega) (gx_run1 (show g < 6 by omega)) (by decide) (by decide) rfl
      have e3 := Sum.inl.inj (Option.some.inj (e1.symm.trans k1))
      omega
  refine ⟨q, υ 6 0, fun g => sp_nv S0 m0 (υ 18 g + 2), hq, x10, by omega, (hCe _ _ (by first | decide | omega)).trans ka, fun g hg => (hCe _ _ (by first | decide | omega)).trans (gO g hg), fun g hg => hb0 g hg, (hR 7 (by first | decide | omega)).trans rb, fun g hg => ?_⟩
  · refine (hR _ (by first | decide | omega)).trans ?_
    rw [show 160 + (134 + g) = 294 + 1 * g by omega]
    exact rO g hg
theorem pr_25 {i n x : Nat} {t : en_H} (hx : x < 4294967296) (hI : pi_I i t) (hi : i ≤ 4000) : pi_P1 i 77 78 [gx_r 0, .inl x] [gx_r 383, .inl x] t n := by
  have h := pr_25a (n := n) hx hI
  obtain ⟨hG, hE, -, -, hU, -⟩ := hI
  refine pi_P1_of h ?_
  have hLR := pi_U_LR hU
  obtain ⟨q, K, O, hq, x10, hK, kK, kO, hO, rK, rO⟩ := pi_signs hG hU
  have hC : ∃ r, en_u 60 77 [gx_r 0, .inl x] t n = some r ∧ ∃ v t', r = (some (.inl v), t', n, 0) ∧ ai_HG ah_G t' ∧ (∀ c i, 383 ≤ c → ai_hv t' c i = ai_hv t c i) ∧ cdA O K x v := by
    rcases hq with rfl | rfl
    · obtain ⟨r, h1, v, t', h2, h3, h4, h5⟩ := pc_code191 49 n (nn := K) (x := x) (O := O) hG x10 hLR kK hK kO hO hx
      exact ⟨r, h1, v, t', h2, h3, (fun c i z => h4 c i (by first | decide | omega)), h5⟩
    · obtain ⟨r, h1, v, t', h2, h3, h4, h5⟩ := pc_code257 49 n (nn := K) (x := x) (O := O) hG x10 hLR kK hK kO hO hx
      exact ⟨r, h1, v, t', h2, h3, (fun c i z => h4 c i (by first | decide | omega)), h5⟩
  obtain ⟨_, c1, v, tc, rfl, g1, hf9, w1⟩ := hC
  obtain ⟨_, d1, v', td, rfl, w2⟩ := pe_code 50 n (nn := K) (x := x) (O := O) g1 ((hf9 _ _ (by decide)).trans rK) hK (fun k hk => (hf9 _ _ (by decide)).trans (rO k hk)) hO hx
  have e6 := cdA_one hK w1 w2
  subst e6
  exact ⟨_, _, _, c1, d1⟩
end PKF
