section SSQ
/-- all things lie in the grid -/
noncomputable def zin (O D T : Nat) (σ : Nat → Nat) : Prop := ∀ i, i < T → inG O D (σ (1 + i)) = true
noncomputable def ZGs (O D T : Nat) (σ : Nat → Nat) (u : Nat) (τ : Nat → Nat → Nat) (F : Nat → Nat) (μ : Nat → Nat → Nat) : Prop := zin O D T σ ∧ (∀ k, k < u → zin O D T (τ k)) ∧ ∀ m, m < 4 → F m = 1 → zin O D T (μ m)
theorem zin_eq {O D T : Nat} {σ σ' : Nat → Nat} (h : zin O D T σ) (hT : T ≤ 6) (e : ∀ i, i < 6 → σ' (1 + i) = σ (1 + i)) : zin O D T σ' := fun i hi => by
  rw [e i (by first | decide | omega)]
  exact h i hi
theorem inG_nb {O D p s : Nat} (hO : O ≤ 8) (h : inG O D p = true) : inG O D (nb O D p s) = true := by
  rw [inG_iff] at h ⊢
  unfold nb
  split
  · split <;> omega
  · split
    · split <;> omega
    · split
      · split <;> omega
      · split
        · split <;> omega
        · exact h
theorem zin_stp {w : Nat → Nat → Nat} {L : List Nat} {σ : Nat → Nat} (hw : WS w) (h : zin (w 0 0) (w 0 1) (w 0 2) σ) : zin (w 0 0) (w 0 1) (w 0 2) (stp w L σ) := fun i hi => by
  have hT := hw.1.2.2.1
  rw [stp_pl (by first | decide | omega), if_pos hi]
  exact inG_nb hw.1.1 (h i hi)
theorem zin_itp {w : Nat → Nat → Nat} {L : List Nat} {σ : Nat → Nat} (hw : WS w) (h : zin (w 0 0) (w 0 1) (w 0 2) σ) : ∀ k, zin (w 0 0) (w 0 1) (w 0 2) (itp w L k σ)
  | 0 => h
  | k + 1 => zin_stp hw (zin_itp hw h k)
theorem sgL_p {σ : Nat → Nat} {c x i : Nat} (h : c ≤ 1) (hi : i < 6) : sgL σ c x (1 + i) = σ (1 + i) := by
  unfold sgL
  rw [if_neg (by first | decide | omega), if_neg (by first | decide | omega), if_neg (by first | decide | omega), if_neg (by first | decide | omega)]
theorem sgH_p {σ : Nat → Nat} {c x i : Nat} (hi : i < 6) : sgH σ c x (1 + i) = σ (1 + i) := by
  unfold sgH
  rw [if_neg (by first | decide | omega), if_neg (by first | decide | omega), if_neg (by first | decide | omega)]
theorem sgM_p {σ : Nat → Nat} {c i : Nat} (hi : i < 6) : sgM' σ c (1 + i) = σ (1 + i) := by
  unfold sgM'
  rw [if_neg (by first | decide | omega)]
theorem ZG_kp {O D T u : Nat} {σ σ' F : Nat → Nat} {τ μ : Nat → Nat → Nat} (h : ZGs O D T σ u τ F μ) (h' : zin O D T σ') : ZGs O D T σ' (kpu u) (kpt u σ τ) F μ := by
  refine ⟨h', fun k hk => ?_, h.2.2⟩
  unfold kpu at hk
  unfold kpt
  by_cases c : u < 16
  · rw [if_pos c] at hk ⊢
    by_cases c2 : k = u
    · rw [if_pos c2]; exact h.1
    · rw [if_neg c2]; exact h.2.1 k (by first | decide | omega)
  · rw [if_neg c] at hk ⊢
    by_cases c2 : k = 15
    · rw [if_pos c2]; exact h.1
    · rw [if_neg c2]; exact h.2.1 (k + 1) (by first | decide | omega)
/-- all that stands is the same on both sides; no step is farther than B -/
noncomputable def ZS (B : Nat) (t : en_H) : Prop := ∃ (T K : Nat) (σ : Nat → Nat) (u : Nat) (τ : Nat → Nat → Nat) (F : Nat → Nat) (μ : Nat → Nat → Nat) (q : Nat) (v : Nat → Nat), (ai_hv t 389 2 = some (.inl T) ∧ ai_hv t 389 4 = some (.inl K)) ∧ RS t σ u τ F μ q v ∧ CS t T K σ u τ F μ q v ∧ ZB B σ u τ F μ ∧ (∀ i, i < 4 → F i ≤ 1) ∧ q ≤ 8 ∧ (∀ i, i < 4 → F i = 1 → v i ≤ 8) ∧ ∃ O D : Nat, (ai_hv t 389 0 = some (.inl O) ∧ ai_hv t 389 1 = some (.inl D)) ∧ ZGs O D T σ u τ F μ
/-- the told world, on both sides -/
noncomputable def SPk (q : Nat) (t : en_H) : Prop := ai_hv t 0 10 = some (gx_r q) ∧ ∃ w L, RW t w L ∧ CW t q w L ∧ CX t q w
noncomputable def SP (t : en_H) : Prop := SPk 191 t ∨ SPk 257 t
noncomputable def zs_fc (t t1 : en_H) : Prop := ∀ c i, 383 ≤ c → ai_hv t1 c i = ai_hv t c i
noncomputable def zs_fr (t1 t2 : en_H) : Prop := (∀ c i, c < 383 → ai_hv t2 c i = ai_hv t1 c i) ∧ ∀ i, ai_hv t2 389 i = ai_hv t1 389 i
theorem ZS_mk {B : Nat} {t t1 t2 : en_H} {T K : Nat} {σ : Nat → Nat} {u : Nat} {τ : Nat → Nat → Nat} {F : Nat → Nat} {μ : Nat → Nat → Nat} {q : Nat} {v : Nat → Nat} (h : ai_hv t 389 2 = some (.inl T) ∧ ai_hv t 389 4 = some (.inl K)) (hC : CS t1 T K σ u τ F μ q v) (hR : RS t2 σ u τ F μ q v) (e1 : zs_fc t t1) (e2 : zs_fr t1 t2) (hB : ZB B σ u τ F μ) (hF : ∀ i, i < 4 → F i ≤ 1) (hq : q ≤ 8) (hv : ∀ i, i < 4 → F i = 1 → v i ≤ 8) {O D : Nat} (hOD : ai_hv t 389 0 = some (.inl O) ∧ ai_hv t 389 1 = some (.inl D)) (hG : ZGs O D T σ u τ F μ) : ZS B t2 :=
  ⟨T, K, σ, u, τ, F, μ, q, v, ⟨(e2.2 _).trans ((e1 _ _ (by decide)).trans h.1), (e2.2 _).trans ((e1 _ _ (by decide)).trans h.2)⟩, hR, CS_keep hC (fun c i hc => e2.1 c i (by unfold CSC at hc; omega)), hB, hF, hq, hv, O, D, ⟨(e2.2 _).trans ((e1 _ _ (by decide)).trans hOD.1), (e2.2 _).trans ((e1 _ _ (by decide)).trans hOD.2)⟩, hG⟩
theorem ZS_keep {B B' : Nat} {t t' : en_H} (h : ZS B t) (hB : B ≤ B') (e0 : ai_hv t' 389 0 = ai_hv t 389 0) (e1 : ai_hv t' 389 1 = ai_hv t 389 1) (e2 : ai_hv t' 389 2 = ai_hv t 389 2) (e4 : ai_hv t' 389 4 = ai_hv t 389 4) (eR : ∀ c i, RSC c i → ai_hv t' c i = ai_hv t c i) (eC : ∀ c i, CSC c i → ai_hv t' c i = ai_hv t c i) : ZS B' t' := by
  obtain ⟨T, K, σ, u, τ, F, μ, q, v, ⟨h1, h2⟩, h3, h4, h5, h6, h7, h8, O, D, ⟨h9, h10⟩, hG⟩ := h
  exact ⟨T, K, σ, u, τ, F, μ, q, v, ⟨e2.trans h1, e4.trans h2⟩, RS_keep h3 h5.1 eR, CS_keep h4 eC, ZB_mono h5 hB, h6, h7, h8, O, D, ⟨e0.trans h9, e1.trans h10⟩, hG⟩
theorem zs_sum {t : en_H} {σ : Nat → Nat} (hE : ai_E t) (h : blk t 0 σ) : σ 7 + σ 8 ≤ 19998 := by
  obtain ⟨x, y, h1, h2, h3⟩ := hE.2.2.2.1 0 (by decide)
  have e1 := wv_one (show ai_hv t 399 7 = _ from h 7 (by decide)) h1
  have e2 := wv_one (show ai_hv t 399 8 = _ from h 8 (by decide)) h2
  omega
theorem zs_sbd {t : en_H} {σ : Nat → Nat} (g : ai_HG ah_G t) (h : blk t 0 σ) : sbd σ := sr_bd0 g h
theorem sgL_z {σ : Nat → Nat} {c x : Nat} (h : c ≤ 1) : sgL σ c x 0 = σ 0 := by
  unfold sgL
  rw [if_neg (by first | decide | omega), if_neg (by first | decide | omega), if_neg (by first | decide | omega), if_neg (by first | decide | omega)]
theorem sgH_z {σ : Nat → Nat} {c x : Nat} : sgH σ c x 0 = σ 0 := by
  unfold sgH
  rw [if_neg (by first | decide | omega), if_neg (by first | decide | omega), if_neg (by first | decide | omega)]
theorem sgM_z {σ : Nat → Nat} {c : Nat} : sgM' σ c 0 = σ 0 := by
  unfold sgM'
  rw [if_neg (by first | decide | omega)]
/-- both come back with the same -/
noncomputable def zs_P (mc mr : Nat) (ac ar : List en_V) (B : Nat) (t : en_H) (n : Nat) : Prop := ∃ z t1 t2, en_u 60 mc ac t n = some (some (.inl z), t1, n, 0) ∧ en_u 60 mr ar t1 n = some (some (.inl z), t2, n, 0) ∧ ai_HG ah_G t1 ∧ ZS B t2
theorem zs_drift191 {n B x : Nat} {t : en_H} (g0 : ai_HG ah_G t) (hE : ai_E t) (hP : SPk 191 t) (hZ : ZS B t) (hB : B ≤ 900000) (hx : x < 4294967296) : zs_P 42 43 [gx_r 0, .inl x] [gx_r 383, .inl x] (B + 30) t n := by
  obtain ⟨k10, w, L, hR, hC, hX⟩ := hP
  obtain ⟨T, K, σ, u, τ, F, μ, q, v, ⟨hT, hK⟩, hS, hS', hB5, hF, hq, hv, O9, D9, hOD9, hG9⟩ := hZ
  have eT := wv_one hT (hR.1 2 (by decide))
  have eK := wv_one hK (hR.1 4 (by decide))
  subst eT eK
  have eO := wv_one hOD9.1 (hR.1 0 (by decide))
  have eD := wv_one hOD9.2 (hR.1 1 (by decide))
  subst eO eD
  have hw := WS_of hR
  have hT6 := hw.1.2.2.1
  have hK2 := hw.1.2.2.2.2.1
  have hb0 := zs_sbd g0 hS.1
  have hsm := zs_sum hE hS.1
  have hu := hB5.1
  have hσ := hB5.2.1
  obtain ⟨_, r1, z1, t1, rfl, g1, f1, p2, p1⟩ := sc_drift191 53 n g0 hC hw hb0 k10 hS' hu hx (by first | decide | omega)
  have hR1 : RW t1 w L := RW_keep hR (fun i hi => f1 389 i (by first | decide | omega)) (fun c i hc _ => f1 c i (by first | decide | omega))
  have hS1 : RS t1 σ u τ F μ q v := RS_keep hS hu (fun c i hc => f1 c i (by unfold RSC at hc; omega))
  obtain ⟨_, r2, z2, t2, rfl, g2, f2, q2, q1⟩ := sr_drift 54 n g1 hR1 hS1 hu hx (by first | decide | omega)
  by_cases c9 : 1 ≤ x ∧ x ≤ 30
  · obtain ⟨rfl, x1⟩ := p1 c9
    obtain ⟨rfl, y1⟩ := q1 c9
    exact ⟨_, t1, t2, r1, r2, g1, ZS_mk ⟨hT, hK⟩ x1 y1 (fun c i h => f1 c i (by first | decide | omega)) ⟨fun c i h => f2 c i (by first | decide | omega), fun i => f2 389 i (by first | decide | omega)⟩ (ZB_kp (ZB_mono hB5 (by first | decide | omega)) (by rw [itp_0 (B := B) hσ (by first | decide | omega) x c9.2]; omega)) hF hq hv hOD9 (ZG_kp hG9 (zin_itp hw hG9.1 x))⟩
  · obtain ⟨rfl, x1⟩ := p2 c9
    obtain ⟨rfl, y1⟩ := q2 c9
    exact ⟨_, t1, t2, r1, r2, g1, ZS_mk ⟨hT, hK⟩ x1 y1 (fun c i h => f1 c i (by first | decide | omega)) ⟨fun c i h => f2 c i (by first | decide | omega), fun i => f2 389 i (by first | decide | omega)⟩ (ZB_mono hB5 (by first | decide | omega)) hF hq hv hOD9 hG9⟩
theorem zs_drift257 {n B x : Nat} {t : en_H} (g0 : ai_HG ah_G t) (hE : ai_E t) (hP : SPk 257 t) (hZ : ZS B t) (hB : B ≤ 900000) (hx : x < 4294967296) : zs_P 42 43 [gx_r 0, .inl x] [gx_r 383, .inl x] (B + 30) t n := by
  obtain ⟨k10, w, L, hR, hC, hX⟩ := hP
  obtain ⟨T, K, σ, u, τ, F, μ, q, v, ⟨hT, hK⟩, hS, hS', hB5, hF, hq, hv, O9, D9, hOD9, hG9⟩ := hZ
  have eT := wv_one hT (hR.1 2 (by decide))
  have eK := wv_one hK (hR.1 4 (by decide))
  subst eT eK
  have eO := wv_one hOD9.1 (hR.1 0 (by decide))
  have eD := wv_one hOD9.2 (hR.1 1 (by decide))
  subst eO eD
  have hw := WS_of hR
  have hT6 := hw.1.2.2.1
  have hK2 := hw.1.2.2.2.2.1
  have hb0 := zs_sbd g0 hS.1
  have hsm := zs_sum hE hS.1
  have hu := hB5.1
  have hσ := hB5.2.1
  obtain ⟨_, r1, z1, t1, rfl, g1, f1, p2, p1⟩ := sc_drift257 53 n g0 hC hw hb0 k10 hS' hu hx (by first | decide | omega)
  have hR1 : RW t1 w L := RW_keep hR (fun i hi => f1 389 i (by first | decide | omega)) (fun c i hc _ => f1 c i (by first | decide | omega))
  have hS1 : RS t1 σ u τ F μ q v := RS_keep hS hu (fun c i hc => f1 c i (by unfold RSC at hc; omega))
  obtain ⟨_, r2, z2, t2, rfl, g2, f2, q2, q1⟩ := sr_drift 54 n g1 hR1 hS1 hu hx (by first | decide | omega)
  by_cases c9 : 1 ≤ x ∧ x ≤ 30
  · obtain ⟨rfl, x1⟩ := p1 c9
    obtain ⟨rfl, y1⟩ := q1 c9
    exact ⟨_, t1, t2, r1, r2, g1, ZS_mk ⟨hT, hK⟩ x1 y1 (fun c i h => f1 c i (by first | decide | omega)) ⟨fun c i h => f2 c i (by first | decide | omega), fun i => f2 389 i (by first | decide | omega)⟩ (ZB_kp (ZB_mono hB5 (by first | decide | omega)) (by rw [itp_0 (B := B) hσ (by first | decide | omega) x c9.2]; omega)) hF hq hv hOD9 (ZG_kp hG9 (zin_itp hw hG9.1 x))⟩
  · obtain ⟨rfl, x1⟩ := p2 c9
    obtain ⟨rfl, y1⟩ := q2 c9
    exact ⟨_, t1, t2, r1, r2, g1, ZS_mk ⟨hT, hK⟩ x1 y1 (fun c i h => f1 c i (by first | decide | omega)) ⟨fun c i h => f2 c i (by first | decide | omega), fun i => f2 389 i (by first | decide | omega)⟩ (ZB_mono hB5 (by first | decide | omega)) hF hq hv hOD9 hG9⟩
theorem zs_haul191 {n B c x y : Nat} {t : en_H} (g0 : ai_HG ah_G t) (hE : ai_E t) (hP : SPk 191 t) (hZ : ZS B t) (hB : B ≤ 900000) (hc : c < 4294967296) (hx : x < 4294967296) (hy : y < 4294967296) : zs_P 44 45 [gx_r 0, .inl c, .inl x, .inl y] [gx_r 383, .inl c, .inl x, .inl y] (B + 30) t n := by
  obtain ⟨k10, w, L, hR, hC, hX⟩ := hP
  obtain ⟨T, K, σ, u, τ, F, μ, q, v, ⟨hT, hK⟩, hS, hS', hB5, hF, hq, hv, O9, D9, hOD9, hG9⟩ := hZ
  have eT := wv_one hT (hR.1 2 (by decide))
  have eK := wv_one hK (hR.1 4 (by decide))
  subst eT eK
  have eO := wv_one hOD9.1 (hR.1 0 (by decide))
  have eD := wv_one hOD9.2 (hR.1 1 (by decide))
  subst eO eD
  have hw := WS_of hR
  have hT6 := hw.1.2.2.1
  have hK2 := hw.1.2.2.2.2.1
  have hb0 := zs_sbd g0 hS.1
  have hsm := zs_sum hE hS.1
  have hu := hB5.1
  have hσ := hB5.2.1
  obtain ⟨_, r1, z1, t1, rfl, g1, f1, pz, p1, p2⟩ := sc_haul191 53 n g0 hC hw hb0 k10 hS' hu hX (by first | decide | omega) hc hx hy
  have hR1 : RW t1 w L := RW_keep hR (fun i hi => f1 389 i (by first | decide | omega)) (fun c i hc _ => f1 c i (by first | decide | omega))
  have hS1 : RS t1 σ u τ F μ q v := RS_keep hS hu (fun c i hc => f1 c i (by unfold RSC at hc; omega))
  obtain ⟨_, r2, z2, t2, rfl, g2, f2, qz, q1, q2⟩ := sr_haul 55 n g1 hR1 hS1 hu hb0 (by first | decide | omega) hc hx hy
  rcases (show z1 = 0 ∨ z1 = 1 by omega) with rfl | rfl
  · obtain ⟨n1, x1⟩ := p2 rfl
    rcases (show z2 = 0 ∨ z2 = 1 by omega) with rfl | rfl
    · obtain ⟨-, y1⟩ := q2 rfl
      exact ⟨_, t1, t2, r1, r2, g1, ZS_mk ⟨hT, hK⟩ x1 y1 (fun c i h => f1 c i (by first | decide | omega)) ⟨fun c i h => f2 c i (by first | decide | omega), fun i => f2 389 i (by first | decide | omega)⟩ (ZB_mono hB5 (by first | decide | omega)) hF hq hv hOD9 hG9⟩
    · exact absurd (q1 rfl).1 n1
  · obtain ⟨n1, x1⟩ := p1 rfl
    rcases (show z2 = 0 ∨ z2 = 1 by omega) with rfl | rfl
    · exact absurd n1 (q2 rfl).1
    · obtain ⟨-, y1⟩ := q1 rfl
      exact ⟨_, t1, t2, r1, r2, g1, ZS_mk ⟨hT, hK⟩ x1 y1 (fun c i h => f1 c i (by first | decide | omega)) ⟨fun c i h => f2 c i (by first | decide | omega), fun i => f2 389 i (by first | decide | omega)⟩ (ZB_kp (ZB_mono hB5 (by first | decide | omega)) (by rw [sgH_z]; omega)) hF hq hv hOD9 (ZG_kp hG9 (zin_eq hG9.1 hT6 (fun i hi => sgH_p hi)))⟩
theorem zs_haul257 {n B c x y : Nat} {t : en_H} (g0 : ai_HG ah_G t) (hE : ai_E t) (hP : SPk 257 t) (hZ : ZS B t) (hB : B ≤ 900000) (hc : c < 4294967296) (hx : x < 4294967296) (hy : y < 4294967296) : zs_P 44 45 [gx_r 0, .inl c, .inl x, .inl y] [gx_r 383, .inl c, .inl x, .inl y] (B + 30) t n := by
  obtain ⟨k10, w, L, hR, hC, hX⟩ := hP
  obtain ⟨T, K, σ, u, τ, F, μ, q, v, ⟨hT, hK⟩, hS, hS', hB5, hF, hq, hv, O9, D9, hOD9, hG9⟩ := hZ
  have eT := wv_one hT (hR.1 2 (by decide))
  have eK := wv_one hK (hR.1 4 (by decide))
  subst eT eK
  have eO := wv_one hOD9.1 (hR.1 0 (by decide))
  have eD := wv_one hOD9.2 (hR.1 1 (by decide))
  subst eO eD
  have hw := WS_of hR
  have hT6 := hw.1.2.2.1
  have hK2 := hw.1.2.2.2.2.1
  have hb0 := zs_sbd g0 hS.1
  have hsm := zs_sum hE hS.1
  have hu := hB5.1
  have hσ := hB5.2.1
  obtain ⟨_, r1, z1, t1, rfl, g1, f1, pz, p1, p2⟩ := sc_haul257 53 n g0 hC hw hb0 k10 hS' hu hX (by first | decide | omega) hc hx hy
  have hR1 : RW t1 w L := RW_keep hR (fun i hi => f1 389 i (by first | decide | omega)) (fun c i hc _ => f1 c i (by first | decide | omega))
  have hS1 : RS t1 σ u τ F μ q v := RS_keep hS hu (fun c i hc => f1 c i (by unfold RSC at hc; omega))
  obtain ⟨_, r2, z2, t2, rfl, g2, f2, qz, q1, q2⟩ := sr_haul 55 n g1 hR1 hS1 hu hb0 (by first | decide | omega) hc hx hy
  rcases (show z1 = 0 ∨ z1 = 1 by omega) with rfl | rfl
  · obtain ⟨n1, x1⟩ := p2 rfl
    rcases (show z2 = 0 ∨ z2 = 1 by omega) with rfl | rfl
    · obtain ⟨-, y1⟩ := q2 rfl
      exact ⟨_, t1, t2, r1, r2, g1, ZS_mk ⟨hT, hK⟩ x1 y1 (fun c i h => f1 c i (by first | decide | omega)) ⟨fun c i h => f2 c i (by first | decide | omega), fun i => f2 389 i (by first | decide | omega)⟩ (ZB_mono hB5 (by first | decide | omega)) hF hq hv hOD9 hG9⟩
    · exact absurd (q1 rfl).1 n1
  · obtain ⟨n1, x1⟩ := p1 rfl
    rcases (show z2 = 0 ∨ z2 = 1 by omega) with rfl | rfl
    · exact absurd n1 (q2 rfl).1
    · obtain ⟨-, y1⟩ := q1 rfl
      exact ⟨_, t1, t2, r1, r2, g1, ZS_mk ⟨hT, hK⟩ x1 y1 (fun c i h => f1 c i (by first | decide | omega)) ⟨fun c i h => f2 c i (by first | decide | omega), fun i => f2 389 i (by first | decide | omega)⟩ (ZB_kp (ZB_mono hB5 (by first | decide | omega)) (by rw [sgH_z]; omega)) hF hq hv hOD9 (ZG_kp hG9 (zin_eq hG9.1 hT6 (fun i hi => sgH_p hi)))⟩
theorem zs_home191 {n B c : Nat} {t : en_H} (g0 : ai_HG ah_G t) (hE : ai_E t) (hP : SPk 191 t) (hZ : ZS B t) (hB : B ≤ 900000) (hc : c < 4294967296) : zs_P 48 49 [gx_r 0, .inl c] [gx_r 383, .inl c] (B + 30) t n := by
  obtain ⟨k10, w, L, hR, hC, hX⟩ := hP
  obtain ⟨T, K, σ, u, τ, F, μ, q, v, ⟨hT, hK⟩, hS, hS', hB5, hF, hq, hv, O9, D9, hOD9, hG9⟩ := hZ
  have eT := wv_one hT (hR.1 2 (by decide))
  have eK := wv_one hK (hR.1 4 (by decide))
  subst eT eK
  have eO := wv_one hOD9.1 (hR.1 0 (by decide))
  have eD := wv_one hOD9.2 (hR.1 1 (by decide))
  subst eO eD
  have hw := WS_of hR
  have hT6 := hw.1.2.2.1
  have hK2 := hw.1.2.2.2.2.1
  have hb0 := zs_sbd g0 hS.1
  have hsm := zs_sum hE hS.1
  have hu := hB5.1
  have hσ := hB5.2.1
  obtain ⟨_, r1, z1, t1, rfl, g1, f1, pz, p1, p2⟩ := sc_home191 53 n g0 hC hw hb0 k10 hS' hu hc
  have hR1 : RW t1 w L := RW_keep hR (fun i hi => f1 389 i (by first | decide | omega)) (fun c i hc _ => f1 c i (by first | decide | omega))
  have hS1 : RS t1 σ u τ F μ q v := RS_keep hS hu (fun c i hc => f1 c i (by unfold RSC at hc; omega))
  obtain ⟨_, r2, z2, t2, rfl, g2, f2, qz, q1, q2⟩ := sr_home 57 n g1 hR1 hS1 hu hb0 hc
  rcases (show z1 = 0 ∨ z1 = 1 by omega) with rfl | rfl
  · obtain ⟨n1, x1⟩ := p2 rfl
    rcases (show z2 = 0 ∨ z2 = 1 by omega) with rfl | rfl
    · obtain ⟨-, y1⟩ := q2 rfl
      exact ⟨_, t1, t2, r1, r2, g1, ZS_mk ⟨hT, hK⟩ x1 y1 (fun c i h => f1 c i (by first | decide | omega)) ⟨fun c i h => f2 c i (by first | decide | omega), fun i => f2 389 i (by first | decide | omega)⟩ (ZB_mono hB5 (by first | decide | omega)) hF hq hv hOD9 hG9⟩
    · exact absurd (q1 rfl).1 n1
  · obtain ⟨n1, x1⟩ := p1 rfl
    rcases (show z2 = 0 ∨ z2 = 1 by omega) with rfl | rfl
    · exact absurd n1 (q2 rfl).1
    · obtain ⟨-, y1⟩ := q1 rfl
      exact ⟨_, t1, t2, r1, r2, g1, ZS_mk ⟨hT, hK⟩ x1 y1 (fun c i h => f1 c i (by first | decide | omega)) ⟨fun c i h => f2 c i (by first | decide | omega), fun i => f2 389 i (by first | decide | omega)⟩ (ZB_kp (ZB_mono hB5 (by first | decide | omega)) (by rw [sgM_z]; omega)) hF hq hv hOD9 (ZG_kp hG9 (zin_eq hG9.1 hT6 (fun i hi => sgM_p hi)))⟩
theorem zs_home257 {n B c : Nat} {t : en_H} (g0 : ai_HG ah_G t) (hE : ai_E t) (hP : SPk 257 t) (hZ : ZS B t) (hB : B ≤ 900000) (hc : c < 4294967296) : zs_P 48 49 [gx_r 0, .inl c] [gx_r 383, .inl c] (B + 30) t n := by
  obtain ⟨k10, w, L, hR, hC, hX⟩ := hP
  obtain ⟨T, K, σ, u, τ, F, μ, q, v, ⟨hT, hK⟩, hS, hS', hB5, hF, hq, hv, O9, D9, hOD9, hG9⟩ := hZ
  have eT := wv_one hT (hR.1 2 (by decide))
  have eK := wv_one hK (hR.1 4 (by decide))
  subst eT eK
  have eO := wv_one hOD9.1 (hR.1 0 (by decide))
  have eD := wv_one hOD9.2 (hR.1 1 (by decide))
  subst eO eD
  have hw := WS_of hR
  have hT6 := hw.1.2.2.1
  have hK2 := hw.1.2.2.2.2.1
  have hb0 := zs_sbd g0 hS.1
  have hsm := zs_sum hE hS.1
  have hu := hB5.1
  have hσ := hB5.2.1
  obtain ⟨_, r1, z1, t1, rfl, g1, f1, pz, p1, p2⟩ := sc_home257 53 n g0 hC hw hb0 k10 hS' hu hc
  have hR1 : RW t1 w L := RW_keep hR (fun i hi => f1 389 i (by first | decide | omega)) (fun c i hc _ => f1 c i (by first | decide | omega))
  have hS1 : RS t1 σ u τ F μ q v := RS_keep hS hu (fun c i hc => f1 c i (by unfold RSC at hc; omega))
  obtain ⟨_, r2, z2, t2, rfl, g2, f2, qz, q1, q2⟩ := sr_home 57 n g1 hR1 hS1 hu hb0 hc
  rcases (show z1 = 0 ∨ z1 = 1 by omega) with rfl | rfl
  · obtain ⟨n1, x1⟩ := p2 rfl
    rcases (show z2 = 0 ∨ z2 = 1 by omega) with rfl | rfl
    · obtain ⟨-, y1⟩ := q2 rfl
      exact ⟨_, t1, t2, r1, r2, g1, ZS_mk ⟨hT, hK⟩ x1 y1 (fun c i h => f1 c i (by first | decide | omega)) ⟨fun c i h => f2 c i (by first | decide | omega), fun i => f2 389 i (by first | decide | omega)⟩ (ZB_mono hB5 (by first | decide | omega)) hF hq hv hOD9 hG9⟩
    · exact absurd (q1 rfl).1 n1
  · obtain ⟨n1, x1⟩ := p1 rfl
    rcases (show z2 = 0 ∨ z2 = 1 by omega) with rfl | rfl
    · exact absurd n1 (q2 rfl).1
    · obtain ⟨-, y1⟩ := q1 rfl
      exact ⟨_, t1, t2, r1, r2, g1, ZS_mk ⟨hT, hK⟩ x1 y1 (fun c i h => f1 c i (by first | decide | omega)) ⟨fun c i h => f2 c i (by first | decide | omega), fun i => f2 389 i (by first | decide | omega)⟩ (ZB_kp (ZB_mono hB5 (by first | decide | omega)) (by rw [sgM_z]; omega)) hF hq hv hOD9 (ZG_kp hG9 (zin_eq hG9.1 hT6 (fun i hi => sgM_p hi)))⟩
theorem zs_lend191 {n B c x : Nat} {t : en_H} (g0 : ai_HG ah_G t) (hE : ai_E t) (hP : SPk 191 t) (hZ : ZS B t) (hB : B ≤ 900000) (hc : c < 4294967296) (hx : x < 4294967296) : zs_P 46 47 [gx_r 0, .inl c, .inl x] [gx_r 383, .inl c, .inl x] (B + 30) t n := by
  obtain ⟨k10, w, L, hR, hC, hX⟩ := hP
  obtain ⟨T, K, σ, u, τ, F, μ, q, v, ⟨hT, hK⟩, hS, hS', hB5, hF, hq, hv, O9, D9, hOD9, hG9⟩ := hZ
  have eT := wv_one hT (hR.1 2 (by decide))
  have eK := wv_one hK (hR.1 4 (by decide))
  subst eT eK
  have eO := wv_one hOD9.1 (hR.1 0 (by decide))
  have eD := wv_one hOD9.2 (hR.1 1 (by decide))
  subst eO eD
  have hw := WS_of hR
  have hT6 := hw.1.2.2.1
  have hK2 := hw.1.2.2.2.2.1
  have hb0 := zs_sbd g0 hS.1
  have hsm := zs_sum hE hS.1
  have hu := hB5.1
  have hσ := hB5.2.1
  obtain ⟨_, r1, z1, t1, rfl, g1, f1, p1, p2⟩ := sc_lend191 53 n g0 hC hw hb0 k10 hS' hu hsm hc hx
  have hR1 : RW t1 w L := RW_keep hR (fun i hi => f1 389 i (by first | decide | omega)) (fun c i hc _ => f1 c i (by first | decide | omega))
  have hS1 : RS t1 σ u τ F μ q v := RS_keep hS hu (fun c i hc => f1 c i (by unfold RSC at hc; omega))
  obtain ⟨_, r2, z2, t2, rfl, g2, f2, q1, q2⟩ := sr_lend 56 n g1 hR1 hS1 hu hb0 hsm hc hx
  by_cases c9 : c < w 0 4 ∧ (1 ≤ x ∧ x ≤ 999) ∧ mayL w σ c
  · obtain ⟨rfl, x1⟩ := p1 c9
    obtain ⟨rfl, y1⟩ := q1 c9
    exact ⟨_, t1, t2, r1, r2, g1, ZS_mk ⟨hT, hK⟩ x1 y1 (fun c i h => f1 c i (by first | decide | omega)) ⟨fun c i h => f2 c i (by first | decide | omega), fun i => f2 389 i (by first | decide | omega)⟩ (ZB_kp (ZB_mono hB5 (by first | decide | omega)) (by rw [sgL_z (by first | decide | omega)]; omega)) hF hq hv hOD9 (ZG_kp hG9 (zin_eq hG9.1 hT6 (fun i hi => sgL_p (by first | decide | omega) hi)))⟩
  · obtain ⟨rfl, x1⟩ := p2 c9
    obtain ⟨rfl, y1⟩ := q2 c9
    exact ⟨_, t1, t2, r1, r2, g1, ZS_mk ⟨hT, hK⟩ x1 y1 (fun c i h => f1 c i (by first | decide | omega)) ⟨fun c i h => f2 c i (by first | decide | omega), fun i => f2 389 i (by first | decide | omega)⟩ (ZB_mono hB5 (by first | decide | omega)) hF hq hv hOD9 hG9⟩
theorem zs_lend257 {n B c x : Nat} {t : en_H} (g0 : ai_HG ah_G t) (hE : ai_E t) (hP : SPk 257 t) (hZ : ZS B t) (hB : B ≤ 900000) (hc : c < 4294967296) (hx : x < 4294967296) : zs_P 46 47 [gx_r 0, .inl c, .inl x] [gx_r 383, .inl c, .inl x] (B + 30) t n := by
  obtain ⟨k10, w, L, hR, hC, hX⟩ := hP
  obtain ⟨T, K, σ, u, τ, F, μ, q, v, ⟨hT, hK⟩, hS, hS', hB5, hF, hq, hv, O9, D9, hOD9, hG9⟩ := hZ
  have eT := wv_one hT (hR.1 2 (by decide))
  have eK := wv_one hK (hR.1 4 (by decide))
  subst eT eK
  have eO := wv_one hOD9.1 (hR.1 0 (by decide))
  have eD := wv_one hOD9.2 (hR.1 1 (by decide))
  subst eO eD
  have hw := WS_of hR
  have hT6 := hw.1.2.2.1
  have hK2 := hw.1.2.2.2.2.1
  have hb0 := zs_sbd g0 hS.1
  have hsm := zs_sum hE hS.1
  have hu := hB5.1
  have hσ := hB5.2.1
  obtain ⟨_, r1, z1, t1, rfl, g1, f1, p1, p2⟩ := sc_lend257 53 n g0 hC hw hb0 k10 hS' hu hsm hc hx
  have hR1 : RW t1 w L := RW_keep hR (fun i hi => f1 389 i (by first | decide | omega)) (fun c i hc _ => f1 c i (by first | decide | omega))
  have hS1 : RS t1 σ u τ F μ q v := RS_keep hS hu (fun c i hc => f1 c i (by unfold RSC at hc; omega))
  obtain ⟨_, r2, z2, t2, rfl, g2, f2, q1, q2⟩ := sr_lend 56 n g1 hR1 hS1 hu hb0 hsm hc hx
  by_cases c9 : c < w 0 4 ∧ (1 ≤ x ∧ x ≤ 999) ∧ mayL w σ c
  · obtain ⟨rfl, x1⟩ := p1 c9
    obtain ⟨rfl, y1⟩ := q1 c9
    exact ⟨_, t1, t2, r1, r2, g1, ZS_mk ⟨hT, hK⟩ x1 y1 (fun c i h => f1 c i (by first | decide | omega)) ⟨fun c i h => f2 c i (by first | decide | omega), fun i => f2 389 i (by first | decide | omega)⟩ (ZB_kp (ZB_mono hB5 (by first | decide | omega)) (by rw [sgL_z (by first | decide | omega)]; omega)) hF hq hv hOD9 (ZG_kp hG9 (zin_eq hG9.1 hT6 (fun i hi => sgL_p (by first | decide | omega) hi)))⟩
  · obtain ⟨rfl, x1⟩ := p2 c9
    obtain ⟨rfl, y1⟩ := q2 c9
    exact ⟨_, t1, t2, r1, r2, g1, ZS_mk ⟨hT, hK⟩ x1 y1 (fun c i h => f1 c i (by first | decide | omega)) ⟨fun c i h => f2 c i (by first | decide | omega), fun i => f2 389 i (by first | decide | omega)⟩ (ZB_mono hB5 (by first | decide | omega)) hF hq hv hOD9 hG9⟩
theorem zs_undo191 {n B : Nat} {t : en_H} (g0 : ai_HG ah_G t) (hE : ai_E t) (hP : SPk 191 t) (hZ : ZS B t) (hB : B ≤ 900000)  : zs_P 50 51 [gx_r 0] [gx_r 383] (B + 30) t n := by
  obtain ⟨k10, w, L, hR, hC, hX⟩ := hP
  obtain ⟨T, K, σ, u, τ, F, μ, q, v, ⟨hT, hK⟩, hS, hS', hB5, hF, hq, hv, O9, D9, hOD9, hG9⟩ := hZ
  have eT := wv_one hT (hR.1 2 (by decide))
  have eK := wv_one hK (hR.1 4 (by decide))
  subst eT eK
  have eO := wv_one hOD9.1 (hR.1 0 (by decide))
  have eD := wv_one hOD9.2 (hR.1 1 (by decide))
  subst eO eD
  have hw := WS_of hR
  have hT6 := hw.1.2.2.1
  have hK2 := hw.1.2.2.2.2.1
  have hb0 := zs_sbd g0 hS.1
  have hsm := zs_sum hE hS.1
  have hu := hB5.1
  have hσ := hB5.2.1
  obtain ⟨_, r1, z1, t1, rfl, g1, f1, p2, p1⟩ := sc_undo 57 n g0 hT6 hK2 hS' hu
  have hR1 : RW t1 w L := RW_keep hR (fun i hi => f1 389 i (by first | decide | omega)) (fun c i hc _ => f1 c i (by first | decide | omega))
  have hS1 : RS t1 σ u τ F μ q v := RS_keep hS hu (fun c i hc => f1 c i (by unfold RSC at hc; omega))
  obtain ⟨_, r2, z2, t2, rfl, g2, f2, q2, q1⟩ := sr_undo 58 n g1 hS1 hu
  by_cases c9 : 0 < u
  · obtain ⟨rfl, x1⟩ := p1 c9
    obtain ⟨rfl, y1⟩ := q1 c9
    exact ⟨_, t1, t2, r1, r2, g1, ZS_mk ⟨hT, hK⟩ x1 y1 (fun c i h => f1 c i (by first | decide | omega)) ⟨fun c i h => f2 c i (by first | decide | omega), fun i => f2 389 i (by first | decide | omega)⟩ ⟨by omega, Nat.le_trans (hB5.2.2.1 (u - 1) (by first | decide | omega)) (by first | decide | omega), fun k hk => Nat.le_trans (hB5.2.2.1 k (by first | decide | omega)) (by first | decide | omega), fun m hm z => Nat.le_trans (hB5.2.2.2 m hm z) (by first | decide | omega)⟩ hF hq hv hOD9 ⟨hG9.2.1 (u - 1) (by first | decide | omega), fun k hk => hG9.2.1 k (by first | decide | omega), hG9.2.2⟩⟩
  · obtain ⟨rfl, x1⟩ := p2 (by first | decide | omega)
    obtain ⟨rfl, y1⟩ := q2 (by first | decide | omega)
    exact ⟨_, t1, t2, r1, r2, g1, ZS_mk ⟨hT, hK⟩ x1 y1 (fun c i h => f1 c i (by first | decide | omega)) ⟨fun c i h => f2 c i (by first | decide | omega), fun i => f2 389 i (by first | decide | omega)⟩ (ZB_mono hB5 (by first | decide | omega)) hF hq hv hOD9 hG9⟩
theorem zs_undo257 {n B : Nat} {t : en_H} (g0 : ai_HG ah_G t) (hE : ai_E t) (hP : SPk 257 t) (hZ : ZS B t) (hB : B ≤ 900000)  : zs_P 50 51 [gx_r 0] [gx_r 383] (B + 30) t n := by
  obtain ⟨k10, w, L, hR, hC, hX⟩ := hP
  obtain ⟨T, K, σ, u, τ, F, μ, q, v, ⟨hT, hK⟩, hS, hS', hB5, hF, hq, hv, O9, D9, hOD9, hG9⟩ := hZ
  have eT := wv_one hT (hR.1 2 (by decide))
  have eK := wv_one hK (hR.1 4 (by decide))
  subst eT eK
  have eO := wv_one hOD9.1 (hR.1 0 (by decide))
  have eD := wv_one hOD9.2 (hR.1 1 (by decide))
  subst eO eD
  have hw := WS_of hR
  have hT6 := hw.1.2.2.1
  have hK2 := hw.1.2.2.2.2.1
  have hb0 := zs_sbd g0 hS.1
  have hsm := zs_sum hE hS.1
  have hu := hB5.1
  have hσ := hB5.2.1
  obtain ⟨_, r1, z1, t1, rfl, g1, f1, p2, p1⟩ := sc_undo 57 n g0 hT6 hK2 hS' hu
  have hR1 : RW t1 w L := RW_keep hR (fun i hi => f1 389 i (by first | decide | omega)) (fun c i hc _ => f1 c i (by first | decide | omega))
  have hS1 : RS t1 σ u τ F μ q v := RS_keep hS hu (fun c i hc => f1 c i (by unfold RSC at hc; omega))
  obtain ⟨_, r2, z2, t2, rfl, g2, f2, q2, q1⟩ := sr_undo 58 n g1 hS1 hu
  by_cases c9 : 0 < u
  · obtain ⟨rfl, x1⟩ := p1 c9
    obtain ⟨rfl, y1⟩ := q1 c9
    exact ⟨_, t1, t2, r1, r2, g1, ZS_mk ⟨hT, hK⟩ x1 y1 (fun c i h => f1 c i (by first | decide | omega)) ⟨fun c i h => f2 c i (by first | decide | omega), fun i => f2 389 i (by first | decide | omega)⟩ ⟨by omega, Nat.le_trans (hB5.2.2.1 (u - 1) (by first | decide | omega)) (by first | decide | omega), fun k hk => Nat.le_trans (hB5.2.2.1 k (by first | decide | omega)) (by first | decide | omega), fun m hm z => Nat.le_trans (hB5.2.2.2 m hm z) (by first | decide | omega)⟩ hF hq hv hOD9 ⟨hG9.2.1 (u - 1) (by first | decide | omega), fun k hk => hG9.2.1 k (by first | decide | omega), hG9.2.2⟩⟩
  · obtain ⟨rfl, x1⟩ := p2 (by first | decide | omega)
    obtain ⟨rfl, y1⟩ := q2 (by first | decide | omega)
    exact ⟨_, t1, t2, r1, r2, g1, ZS_mk ⟨hT, hK⟩ x1 y1 (fun c i h => f1 c i (by first | decide | omega)) ⟨fun c i h => f2 c i (by first | decide | omega), fun i => f2 389 i (by first | decide | omega)⟩ (ZB_mono hB5 (by first | decide | omega)) hF hq hv hOD9 hG9⟩
theorem zs_see191 {n B x y z : Nat} {t : en_H} (g0 : ai_HG ah_G t) (hE : ai_E t) (hP : SPk 191 t) (hZ : ZS B t) (hB : B ≤ 900000) (hx : x < 4294967296) (hy : y < 4294967296) (hz : z < 4294967296) : zs_P 62 63 [gx_r 0, .inl x, .inl y, .inl z] [gx_r 383, .inl x, .inl y, .inl z] (B + 30) t n := by
  obtain ⟨k10, w, L, hR, hC, hX⟩ := hP
  obtain ⟨T, K, σ, u, τ, F, μ, q, v, ⟨hT, hK⟩, hS, hS', hB5, hF, hq, hv, O9, D9, hOD9, hG9⟩ := hZ
  have eT := wv_one hT (hR.1 2 (by decide))
  have eK := wv_one hK (hR.1 4 (by decide))
  subst eT eK
  have eO := wv_one hOD9.1 (hR.1 0 (by decide))
  have eD := wv_one hOD9.2 (hR.1 1 (by decide))
  subst eO eD
  have hw := WS_of hR
  have hT6 := hw.1.2.2.1
  have hK2 := hw.1.2.2.2.2.1
  have hb0 := zs_sbd g0 hS.1
  have hsm := zs_sum hE hS.1
  have hu := hB5.1
  have hσ := hB5.2.1
  obtain ⟨_, r1, z1, t1, rfl, g1, f1, p1, p2⟩ := sc_see191 58 n g0 hC hw hb0 k10 hS' hu (by first | decide | omega) hq hx hy hz
  have hR1 : RW t1 w L := RW_keep hR (fun i hi => f1 389 i (by first | decide | omega)) (fun c i hc _ => f1 c i (by first | decide | omega))
  have hS1 : RS t1 σ u τ F μ q v := RS_keep hS hu (fun c i hc => f1 c i (by unfold RSC at hc; omega))
  obtain ⟨_, r2, z2, t2, rfl, g2, f2, q1, q2⟩ := sr_see 57 n g1 hR1 hS1 hu hb0 hq hx hy hz
  by_cases c9 : x < w 0 2 ∧ y ≤ 40 ∧ z ≤ 8 ∧ q < 8
  · obtain ⟨rfl, x1⟩ := p1 c9
    obtain ⟨rfl, y1⟩ := q1 c9
    exact ⟨_, t1, t2, r1, r2, g1, ZS_mk ⟨hT, hK⟩ x1 y1 (fun c i h => f1 c i (by first | decide | omega)) ⟨fun c i h => f2 c i (by first | decide | omega), fun i => f2 389 i (by first | decide | omega)⟩ (ZB_mono hB5 (by first | decide | omega)) hF (by first | decide | omega) hv hOD9 hG9⟩
  · obtain ⟨rfl, x1⟩ := p2 c9
    obtain ⟨rfl, y1⟩ := q2 c9
    exact ⟨_, t1, t2, r1, r2, g1, ZS_mk ⟨hT, hK⟩ x1 y1 (fun c i h => f1 c i (by first | decide | omega)) ⟨fun c i h => f2 c i (by first | decide | omega), fun i => f2 389 i (by first | decide | omega)⟩ (ZB_mono hB5 (by first | decide | omega)) hF hq hv hOD9 hG9⟩
theorem zs_see257 {n B x y z : Nat} {t : en_H} (g0 : ai_HG ah_G t) (hE : ai_E t) (hP : SPk 257 t) (hZ : ZS B t) (hB : B ≤ 900000) (hx : x < 4294967296) (hy : y < 4294967296) (hz : z < 4294967296) : zs_P 62 63 [gx_r 0, .inl x, .inl y, .inl z] [gx_r 383, .inl x, .inl y, .inl z] (B + 30) t n := by
  obtain ⟨k10, w, L, hR, hC, hX⟩ := hP
  obtain ⟨T, K, σ, u, τ, F, μ, q, v, ⟨hT, hK⟩, hS, hS', hB5, hF, hq, hv, O9, D9, hOD9, hG9⟩ := hZ
  have eT := wv_one hT (hR.1 2 (by decide))
  have eK := wv_one hK (hR.1 4 (by decide))
  subst eT eK
  have eO := wv_one hOD9.1 (hR.1 0 (by decide))
  have eD := wv_one hOD9.2 (hR.1 1 (by decide))
  subst eO eD
  have hw := WS_of hR
  have hT6 := hw.1.2.2.1
  have hK2 := hw.1.2.2.2.2.1
  have hb0 := zs_sbd g0 hS.1
  have hsm := zs_sum hE hS.1
  have hu := hB5.1
  have hσ := hB5.2.1
  obtain ⟨_, r1, z1, t1, rfl, g1, f1, p1, p2⟩ := sc_see257 58 n g0 hC hw hb0 k10 hS' hu (by first | decide | omega) hq hx hy hz
  have hR1 : RW t1 w L := RW_keep hR (fun i hi => f1 389 i (by first | decide | omega)) (fun c i hc _ => f1 c i (by first | decide | omega))
  have hS1 : RS t1 σ u τ F μ q v := RS_keep hS hu (fun c i hc => f1 c i (by unfold RSC at hc; omega))
  obtain ⟨_, r2, z2, t2, rfl, g2, f2, q1, q2⟩ := sr_see 57 n g1 hR1 hS1 hu hb0 hq hx hy hz
  by_cases c9 : x < w 0 2 ∧ y ≤ 40 ∧ z ≤ 8 ∧ q < 8
  · obtain ⟨rfl, x1⟩ := p1 c9
    obtain ⟨rfl, y1⟩ := q1 c9
    exact ⟨_, t1, t2, r1, r2, g1, ZS_mk ⟨hT, hK⟩ x1 y1 (fun c i h => f1 c i (by first | decide | omega)) ⟨fun c i h => f2 c i (by first | decide | omega), fun i => f2 389 i (by first | decide | omega)⟩ (ZB_mono hB5 (by first | decide | omega)) hF (by first | decide | omega) hv hOD9 hG9⟩
  · obtain ⟨rfl, x1⟩ := p2 c9
    obtain ⟨rfl, y1⟩ := q2 c9
    exact ⟨_, t1, t2, r1, r2, g1, ZS_mk ⟨hT, hK⟩ x1 y1 (fun c i h => f1 c i (by first | decide | omega)) ⟨fun c i h => f2 c i (by first | decide | omega), fun i => f2 389 i (by first | decide | omega)⟩ (ZB_mono hB5 (by first | decide | omega)) hF hq hv hOD9 hG9⟩
theorem zs_mark191 {n B m b : Nat} {t : en_H} (g0 : ai_HG ah_G t) (hE : ai_E t) (hP : SPk 191 t) (hZ : ZS B t) (hB : B ≤ 900000) (hm : m < 4294967296) (hb : b ≤ 1) : zs_P 83 84 [gx_r 0, .inl m, .inl b] [gx_r 383, .inl m, .inl b] (B + 30) t n := by
  obtain ⟨k10, w, L, hR, hC, hX⟩ := hP
  obtain ⟨T, K, σ, u, τ, F, μ, q, v, ⟨hT, hK⟩, hS, hS', hB5, hF, hq, hv, O9, D9, hOD9, hG9⟩ := hZ
  have eT := wv_one hT (hR.1 2 (by decide))
  have eK := wv_one hK (hR.1 4 (by decide))
  subst eT eK
  have eO := wv_one hOD9.1 (hR.1 0 (by decide))
  have eD := wv_one hOD9.2 (hR.1 1 (by decide))
  subst eO eD
  have hw := WS_of hR
  have hT6 := hw.1.2.2.1
  have hK2 := hw.1.2.2.2.2.1
  have hb0 := zs_sbd g0 hS.1
  have hsm := zs_sum hE hS.1
  have hu := hB5.1
  have hσ := hB5.2.1
  obtain ⟨_, r1, z1, t1, rfl, g1, f1, p1, p2, p3⟩ := sc_mark 58 n g0 hm hb hT6 hK2 hF hq hv hS'
  have hR1 : RW t1 w L := RW_keep hR (fun i hi => f1 389 i (by first | decide | omega)) (fun c i hc _ => f1 c i (by first | decide | omega))
  have hS1 : RS t1 σ u τ F μ q v := RS_keep hS hu (fun c i hc => f1 c i (by unfold RSC at hc; omega))
  obtain ⟨_, r2, z2, t2, rfl, g2, f2, q1, q2, q3⟩ := sr_mark 58 n g1 hm hb hF hu hS1
  by_cases c8 : m ≤ 3 ∧ b = 0
  · obtain ⟨rfl, x1⟩ := p2 c8
    obtain ⟨rfl, y1⟩ := q2 c8
    refine ⟨_, t1, t2, r1, r2, g1, ZS_mk ⟨hT, hK⟩ x1 y1 (fun c i h => f1 c i (by first | decide | omega)) ⟨fun c i h => f2 c i (by first | decide | omega), fun i => f2 389 i (by first | decide | omega)⟩ ⟨hu, by omega, fun k hk => Nat.le_trans (hB5.2.2.1 k hk) (by first | decide | omega), fun i hi z => ?_⟩ (fun i hi => ?_) hq (fun i hi z => ?_) hOD9 ⟨hG9.1, hG9.2.1, fun i hi z => by
      by_cases e9 : i = m
      · subst e9; rw [up1_t]; exact hG9.1
      · rw [up1_f e9] at z ⊢; exact hG9.2.2 i hi z⟩⟩
    · by_cases e9 : i = m
      · subst e9; rw [up1_t]; omega
      · rw [up1_f e9] at z ⊢; exact Nat.le_trans (hB5.2.2.2 i hi z) (by first | decide | omega)
    · by_cases e9 : i = m
      · subst e9; rw [up1_t]; decide
      · rw [up1_f e9]; exact hF i hi
    · by_cases e9 : i = m
      · subst e9; rw [up1_t]; exact hq
      · rw [up1_f e9] at z ⊢; exact hv i hi z
  · by_cases c9 : m ≤ 3 ∧ b = 1 ∧ F m = 1
    · obtain ⟨rfl, x1⟩ := p3 c9
      obtain ⟨rfl, y1⟩ := q3 c9
      exact ⟨_, t1, t2, r1, r2, g1, ZS_mk ⟨hT, hK⟩ x1 y1 (fun c i h => f1 c i (by first | decide | omega)) ⟨fun c i h => f2 c i (by first | decide | omega), fun i => f2 389 i (by first | decide | omega)⟩ ⟨Nat.zero_le _, Nat.le_trans (hB5.2.2.2 m (by first | decide | omega) c9.2.2) (by first | decide | omega), fun k hk => absurd hk (Nat.not_lt_zero k), fun i hi z => Nat.le_trans (hB5.2.2.2 i hi z) (by first | decide | omega)⟩ hF (hv m (by first | decide | omega) c9.2.2) hv hOD9 ⟨hG9.2.2 m (by first | decide | omega) c9.2.2, fun k hk => absurd hk (Nat.not_lt_zero k), hG9.2.2⟩⟩
    · have c7 : ¬ (m ≤ 3 ∧ (b = 0 ∨ F m = 1)) := fun z => by
        rcases z.2 with e | e
        · exact c8 ⟨z.1, e⟩
        · rcases (show b = 0 ∨ b = 1 by omega) with f | f
          · exact c8 ⟨z.1, f⟩
          · exact c9 ⟨z.1, f, e⟩
      obtain ⟨rfl, x1⟩ := p1 c7
      obtain ⟨rfl, y1⟩ := q1 c7
      exact ⟨_, t1, t2, r1, r2, g1, ZS_mk ⟨hT, hK⟩ x1 y1 (fun c i h => f1 c i (by first | decide | omega)) ⟨fun c i h => f2 c i (by first | decide | omega), fun i => f2 389 i (by first | decide | omega)⟩ (ZB_mono hB5 (by first | decide | omega)) hF hq hv hOD9 hG9⟩
theorem zs_mark257 {n B m b : Nat} {t : en_H} (g0 : ai_HG ah_G t) (hE : ai_E t) (hP : SPk 257 t) (hZ : ZS B t) (hB : B ≤ 900000) (hm : m < 4294967296) (hb : b ≤ 1) : zs_P 83 84 [gx_r 0, .inl m, .inl b] [gx_r 383, .inl m, .inl b] (B + 30) t n := by
  obtain ⟨k10, w, L, hR, hC, hX⟩ := hP
  obtain ⟨T, K, σ, u, τ, F, μ, q, v, ⟨hT, hK⟩, hS, hS', hB5, hF, hq, hv, O9, D9, hOD9, hG9⟩ := hZ
  have eT := wv_one hT (hR.1 2 (by decide))
  have eK := wv_one hK (hR.1 4 (by decide))
  subst eT eK
  have eO := wv_one hOD9.1 (hR.1 0 (by decide))
  have eD := wv_one hOD9.2 (hR.1 1 (by decide))
  subst eO eD
  have hw := WS_of hR
  have hT6 := hw.1.2.2.1
  have hK2 := hw.1.2.2.2.2.1
  have hb0 := zs_sbd g0 hS.1
  have hsm := zs_sum hE hS.1
  have hu := hB5.1
  have hσ := hB5.2.1
  obtain ⟨_, r1, z1, t1, rfl, g1, f1, p1, p2, p3⟩ := sc_mark 58 n g0 hm hb hT6 hK2 hF hq hv hS'
  have hR1 : RW t1 w L := RW_keep hR (fun i hi => f1 389 i (by first | decide | omega)) (fun c i hc _ => f1 c i (by first | decide | omega))
  have hS1 : RS t1 σ u τ F μ q v := RS_keep hS hu (fun c i hc => f1 c i (by unfold RSC at hc; omega))
  obtain ⟨_, r2, z2, t2, rfl, g2, f2, q1, q2, q3⟩ := sr_mark 58 n g1 hm hb hF hu hS1
  by_cases c8 : m ≤ 3 ∧ b = 0
  · obtain ⟨rfl, x1⟩ := p2 c8
    obtain ⟨rfl, y1⟩ := q2 c8
    refine ⟨_, t1, t2, r1, r2, g1, ZS_mk ⟨hT, hK⟩ x1 y1 (fun c i h => f1 c i (by first | decide | omega)) ⟨fun c i h => f2 c i (by first | decide | omega), fun i => f2 389 i (by first | decide | omega)⟩ ⟨hu, by omega, fun k hk => Nat.le_trans (hB5.2.2.1 k hk) (by first | decide | omega), fun i hi z => ?_⟩ (fun i hi => ?_) hq (fun i hi z => ?_) hOD9 ⟨hG9.1, hG9.2.1, fun i hi z => by
      by_cases e9 : i = m
      · subst e9; rw [up1_t]; exact hG9.1
      · rw [up1_f e9] at z ⊢; exact hG9.2.2 i hi z⟩⟩
    · by_cases e9 : i = m
      · subst e9; rw [up1_t]; omega
      · rw [up1_f e9] at z ⊢; exact Nat.le_trans (hB5.2.2.2 i hi z) (by first | decide | omega)
    · by_cases e9 : i = m
      · subst e9; rw [up1_t]; decide
      · rw [up1_f e9]; exact hF i hi
    · by_cases e9 : i = m
      · subst e9; rw [up1_t]; exact hq
      · rw [up1_f e9] at z ⊢; exact hv i hi z
  · by_cases c9 : m ≤ 3 ∧ b = 1 ∧ F m = 1
    · obtain ⟨rfl, x1⟩ := p3 c9
      obtain ⟨rfl, y1⟩ := q3 c9
      exact ⟨_, t1, t2, r1, r2, g1, ZS_mk ⟨hT, hK⟩ x1 y1 (fun c i h => f1 c i (by first | decide | omega)) ⟨fun c i h => f2 c i (by first | decide | omega), fun i => f2 389 i (by first | decide | omega)⟩ ⟨Nat.zero_le _, Nat.le_trans (hB5.2.2.2 m (by first | decide | omega) c9.2.2) (by first | decide | omega), fun k hk => absurd hk (Nat.not_lt_zero k), fun i hi z => Nat.le_trans (hB5.2.2.2 i hi z) (by first | decide | omega)⟩ hF (hv m (by first | decide | omega) c9.2.2) hv hOD9 ⟨hG9.2.2 m (by first | decide | omega) c9.2.2, fun k hk => absurd hk (Nat.not_lt_zero k), hG9.2.2⟩⟩
    · have c7 : ¬ (m ≤ 3 ∧ (b = 0 ∨ F m = 1)) := fun z => by
        rcases z.2 with e | e
        · exact c8 ⟨z.1, e⟩
        · rcases (show b = 0 ∨ b = 1 by omega) with f | f
          · exact c8 ⟨z.1, f⟩
          · exact c9 ⟨z.1, f, e⟩
      obtain ⟨rfl, x1⟩ := p1 c7
      obtain ⟨rfl, y1⟩ := q1 c7
      exact ⟨_, t1, t2, r1, r2, g1, ZS_mk ⟨hT, hK⟩ x1 y1 (fun c i h => f1 c i (by first | decide | omega)) ⟨fun c i h => f2 c i (by first | decide | omega), fun i => f2 389 i (by first | decide | omega)⟩ (ZB_mono hB5 (by first | decide | omega)) hF hq hv hOD9 hG9⟩
end SSQ
