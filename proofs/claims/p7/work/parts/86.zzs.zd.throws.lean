section SZT
/-- both come back with the same, or both have thrown; what is laid in the law's long stays -/
noncomputable def zt_P (mc mr sp : Nat) (ac ar : List en_V) (t : en_H) (n : Nat) : Prop := ∃ (C : Prop) (v : Nat) (t1 : en_H), ai_HG ah_G t1 ∧ (∀ c i, c ≠ 231 → c ≠ 297 → ai_hv t1 c i = ai_hv t c i) ∧ ((C ∧ en_u 61 mc ac t n = some (some (.inl v), t1, n, 0)) ∨ (¬ C ∧ t1 = t ∧ ∃ fuel ls, en_run en_df none (en_u 60) (en_code mc) (fun pc => Nat.beq pc sp) fuel 0 (en_args ac 0) [] t n 0 = some (.inr (sp, ls, [], t, n, 0)))) ∧ ∀ t2 n2, ai_HG ah_G t2 → (∀ c i, c ≠ 412 → ai_hv t2 c i = ai_hv t1 c i) → ∃ b t3, en_u 60 mr ar t2 n2 = some (some (.inl b), t3, n2, 0) ∧ ai_hv t3 412 0 = ai_hv t2 412 0 ∧ (C → b = v ∧ ai_hv t3 383 0 = some (.inl 0)) ∧ (¬ C → ai_hv t3 383 0 = some (.inl 1))
theorem zt_thing191 {n B x y : Nat} {t : en_H} (g0 : ai_HG ah_G t) (hP : SPXk 191 t) (hZ : ZS B t) (hB : B ≤ 900000) (hx : x < 4294967296) (hy : y < 4294967296) : zt_P 87 40 23 [gx_r 0, .inl x, .inl y] [gx_r 383, .inl x, .inl y] t n := by
  obtain ⟨k10, w, L, hR, hC, hX, hi, -⟩ := hP
  obtain ⟨T, K, σ, u, τ, F, μ, q, v, ⟨hT, hK⟩, hS, hS', hB5, -⟩ := hZ
  have eT := wv_one hT (hR.1 2 (by decide))
  have eK := wv_one hK (hR.1 4 (by decide))
  subst eT eK
  have hw := WS_of hR
  have hb := zs_sbd g0 hS.1
  refine ⟨x < w 0 2 ∧ y ≤ 3, tha w σ x y, t, g0, fun _ _ _ _ => rfl, ?_, fun t2 n2 g2 e2 => ?_⟩
  · by_cases c : x < w 0 2 ∧ y ≤ 3
    · obtain ⟨_, r1, rfl⟩ := sc_thing191 58 n g0 hC hw k10 hS'.1 hb hi c.1 c.2
      exact Or.inl ⟨c, r1⟩
    · exact Or.inr ⟨c, rfl, sc_thingx191 n g0 hC hw k10 hS'.1 hb hi hx hy c⟩
  · obtain ⟨_, r2, b, t3, rfl, b1, b2, b3⟩ := sr_thing 57 n2 g2 (RW_keep hR (fun i hi => e2 389 i (by decide)) (fun c i hc _ => e2 c i (by first | decide | omega))) (blk_keep hS.1 (fun j hj => e2 399 _ (by decide))) hb hx hy
    exact ⟨_, _, r2, b3, fun c => b1 c, fun c => b2 c⟩
theorem zt_crew191 {n B x y : Nat} {t : en_H} (g0 : ai_HG ah_G t) (hP : SPXk 191 t) (hZ : ZS B t) (hB : B ≤ 900000) (hx : x < 4294967296) (hy : y < 4294967296) : zt_P 88 41 24 [gx_r 0, .inl x, .inl y] [gx_r 383, .inl x, .inl y] t n := by
  obtain ⟨k10, w, L, hR, hC, hX, hi, -⟩ := hP
  obtain ⟨T, K, σ, u, τ, F, μ, q, v, ⟨hT, hK⟩, hS, hS', hB5, -⟩ := hZ
  have eT := wv_one hT (hR.1 2 (by decide))
  have eK := wv_one hK (hR.1 4 (by decide))
  subst eT eK
  have hw := WS_of hR
  have hb := zs_sbd g0 hS.1
  refine ⟨x < w 0 4 ∧ y ≤ 7, cwa w σ x y, t, g0, fun _ _ _ _ => rfl, ?_, fun t2 n2 g2 e2 => ?_⟩
  · by_cases c : x < w 0 4 ∧ y ≤ 7
    · obtain ⟨_, r1, rfl⟩ := sc_crew191 58 n g0 hC hw k10 hS'.1 hb hi c.1 c.2
      exact Or.inl ⟨c, r1⟩
    · exact Or.inr ⟨c, rfl, sc_crewx191 n g0 hC hw k10 hS'.1 hb hi hx hy c⟩
  · obtain ⟨_, r2, b, t3, rfl, b1, b2, b3⟩ := sr_crew 57 n2 g2 (RW_keep hR (fun i hi => e2 389 i (by decide)) (fun c i hc _ => e2 c i (by first | decide | omega))) (blk_keep hS.1 (fun j hj => e2 399 _ (by decide))) hb hx hy
    exact ⟨_, _, r2, b3, fun c => b1 c, fun c => b2 c⟩
theorem zt_share191 {n B : Nat} {t : en_H} (g0 : ai_HG ah_G t) (hP : SPXk 191 t) (hZ : ZS B t) (hB : B ≤ 900000) : zt_P 89 70 14 [gx_r 0] [gx_r 383] t n := by
  obtain ⟨k10, w, L, hR, hC, hX, hi, -⟩ := hP
  obtain ⟨T, K, σ, u, τ, F, μ, q, v, ⟨hT, hK⟩, hS, hS', hB5, -⟩ := hZ
  have eT := wv_one hT (hR.1 2 (by decide))
  have eK := wv_one hK (hR.1 4 (by decide))
  subst eT eK
  have hw := WS_of hR
  have hb := zs_sbd g0 hS.1
  have hσ := hB5.2.1
  have hK2 := hw.1.2.2.2.2.1
  have ho : ∀ c, c < w 0 4 → σ (11 + c) ≤ 1 ∧ σ (7 + c) ≤ 19998 := fun c hc => by
    obtain ⟨-, ⟨h7, h8⟩, ⟨h11, h12⟩, -⟩ := hb
    rcases (show c = 0 ∨ c = 1 by omega) with rfl | rfl
    · exact ⟨h11, h7⟩
    · exact ⟨h12, h8⟩
  by_cases h9 : w 0 4 = 2
  · obtain ⟨_, r1, v, t1, rfl, g1, e1, N, hN, hv⟩ := sc_share191 56 n g0 hC hw hS'.1 k10 (by first | decide | omega) ho h9
    refine ⟨w 0 4 = 2, v, t1, g1, fun c i h1 h2 => e1 c i h1, Or.inl ⟨h9, r1⟩, fun t2 n2 g2 e2 => ?_⟩
    obtain ⟨_, r2, b, t3, rfl, b1, b2, b3⟩ := sr_share 55 n2 (N := N) g2 (RW_keep hR (fun i hi => (e2 389 i (by decide)).trans (e1 389 i (by decide))) (fun c i hc _ => (e2 c i (by first | decide | omega)).trans (e1 c i (by first | decide | omega)))) (blk_keep hS.1 (fun j hj => (e2 399 _ (by decide)).trans (e1 399 _ (by decide)))) (by first | decide | omega) ho (fun _ => hN)
    exact ⟨_, _, r2, b3, fun c => ⟨(b1 c).2.trans hv.symm, (b1 c).1⟩, fun c => b2 c⟩
  · refine ⟨w 0 4 = 2, 0, t, g0, fun _ _ _ _ => rfl, Or.inr ⟨h9, rfl, sc_sharex191 n g0 hC hw k10 h9⟩, fun t2 n2 g2 e2 => ?_⟩
    obtain ⟨_, r2, b, t3, rfl, b1, b2, b3⟩ := sr_share 55 n2 (N := 0) g2 (RW_keep hR (fun i hi => e2 389 i (by decide)) (fun c i hc _ => e2 c i (by first | decide | omega))) (blk_keep hS.1 (fun j hj => e2 399 _ (by decide))) (by first | decide | omega) ho (fun z => absurd z h9)
    exact ⟨_, _, r2, b3, fun c => absurd c h9, fun c => b2 c⟩
theorem zt_thing257 {n B x y : Nat} {t : en_H} (g0 : ai_HG ah_G t) (hP : SPXk 257 t) (hZ : ZS B t) (hB : B ≤ 900000) (hx : x < 4294967296) (hy : y < 4294967296) : zt_P 87 40 23 [gx_r 0, .inl x, .inl y] [gx_r 383, .inl x, .inl y] t n := by
  obtain ⟨k10, w, L, hR, hC, hX, hi, -⟩ := hP
  obtain ⟨T, K, σ, u, τ, F, μ, q, v, ⟨hT, hK⟩, hS, hS', hB5, -⟩ := hZ
  have eT := wv_one hT (hR.1 2 (by decide))
  have eK := wv_one hK (hR.1 4 (by decide))
  subst eT eK
  have hw := WS_of hR
  have hb := zs_sbd g0 hS.1
  refine ⟨x < w 0 2 ∧ y ≤ 3, tha w σ x y, t, g0, fun _ _ _ _ => rfl, ?_, fun t2 n2 g2 e2 => ?_⟩
  · by_cases c : x < w 0 2 ∧ y ≤ 3
    · obtain ⟨_, r1, rfl⟩ := sc_thing257 58 n g0 hC hw k10 hS'.1 hb hi c.1 c.2
      exact Or.inl ⟨c, r1⟩
    · exact Or.inr ⟨c, rfl, sc_thingx257 n g0 hC hw k10 hS'.1 hb hi hx hy c⟩
  · obtain ⟨_, r2, b, t3, rfl, b1, b2, b3⟩ := sr_thing 57 n2 g2 (RW_keep hR (fun i hi => e2 389 i (by decide)) (fun c i hc _ => e2 c i (by first | decide | omega))) (blk_keep hS.1 (fun j hj => e2 399 _ (by decide))) hb hx hy
    exact ⟨_, _, r2, b3, fun c => b1 c, fun c => b2 c⟩
theorem zt_crew257 {n B x y : Nat} {t : en_H} (g0 : ai_HG ah_G t) (hP : SPXk 257 t) (hZ : ZS B t) (hB : B ≤ 900000) (hx : x < 4294967296) (hy : y < 4294967296) : zt_P 88 41 24 [gx_r 0, .inl x, .inl y] [gx_r 383, .inl x, .inl y] t n := by
  obtain ⟨k10, w, L, hR, hC, hX, hi, -⟩ := hP
  obtain ⟨T, K, σ, u, τ, F, μ, q, v, ⟨hT, hK⟩, hS, hS', hB5, -⟩ := hZ
  have eT := wv_one hT (hR.1 2 (by decide))
  have eK := wv_one hK (hR.1 4 (by decide))
  subst eT eK
  have hw := WS_of hR
  have hb := zs_sbd g0 hS.1
  refine ⟨x < w 0 4 ∧ y ≤ 7, cwa w σ x y, t, g0, fun _ _ _ _ => rfl, ?_, fun t2 n2 g2 e2 => ?_⟩
  · by_cases c : x < w 0 4 ∧ y ≤ 7
    · obtain ⟨_, r1, rfl⟩ := sc_crew257 58 n g0 hC hw k10 hS'.1 hb hi c.1 c.2
      exact Or.inl ⟨c, r1⟩
    · exact Or.inr ⟨c, rfl, sc_crewx257 n g0 hC hw k10 hS'.1 hb hi hx hy c⟩
  · obtain ⟨_, r2, b, t3, rfl, b1, b2, b3⟩ := sr_crew 57 n2 g2 (RW_keep hR (fun i hi => e2 389 i (by decide)) (fun c i hc _ => e2 c i (by first | decide | omega))) (blk_keep hS.1 (fun j hj => e2 399 _ (by decide))) hb hx hy
    exact ⟨_, _, r2, b3, fun c => b1 c, fun c => b2 c⟩
theorem zt_share257 {n B : Nat} {t : en_H} (g0 : ai_HG ah_G t) (hP : SPXk 257 t) (hZ : ZS B t) (hB : B ≤ 900000) : zt_P 89 70 14 [gx_r 0] [gx_r 383] t n := by
  obtain ⟨k10, w, L, hR, hC, hX, hi, -⟩ := hP
  obtain ⟨T, K, σ, u, τ, F, μ, q, v, ⟨hT, hK⟩, hS, hS', hB5, -⟩ := hZ
  have eT := wv_one hT (hR.1 2 (by decide))
  have eK := wv_one hK (hR.1 4 (by decide))
  subst eT eK
  have hw := WS_of hR
  have hb := zs_sbd g0 hS.1
  have hσ := hB5.2.1
  have hK2 := hw.1.2.2.2.2.1
  have ho : ∀ c, c < w 0 4 → σ (11 + c) ≤ 1 ∧ σ (7 + c) ≤ 19998 := fun c hc => by
    obtain ⟨-, ⟨h7, h8⟩, ⟨h11, h12⟩, -⟩ := hb
    rcases (show c = 0 ∨ c = 1 by omega) with rfl | rfl
    · exact ⟨h11, h7⟩
    · exact ⟨h12, h8⟩
  by_cases h9 : w 0 4 = 2
  · obtain ⟨_, r1, v, t1, rfl, g1, e1, N, hN, hv⟩ := sc_share257 56 n g0 hC hw hS'.1 k10 (by first | decide | omega) ho h9
    refine ⟨w 0 4 = 2, v, t1, g1, fun c i h1 h2 => e1 c i h2, Or.inl ⟨h9, r1⟩, fun t2 n2 g2 e2 => ?_⟩
    obtain ⟨_, r2, b, t3, rfl, b1, b2, b3⟩ := sr_share 55 n2 (N := N) g2 (RW_keep hR (fun i hi => (e2 389 i (by decide)).trans (e1 389 i (by decide))) (fun c i hc _ => (e2 c i (by first | decide | omega)).trans (e1 c i (by first | decide | omega)))) (blk_keep hS.1 (fun j hj => (e2 399 _ (by decide)).trans (e1 399 _ (by decide)))) (by first | decide | omega) ho (fun _ => hN)
    exact ⟨_, _, r2, b3, fun c => ⟨(b1 c).2.trans hv.symm, (b1 c).1⟩, fun c => b2 c⟩
  · refine ⟨w 0 4 = 2, 0, t, g0, fun _ _ _ _ => rfl, Or.inr ⟨h9, rfl, sc_sharex257 n g0 hC hw k10 h9⟩, fun t2 n2 g2 e2 => ?_⟩
    obtain ⟨_, r2, b, t3, rfl, b1, b2, b3⟩ := sr_share 55 n2 (N := 0) g2 (RW_keep hR (fun i hi => e2 389 i (by decide)) (fun c i hc _ => e2 c i (by first | decide | omega))) (blk_keep hS.1 (fun j hj => e2 399 _ (by decide))) (by first | decide | omega) ho (fun z => absurd z h9)
    exact ⟨_, _, r2, b3, fun c => absurd c h9, fun c => b2 c⟩
end SZT
