section SSP
/-- the told world -/
noncomputable def wld (S : Nat → Nat) (m : Nat) (υ : Nat → Nat → Nat) (F : Nat → Nat) (a b : Nat) : Nat := if a = 0 then (if b = 0 then υ 0 0 else if b = 1 then υ 1 0 else if b = 2 then υ 2 0 else if b = 3 then υ 3 0 else if b = 4 then υ 4 0 else pcv S m (υ 22 0)) else if a = 1 then F b else if a = 2 then sp_nv S m (υ 21 b + 3) else if a = 3 then υ 12 b else if a = 4 then sp_nv S m (υ 21 b + 5) else if a = 5 then υ 10 b else if a = 6 then sp_nv S m (υ 16 b + 3) + 8 * sp_nv S m (υ 16 b + 4) else if a = 7 then υ 11 b else if a = 8 then sp_nv S m (υ 20 b + 4) else if a = 9 then sp_nv S m (υ 20 b + 6) else sp_nv S m (υ 20 b + 8)
theorem wv_one {t : en_H} {c i x y : Nat} (h1 : ai_hv t c i = some (.inl x)) (h2 : ai_hv t c i = some (.inl y)) : x = y := Sum.inl.inj (Option.some.inj (h1.symm.trans h2))
theorem wv_389 {t : en_H} {i lo hi x : Nat} {p : Nat × Nat} (g : ai_HG ah_G t) (h : ai_hv t 389 i = some (.inl x)) (hb : i < 320) (hr : ai_run ah_389.2.2.2 i = some (.inl p)) (h1 : lo + 2147483648 ≤ p.1) (h2 : p.2 ≤ hi + 2147483648) (hh : Nat.blt hi 2147483648 = true) : lo ≤ x ∧ x ≤ hi := by
  obtain ⟨m, k, k1, k2⟩ := gx_inb (c := 389) (i := i) (lo := lo) (hi := hi) g rfl hb hr h1 h2 hh
  rw [wv_one h k]
  exact ⟨k1, k2⟩
theorem wld_of {t : en_H} {q : Nat} {S : Nat → Nat} {m N : Nat} {υ : Nat → Nat → Nat} {L : List Nat} (g : ai_HG ah_G t) (hE : ai_E t) (hW : W3 S m N υ) (hWC : WC S m N υ) (hR : RT t S m υ) (hC : CU t q S m υ) (hN : NX t q) (hL : RLL t 0 7 L) (hCL : CLs t (q + 39) L) (hs : L.length ≤ 1000) (hv : ∀ z, z ∈ L → vo 7 z) (hr : hrun 25 L 0 = some 1) : ∃ w : Nat → Nat → Nat, (w 0 0 = υ 0 0 ∧ w 0 1 = υ 1 0 ∧ w 0 2 = υ 2 0 ∧ w 0 3 = υ 3 0 ∧ w 0 4 = υ 4 0 ∧ (∀ c, w 3 c = υ 12 c) ∧ ∀ i, w 6 i = sp_nv S m (υ 16 i + 3) + 8 * sp_nv S m (υ 16 i + 4)) ∧ RW t w L ∧ CW t q w L ∧ CX t q w := by
  obtain ⟨⟨t1, ⟨⟨a0, a1, a2, a3, a4, -, -, -, -, -⟩, -, b10, b11, b12, -, ⟨c3, c4, d4, d6, d8, e3, e5, -, -, -, -, -, hpc, h23⟩⟩, hk⟩, -⟩ := hR
  obtain ⟨t2, ⟨⟨p0, p1, p2, p3, p4, -⟩, q10, q11, q12, -, -, -, ⟨r6, -, r12, r13, r14, r18, r19, -, -, -, -, -, rpc, r23⟩⟩, hk2⟩ := hC
  obtain ⟨O, D, F, gg, fl, hO, hD, n0, n1, nF, nN, nG, nL, nJ, nK⟩ := hN
  obtain ⟨⟨w2, w3, w4, -⟩, w10⟩ := hW.1
  have z0 : ai_hv t q 0 = some (.inl (υ 0 0)) := (hk2 _ _ (by first | decide | omega)).trans p0
  have z1 : ai_hv t q 1 = some (.inl (υ 1 0)) := (hk2 _ _ (by first | decide | omega)).trans p1
  have eO := wv_one n0 z0
  have eD := wv_one n1 z1
  have eF : ∀ j, j < 64 → υ 23 j = F j := fun j hj => wv_one ((hk2 _ _ (by first | decide | omega)).trans (r23 j hj)) (nF j hj).1
  have f389 : ∀ {i j x : Nat}, ai_hv t1 389 j = some (.inl x) → i < 160 → j = 160 + i → ai_hv t 389 i = some (.inl x) := fun h hi e => by
    rw [e] at h
    exact (hk _ hi).trans h
  have x5 : ai_hv t 389 5 = some (.inl (pcv S m (υ 22 0))) := f389 hpc (by decide) rfl
  have hx5 := wv_389 (lo := 1) (hi := 4) g x5 (by decide) rfl (by decide) (by decide) rfl
  have x3 : ai_hv t 389 3 = some (.inl (υ 3 0)) := f389 a3 (by decide) rfl
  refine ⟨wld S m υ F, ⟨rfl, rfl, rfl, rfl, rfl, fun _ => rfl, fun _ => rfl⟩, ⟨fun i hi => ?_, ⟨?_, ?_, w2, w3, w4, hx5.1, hx5.2⟩, fun p hp => ⟨?_, (nF p hp).2⟩, fun c hc => ?_, fun i hi => ?_, fun k hk9 => ?_, hL⟩, ⟨⟨z0, z1, (hk2 _ _ (by first | decide | omega)).trans rpc, (hk2 _ _ (by first | decide | omega)).trans p2, (hk2 _ _ (by first | decide | omega)).trans p3, (hk2 _ _ (by first | decide | omega)).trans p4⟩, fun j hj => ⟨(nF j hj).1, ?_⟩, fun c hc => ⟨?_, ?_, ?_⟩, fun i hi => ⟨?_, ?_⟩, fun k hk9 => ⟨?_, ?_, ?_, ?_⟩, hCL, hs, hv, hr⟩, ?_⟩
  · rcases (show i = 0 ∨ i = 1 ∨ i = 2 ∨ i = 3 ∨ i = 4 ∨ i = 5 by omega) with rfl | rfl | rfl | rfl | rfl | rfl
    · exact f389 a0 (by decide) rfl
    · exact f389 a1 (by decide) rfl
    · exact f389 a2 (by decide) rfl
    · exact x3
    · exact f389 a4 (by decide) rfl
    · exact x5
  · show υ 0 0 ≤ 8
    omega
  · show υ 1 0 ≤ 8
    omega
  · show ai_hv t 389 (12 + p) = some (.inl (F p))
    rw [← eF p hp]
    exact f389 (h23 p hp) (by first | decide | omega) (by first | decide | omega)
  · have hc2 : c < υ 4 0 := hc
    have y1 : ai_hv t 389 (118 + 3 * c) = some (.inl (υ 12 c)) := f389 (b12 c hc) (by first | decide | omega) (by first | decide | omega)
    have y2 : ai_hv t 389 (119 + 3 * c) = some (.inl (sp_nv S m (υ 21 c + 3))) := f389 (e3 c hc) (by first | decide | omega) (by first | decide | omega)
    have y3 : ai_hv t 389 (120 + 3 * c) = some (.inl (sp_nv S m (υ 21 c + 5))) := f389 (e5 c hc) (by first | decide | omega) (by first | decide | omega)
    have v2 := wv_389 (lo := 0) (hi := 30) g y2 (by first | decide | omega) (gx_at (rs := ah_389.2.2.2) (b := 119) (st := 3) (lo := 2147483648) (hi := 2147483678) (m := 2) (by decide +kernel) c (by first | decide | omega) rfl) (by decide) (by decide) rfl
    have v3 := wv_389 (lo := 0) (hi := 9999) g y3 (by first | decide | omega) (gx_at (rs := ah_389.2.2.2) (b := 120) (st := 3) (lo := 2147483648) (hi := 2147493647) (m := 2) (by decide +kernel) c (by first | decide | omega) rfl) (by decide) (by decide) rfl
    exact ⟨y1, (hWC c hc).1, y2, v2.2, y3, v3.2⟩
  · have hi2 : i < υ 2 0 := hi
    have y1 : ai_hv t 389 (76 + 3 * i) = some (.inl (υ 10 i)) := f389 (b10 i hi) (by first | decide | omega) (by first | decide | omega)
    have y2 : ai_hv t 389 (77 + 3 * i) = some (.inl (sp_nv S m (υ 16 i + 3))) := f389 (c3 i hi) (by first | decide | omega) (by first | decide | omega)
    have y3 : ai_hv t 389 (78 + 3 * i) = some (.inl (sp_nv S m (υ 16 i + 4))) := f389 (c4 i hi) (by first | decide | omega) (by first | decide | omega)
    have v2 := wv_389 (lo := 0) (hi := 7) g y2 (by first | decide | omega) (gx_at (rs := ah_389.2.2.2) (b := 77) (st := 3) (lo := 2147483648) (hi := 2147483655) (m := 6) (by decide +kernel) i (by first | decide | omega) rfl) (by decide) (by decide) rfl
    have v3 := wv_389 (lo := 0) (hi := 7) g y3 (by first | decide | omega) (gx_at (rs := ah_389.2.2.2) (b := 78) (st := 3) (lo := 2147483648) (hi := 2147483655) (m := 6) (by decide +kernel) i (by first | decide | omega) rfl) (by decide) (by decide) rfl
    exact ⟨y1, w10 i hi, _, _, y2, y3, v2.2, v3.2, rfl⟩
  · have hk3 : k < υ 3 0 := hk9
    have y1 : ai_hv t 389 (94 + 4 * k) = some (.inl (υ 11 k)) := f389 (b11 k hk9) (by first | decide | omega) (by first | decide | omega)
    have y2 : ai_hv t 389 (95 + 4 * k) = some (.inl (sp_nv S m (υ 20 k + 4))) := f389 (d4 k hk9) (by first | decide | omega) (by first | decide | omega)
    have y3 : ai_hv t 389 (96 + 4 * k) = some (.inl (sp_nv S m (υ 20 k + 6))) := f389 (d6 k hk9) (by first | decide | omega) (by first | decide | omega)
    have y4 : ai_hv t 389 (97 + 4 * k) = some (.inl (sp_nv S m (υ 20 k + 8))) := f389 (d8 k hk9) (by first | decide | omega) (by first | decide | omega)
    have v1 := wv_389 (lo := 0) (hi := 63) g y1 (by first | decide | omega) (gx_at (rs := ah_389.2.2.2) (b := 94) (st := 4) (lo := 2147483648) (hi := 2147483711) (m := 6) (by decide +kernel) k (by first | decide | omega) rfl) (by decide) (by decide) rfl
    have v3 := wv_389 (lo := 0) (hi := 29) g y3 (by first | decide | omega) (gx_at (rs := ah_389.2.2.2) (b := 96) (st := 4) (lo := 2147483648) (hi := 2147483677) (m := 6) (by decide +kernel) k (by first | decide | omega) rfl) (by decide) (by decide) rfl
    have v4 := wv_389 (lo := 0) (hi := 30) g y4 (by first | decide | omega) (gx_at (rs := ah_389.2.2.2) (b := 97) (st := 4) (lo := 2147483648) (hi := 2147483678) (m := 6) (by decide +kernel) k (by first | decide | omega) rfl) (by decide) (by decide) rfl
    have v2 : 1 ≤ sp_nv S m (υ 20 k + 4) ∧ sp_nv S m (υ 20 k + 4) ≤ 30 := by
      rcases hE.2.1 k (by first | decide | omega) with ⟨m9, k9, -, h9⟩ | ⟨m9, k9, h8, h9⟩
      · have := wv_one x3 k9
        omega
      · have := wv_one y2 k9
        omega
    exact ⟨y1, v1.2, y2, v2, y3, v3.2, y4, v4.2⟩
  · show ai_hv t (q + 2) j = some (.inl (nb (υ 0 0) (υ 1 0) j (F j)))
    rw [← eO, ← eD]
    exact nN j hj
  · exact (hk2 _ _ (by first | decide | omega)).trans (q12 c hc)
  · exact (hk2 _ _ (by first | decide | omega)).trans (r18 c hc)
  · exact (hk2 _ _ (by first | decide | omega)).trans (r19 c hc)
  · exact (hk2 _ _ (by first | decide | omega)).trans (q10 i hi).2
  · exact (hk2 _ _ (by first | decide | omega)).trans (r6 i hi)
  · exact (hk2 _ _ (by first | decide | omega)).trans (q11 k hk9)
  · exact (hk2 _ _ (by first | decide | omega)).trans (r12 k hk9)
  · exact (hk2 _ _ (by first | decide | omega)).trans (r13 k hk9)
  · exact (hk2 _ _ (by first | decide | omega)).trans (r14 k hk9)
  · show (∃ g, ai_hv t q 16 = some (.inr (.inl g)) ∧ bts g (inG (υ 0 0) (υ 1 0))) ∧ (∀ i, i < 16 → ai_hv t (q + 49) i = some (gx_r (q + 50 + i))) ∧ (∀ i, i < 16 → ∀ j, j < 64 → ai_hv t (q + 50 + i) j = some (.inl (jmp (υ 0 0) (υ 1 0) F (2 ^ i) j))) ∧ ∃ fl : Nat → Nat, ∀ s, s < 5 → ai_hv t (q + 48) s = some (.inr (.inl (fl s))) ∧ bts (fl s) (fun j => inG (υ 0 0) (υ 1 0) j && decide (fdir (υ 0 0) (υ 1 0) F j = s))
    rw [← eO, ← eD]
    exact ⟨⟨gg, nG⟩, nJ, nK, fl, nL⟩
/-- how all stands when it begins -/
noncomputable def bg0 (X Y B : Nat → Nat) (j : Nat) : Nat := if j = 0 then 0 else if j ≤ 6 then X (j - 1) + 8 * Y (j - 1) else if j ≤ 8 then B (j - 7) else 0
theorem bg_pl {X Y B : Nat → Nat} {i : Nat} (h : i < 6) : bg0 X Y B (1 + i) = X i + 8 * Y i := by
  unfold bg0
  rw [if_neg (by first | decide | omega), if_pos (by first | decide | omega), show 1 + i - 1 = i by omega]
theorem bg_bi {X Y B : Nat → Nat} {c : Nat} (h : c < 2) : bg0 X Y B (7 + c) = B c := by
  unfold bg0
  rw [if_neg (by first | decide | omega), if_neg (by first | decide | omega), if_pos (by first | decide | omega), show 7 + c - 7 = c by omega]
theorem bg_z {X Y B : Nat → Nat} {j : Nat} (h : 9 ≤ j) : bg0 X Y B j = 0 := by
  unfold bg0
  rw [if_neg (by first | decide | omega), if_neg (by first | decide | omega), if_neg (by first | decide | omega)]
theorem beg_of {t : en_H} {q l : Nat} {w : Nat → Nat → Nat} {L : List Nat} (hR : RW t w L) (hC : CW t q w L) (hS : SBg t) (hB : CBg t q l) : ∃ σ : Nat → Nat, RS t σ 0 (fun _ => σ) (fun _ => 0) (fun _ => σ) 0 (fun _ => 0) ∧ CS t (w 0 2) (w 0 4) σ 0 (fun _ => σ) (fun _ => 0) (fun _ => σ) 0 (fun _ => 0) ∧ σ 0 = 0 ∧ (∀ i, i < w 0 2 → σ (1 + i) = w 6 i) ∧ (∀ c, c < w 0 4 → σ (7 + c) = w 4 c) ∧ ∀ j, 9 ≤ j → σ j = 0 := by
  obtain ⟨X, Y, B, x1, x2, x3, ⟨s0, s1, s7, s9⟩, s17, -, s26, s4⟩ := hS
  obtain ⟨b0, b1, b2, -, b3, b4, b5, b6⟩ := hB
  have hw := WS_of hR
  have hT := hw.1.2.2.1
  have hK := hw.1.2.2.2.2.1
  have e6 : ∀ i, i < w 0 2 → w 6 i = X i + 8 * Y i := fun i hi => by
    obtain ⟨-, -, x, y, y1, y2, -, -, e⟩ := hR.2.2.2.2.1 i hi
    rw [e, wv_one y1 (x1 i (by first | decide | omega)), wv_one y2 (x2 i (by first | decide | omega))]
  have e4 : ∀ c, c < w 0 4 → w 4 c = B c := fun c hc => by
    obtain ⟨-, -, -, -, y1, -⟩ := hR.2.2.2.1 c hc
    exact wv_one y1 (x3 c (by first | decide | omega))
  refine ⟨bg0 X Y B, ⟨fun j hj => ?_, s17, ⟨s26, fun k hk => absurd hk (Nat.not_lt_zero k)⟩, fun m hm => ⟨s4 m hm, fun z => absurd (show (0 : Nat) = 1 from z) (by decide)⟩⟩, ⟨⟨b0, fun i hi => ?_, fun c hc => ?_⟩, b3, ⟨0, by decide, b4, b5, fun k hk => absurd hk (Nat.not_lt_zero k)⟩, fun m hm => ⟨b6 m hm, fun z => absurd (show (0 : Nat) = 1 from z) (by decide)⟩⟩, rfl, fun i hi => ?_, fun c hc => ?_, fun j hj => bg_z hj⟩
  · rw [Nat.zero_add]
    rcases (show j = 0 ∨ (1 ≤ j ∧ j ≤ 6) ∨ (7 ≤ j ∧ j ≤ 8) ∨ 9 ≤ j by omega) with rfl | h | h | h
    · exact s0
    · obtain ⟨i, rfl, hi⟩ : ∃ i, j = 1 + i ∧ i < 6 := ⟨j - 1, by omega, by omega⟩
      rw [bg_pl hi]
      exact s1 i hi
    · obtain ⟨c, rfl, hc⟩ : ∃ c, j = 7 + c ∧ c < 2 := ⟨j - 7, by omega, by omega⟩
      rw [bg_bi hc]
      exact s7 c hc
    · obtain ⟨i, rfl, hi⟩ : ∃ i, j = 9 + i ∧ i < 8 := ⟨j - 9, by omega, by omega⟩
      rw [bg_z h]
      exact s9 i hi
  · rw [bg_pl (by first | decide | omega), ← e6 i hi]
    exact (b1 _ hC.1.2.2.2.1 i hi).trans (hC.2.2.2.1 i hi).2
  · obtain ⟨y1, y2, y3, y4, -⟩ := b2 _ hC.1.2.2.2.2.2 c hc
    rw [bg_bi (by first | decide | omega), bg_z (by first | decide | omega), bg_z (by first | decide | omega), bg_z (by first | decide | omega), ← e4 c hc]
    exact ⟨y1.trans (hC.2.2.1 c hc).2.2, y2, y3, y4, fun z => absurd z (by decide)⟩
  · rw [bg_pl (by first | decide | omega), e6 i hi]
  · rw [bg_bi (by first | decide | omega), e4 c hc]
end SSP
