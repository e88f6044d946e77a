section SSD
noncomputable def blk (t : en_H) (b : Nat) (σ : Nat → Nat) : Prop := ∀ j, j < 17 → ai_hv t 399 (b + j) = some (.inl (σ j))
theorem blk_keep {t t' : en_H} {b : Nat} {σ : Nat → Nat} (h : blk t b σ) (e : ∀ j, j < 17 → ai_hv t' 399 (b + j) = ai_hv t 399 (b + j)) : blk t' b σ := fun j hj => (e j hj).trans (h j hj)
/-- the past: how many, which -/
noncomputable def kpu (u : Nat) : Nat := if u < 16 then u + 1 else 16
noncomputable def kpt (u : Nat) (σ : Nat → Nat) (τ : Nat → Nat → Nat) : Nat → Nat → Nat := fun k => if u < 16 then (if k = u then σ else τ k) else (if k = 15 then σ else τ (k + 1))
theorem cpk {k : Nat} (h1 : 1 ≤ k) (h2 : k < 16) : ha_all (cp_fit (45 * (5 + k)) (45 * ((5 + k) - 1))) 17 = true := by
  rcases (show k = 1 ∨ k = 2 ∨ k = 3 ∨ k = 4 ∨ k = 5 ∨ k = 6 ∨ k = 7 ∨ k = 8 ∨ k = 9 ∨ k = 10 ∨ k = 11 ∨ k = 12 ∨ k = 13 ∨ k = 14 ∨ k = 15 by omega) with rfl | rfl | rfl | rfl | rfl | rfl | rfl | rfl | rfl | rfl | rfl | rfl | rfl | rfl | rfl
  · decide +kernel
  · decide +kernel
  · decide +kernel
  · decide +kernel
  · decide +kernel
  · decide +kernel
  · decide +kernel
  · decide +kernel
  · decide +kernel
  · decide +kernel
  · decide +kernel
  · decide +kernel
  · decide +kernel
  · decide +kernel
  · decide +kernel
theorem cpu {u : Nat} (h2 : u < 16) : ha_all (cp_fit 0 (45 * (5 + u))) 17 = true := by
  rcases (show u = 0 ∨ u = 1 ∨ u = 2 ∨ u = 3 ∨ u = 4 ∨ u = 5 ∨ u = 6 ∨ u = 7 ∨ u = 8 ∨ u = 9 ∨ u = 10 ∨ u = 11 ∨ u = 12 ∨ u = 13 ∨ u = 14 ∨ u = 15 by omega) with rfl | rfl | rfl | rfl | rfl | rfl | rfl | rfl | rfl | rfl | rfl | rfl | rfl | rfl | rfl | rfl
  · decide +kernel
  · decide +kernel
  · decide +kernel
  · decide +kernel
  · decide +kernel
  · decide +kernel
  · decide +kernel
  · decide +kernel
  · decide +kernel
  · decide +kernel
  · decide +kernel
  · decide +kernel
  · decide +kernel
  · decide +kernel
  · decide +kernel
  · decide +kernel
theorem cpv {u : Nat} (h2 : u < 16) : ha_all (cp_fit (45 * (5 + u)) 0) 17 = true := by
  rcases (show u = 0 ∨ u = 1 ∨ u = 2 ∨ u = 3 ∨ u = 4 ∨ u = 5 ∨ u = 6 ∨ u = 7 ∨ u = 8 ∨ u = 9 ∨ u = 10 ∨ u = 11 ∨ u = 12 ∨ u = 13 ∨ u = 14 ∨ u = 15 by omega) with rfl | rfl | rfl | rfl | rfl | rfl | rfl | rfl | rfl | rfl | rfl | rfl | rfl | rfl | rfl | rfl
  · decide +kernel
  · decide +kernel
  · decide +kernel
  · decide +kernel
  · decide +kernel
  · decide +kernel
  · decide +kernel
  · decide +kernel
  · decide +kernel
  · decide +kernel
  · decide +kernel
  · decide +kernel
  · decide +kernel
  · decide +kernel
  · decide +kernel
  · decide +kernel
theorem sr_keeps_l (d n : Nat) {tb : en_H} {Q : en_O → Prop} (hQ : ∀ t1, ai_HG ah_G t1 → (∀ c i, ¬ (c = 399 ∧ 225 ≤ i ∧ i < 45 * (4 + 16)) → ai_hv t1 c i = ai_hv tb c i) → (∀ i, i + 1 < 16 → ∀ j, j < 17 → ai_hv t1 399 (45 * (5 + i) + j) = ai_hv tb 399 (45 * (6 + i) + j)) → en_ex none (en_u (d + 1)) (en_code 115) (fun _ => false) (43, [(1, .inl 16), (0, gx_r 383)], [], t1, n, 0) Q) : ∀ j k t0, k + j = 16 → 1 ≤ k → ai_HG ah_G t0 → (∀ c i, ¬ (c = 399 ∧ 225 ≤ i ∧ i < 45 * (4 + k)) → ai_hv t0 c i = ai_hv tb c i) → (∀ i, i + 1 < k → ∀ j, j < 17 → ai_hv t0 399 (45 * (5 + i) + j) = ai_hv tb 399 (45 * (6 + i) + j)) → en_ex none (en_u (d + 1)) (en_code 115) (fun _ => false) (11, [(1, .inl k), (0, gx_r 383)], [], t0, n, 0) Q := by
  intro j
  induction j with
  | zero =>
    intro k t0 hk hk1 g0 e0 i0
    have hk : k = 16 := by omega
    subst hk
    refine ex_go (S := (12, [(1, .inl 16), (0, gx_r 383)], [.inl 16], t0, n, 0)) rfl (fun _ => rfl) rfl ?_
    refine ex_go (S := (14, [(1, .inl 16), (0, gx_r 383)], [.inl 16, .inl 16], t0, n, 0)) rfl (fun _ => rfl) rfl ?_
    refine ex_go (S := (43, [(1, .inl 16), (0, gx_r 383)], [], t0, n, 0)) rfl (fun _ => rfl) rfl ?_
    exact hQ t0 g0 e0 i0
  | succ j ih =>
    intro k t0 hk hk1 g0 e0 i0
    refine ex_go (S := (12, [(1, .inl k), (0, gx_r 383)], [.inl k], t0, n, 0)) rfl (fun _ => rfl) rfl ?_
    refine ex_go (S := (14, [(1, .inl k), (0, gx_r 383)], [.inl 16, .inl k], t0, n, 0)) rfl (fun _ => rfl) rfl ?_
    refine gx_2f (c := .ge) rfl (by first | decide | omega) (by first | decide | omega) (show ¬ (16 ≤ k) from by omega) rfl ?_
    refine ex_go (S := (18, [(1, .inl k), (0, gx_r 383)], [gx_r 383], t0, n, 0)) rfl (fun _ => rfl) rfl ?_
    refine ex_go (S := (20, [(1, .inl k), (0, gx_r 383)], [.inl 45, gx_r 383], t0, n, 0)) rfl (fun _ => rfl) rfl ?_
    refine ex_go (S := (21, [(1, .inl k), (0, gx_r 383)], [.inl 5, .inl 45, gx_r 383], t0, n, 0)) rfl (fun _ => rfl) rfl ?_
    refine ex_go (S := (22, [(1, .inl k), (0, gx_r 383)], [.inl k, .inl 5, .inl 45, gx_r 383], t0, n, 0)) rfl (fun _ => rfl) rfl ?_
    refine ex_iadd rfl (by first | decide | omega) rfl ?_
    refine gx_imul rfl (by first | decide | omega) rfl ?_
    refine ex_go (S := (26, [(1, .inl k), (0, gx_r 383)], [.inl 45, .inl (45 * (5 + k)), gx_r 383], t0, n, 0)) rfl (fun _ => rfl) rfl ?_
    refine ex_go (S := (27, [(1, .inl k), (0, gx_r 383)], [.inl 5, .inl 45, .inl (45 * (5 + k)), gx_r 383], t0, n, 0)) rfl (fun _ => rfl) rfl ?_
    refine ex_go (S := (28, [(1, .inl k), (0, gx_r 383)], [.inl k, .inl 5, .inl 45, .inl (45 * (5 + k)), gx_r 383], t0, n, 0)) rfl (fun _ => rfl) rfl ?_
    refine ex_iadd rfl (by first | decide | omega) rfl ?_
    refine ex_go (S := (30, [(1, .inl k), (0, gx_r 383)], [.inl 1, .inl (5 + k), .inl 45, .inl (45 * (5 + k)), gx_r 383], t0, n, 0)) rfl (fun _ => rfl) rfl ?_
    refine gx_isub rfl (by first | decide | omega) (by first | decide | omega) rfl ?_
    refine gx_imul rfl (by first | decide | omega) rfl ?_
    refine ex_go (S := (34, [(1, .inl k), (0, gx_r 383)], [.inl 17, .inl (45 * ((5 + k) - 1)), .inl (45 * (5 + k)), gx_r 383], t0, n, 0)) rfl (fun _ => rfl) rfl ?_
    obtain ⟨_, r121, t121, rfl, g121, e121, y121⟩ := pe_copies d n (f := (45 * (5 + k))) (t := (45 * ((5 + k) - 1))) (m := 17) g0 (cpk (by first | decide | omega) (by first | decide | omega)) (by first | decide | omega) (by first | decide | omega) (by first | decide | omega) (by first | decide | omega)
    refine gx_call0 rfl rfl g0 rfl rfl r121 rfl ?_
    show en_ex _ _ _ _ (37, [(1, .inl k), (0, gx_r 383)], [], t121, n, 0) _
    refine gx_iinc (i := 1) (k := 1) rfl (fun _ => rfl) (by first | decide | omega) rfl ?_
    show en_ex _ _ _ _ (40, [(1, .inl (k + 1)), (0, gx_r 383)], [], t121, n, 0) _
    refine ex_go (S := (11, [(1, .inl (k + 1)), (0, gx_r 383)], [], t121, n, 0)) rfl (fun _ => rfl) rfl ?_
    refine ih (k + 1) t121 (by first | decide | omega) (by first | decide | omega) g121 (fun c i h => ?_) (fun i hi j hj => ?_)
    · by_cases hc9 : c = 399
      · subst hc9
        rw [y121, if_neg (by first | decide | omega)]
        exact e0 399 i (by first | decide | omega)
      · exact (e121 c i hc9).trans (e0 c i (by first | decide | omega))
    · by_cases e9 : i + 1 = k
      · rw [y121, if_pos (by first | decide | omega), e0 _ _ (by first | decide | omega)]
        congr 1
        omega
      · rw [y121, if_neg (by first | decide | omega)]
        exact i0 i (by first | decide | omega) j hj
theorem sr_keeps (d n : Nat) {t0 : en_H} {u : Nat} {σ : Nat → Nat} {τ : Nat → Nat → Nat} (g0 : ai_HG ah_G t0) (hu : u ≤ 16) (ku : ai_hv t0 383 26 = some (.inl u)) (hσ : blk t0 0 σ) (hτ : ∀ k, k < u → blk t0 (45 * (5 + k)) (τ k)) : ∃ r, en_u (d + 2) 115 [gx_r 383] t0 n = some r ∧ ∃ t', r = (none, t', n, 0) ∧ ai_HG ah_G t' ∧ (∀ c i, ¬ ((c = 399 ∧ 225 ≤ i ∧ i < 945) ∨ (c = 383 ∧ i = 26)) → ai_hv t' c i = ai_hv t0 c i) ∧ ai_hv t' 383 26 = some (.inl (kpu u)) ∧ ∀ k, k < kpu u → blk t' (45 * (5 + k)) (kpt u σ τ k) := by
  by_cases hc9 : u = 16
  · subst hc9
    refine en_u_ex (d := d + 1) rfl ?_
    show en_ex _ _ _ _ (0, [(0, gx_r 383)], [], t0, n, 0) _
    refine ex_go (S := (1, [(0, gx_r 383)], [gx_r 383], t0, n, 0)) rfl (fun _ => rfl) rfl ?_
    refine gx_get rfl g0 rfl ku rfl ?_
    refine ex_go (S := (6, [(0, gx_r 383)], [.inl 16, .inl 16], t0, n, 0)) rfl (fun _ => rfl) rfl ?_
    refine ex_go (S := (9, [(0, gx_r 383)], [], t0, n, 0)) rfl (fun _ => rfl) rfl ?_
    refine ex_go (S := (10, [(0, gx_r 383)], [.inl 1], t0, n, 0)) rfl (fun _ => rfl) rfl ?_
    refine ex_go (S := (11, [(1, .inl 1), (0, gx_r 383)], [], t0, n, 0)) rfl (fun _ => rfl) rfl ?_
    refine sr_keeps_l d n (tb := t0) (fun t121 g121 e121 i121 => ?_) 15 1 t0 rfl (by decide) g0 (fun _ _ _ => rfl) (fun i hi => absurd hi (by first | decide | omega))
    have k22 : ai_hv t121 383 26 = some (.inl 16) := (e121 383 26 (by first | decide | omega)).trans ku
    refine ex_go (S := (44, [(1, .inl 16), (0, gx_r 383)], [gx_r 383], t121, n, 0)) rfl (fun _ => rfl) rfl ?_
    refine ex_go (S := (45, [(1, .inl 16), (0, gx_r 383)], [gx_r 383, gx_r 383], t121, n, 0)) rfl (fun _ => rfl) rfl ?_
    refine gx_get rfl g121 rfl k22 rfl ?_
    refine ex_go (S := (49, [(1, .inl 16), (0, gx_r 383)], [.inl 1, .inl 16, gx_r 383], t121, n, 0)) rfl (fun _ => rfl) rfl ?_
    refine ex_go (S := (50, [(1, .inl 16), (0, gx_r 383)], [.inl 15, gx_r 383], t121, n, 0)) rfl (fun _ => rfl) rfl ?_
    refine gx_put rfl g121 rfl rfl (ai_in_h (by first | decide | omega) (by first | decide | omega) (by first | decide | omega)) rfl (fun t123 g123 k123 e123 => ?_)
    refine ex_go (S := (54, [(1, .inl 16), (0, gx_r 383)], [gx_r 383], t123, n, 0)) rfl (fun _ => rfl) rfl ?_
    refine ex_go (S := (55, [(1, .inl 16), (0, gx_r 383)], [.inl 0, gx_r 383], t123, n, 0)) rfl (fun _ => rfl) rfl ?_
    refine ex_go (S := (57, [(1, .inl 16), (0, gx_r 383)], [.inl 45, .inl 0, gx_r 383], t123, n, 0)) rfl (fun _ => rfl) rfl ?_
    refine ex_go (S := (58, [(1, .inl 16), (0, gx_r 383)], [.inl 5, .inl 45, .inl 0, gx_r 383], t123, n, 0)) rfl (fun _ => rfl) rfl ?_
    refine ex_go (S := (59, [(1, .inl 16), (0, gx_r 383)], [gx_r 383, .inl 5, .inl 45, .inl 0, gx_r 383], t123, n, 0)) rfl (fun _ => rfl) rfl ?_
    refine gx_get rfl g123 rfl k123 rfl ?_
    refine ex_go (S := (63, [(1, .inl 16), (0, gx_r 383)], [.inl 20, .inl 45, .inl 0, gx_r 383], t123, n, 0)) rfl (fun _ => rfl) rfl ?_
    refine ex_go (S := (64, [(1, .inl 16), (0, gx_r 383)], [.inl 900, .inl 0, gx_r 383], t123, n, 0)) rfl (fun _ => rfl) rfl ?_
    refine ex_go (S := (66, [(1, .inl 16), (0, gx_r 383)], [.inl 17, .inl 900, .inl 0, gx_r 383], t123, n, 0)) rfl (fun _ => rfl) rfl ?_
    obtain ⟨_, r124, t124, rfl, g124, e124, y124⟩ := pe_copies d n (f := 0) (t := 900) (m := 17) g123 (by decide +kernel) (by first | decide | omega) (by first | decide | omega) (by first | decide | omega) (by first | decide | omega)
    refine gx_call0 rfl rfl g123 rfl rfl r124 rfl ?_
    have k25 : ai_hv t124 383 26 = some (.inl 15) := (e124 383 26 (by first | decide | omega)).trans k123
    show en_ex _ _ _ _ (69, [(1, .inl 16), (0, gx_r 383)], [], t124, n, 0) _
    refine ex_go (S := (70, [(1, .inl 16), (0, gx_r 383)], [gx_r 383], t124, n, 0)) rfl (fun _ => rfl) rfl ?_
    refine ex_go (S := (71, [(1, .inl 16), (0, gx_r 383)], [gx_r 383, gx_r 383], t124, n, 0)) rfl (fun _ => rfl) rfl ?_
    refine gx_get rfl g124 rfl k25 rfl ?_
    refine ex_go (S := (75, [(1, .inl 16), (0, gx_r 383)], [.inl 1, .inl 15, gx_r 383], t124, n, 0)) rfl (fun _ => rfl) rfl ?_
    refine ex_go (S := (76, [(1, .inl 16), (0, gx_r 383)], [.inl 16, gx_r 383], t124, n, 0)) rfl (fun _ => rfl) rfl ?_
    refine gx_put rfl g124 rfl rfl (ai_in_h (by first | decide | omega) (by first | decide | omega) (by first | decide | omega)) rfl (fun t126 g126 k126 e126 => ?_)
    refine ex_ret (r := (none, t126, n, 0)) rfl (fun _ => rfl) ?_
    have hk9 : kpu 16 = 16 := rfl
    refine ⟨_, rfl, t126, rfl, g126, (fun c i h => ?_), by rw [hk9]; exact k126, fun k hk j hj => ?_⟩
    · by_cases hc8 : c = 399
      · subst hc8
        refine (e126 399 i (by first | decide | omega)).trans ?_
        rw [y124, if_neg (by first | decide | omega)]
        exact (e123 399 i (by first | decide | omega)).trans (e121 399 i (by first | decide | omega))
      · exact (e126 c i (by first | decide | omega)).trans ((e124 c i (by first | decide | omega)).trans ((e123 c i (by first | decide | omega)).trans (e121 c i (by first | decide | omega))))
    · refine (e126 399 _ (by first | decide | omega)).trans ?_
      rw [hk9] at hk
      by_cases e9 : k = 15
      · have e8 : kpt 16 σ τ k = σ := by unfold kpt; rw [if_neg (by decide), if_pos e9]
        rw [e8, y124, if_pos (by first | decide | omega), show 45 * (5 + k) + j - 45 * (5 + 15) + 0 = 0 + j by omega]
        exact ((e123 399 _ (by first | decide | omega)).trans (e121 399 _ (by first | decide | omega))).trans (hσ j hj)
      · have e8 : kpt 16 σ τ k = τ (k + 1) := by unfold kpt; rw [if_neg (by decide), if_neg e9]
        rw [e8, y124, if_neg (by first | decide | omega)]
        have h9 := hτ (k + 1) (by first | decide | omega) j hj
        rw [show 5 + (k + 1) = 6 + k by omega] at h9
        exact ((e123 399 _ (by first | decide | omega)).trans (i121 k (by first | decide | omega) j hj)).trans h9
  · refine en_u_ex (d := d + 1) rfl ?_
    show en_ex _ _ _ _ (0, [(0, gx_r 383)], [], t0, n, 0) _
    refine ex_go (S := (1, [(0, gx_r 383)], [gx_r 383], t0, n, 0)) rfl (fun _ => rfl) rfl ?_
    refine gx_get rfl g0 rfl ku rfl ?_
    refine ex_go (S := (6, [(0, gx_r 383)], [.inl 16, .inl u], t0, n, 0)) rfl (fun _ => rfl) rfl ?_
    refine gx_2t (c := .ne) rfl (by first | decide | omega) (by first | decide | omega) (show u ≠ 16 from by omega) rfl ?_
    refine ex_go (S := (54, [(0, gx_r 383)], [gx_r 383], t0, n, 0)) rfl (fun _ => rfl) rfl ?_
    refine ex_go (S := (55, [(0, gx_r 383)], [.inl 0, gx_r 383], t0, n, 0)) rfl (fun _ => rfl) rfl ?_
    refine ex_go (S := (57, [(0, gx_r 383)], [.inl 45, .inl 0, gx_r 383], t0, n, 0)) rfl (fun _ => rfl) rfl ?_
    refine ex_go (S := (58, [(0, gx_r 383)], [.inl 5, .inl 45, .inl 0, gx_r 383], t0, n, 0)) rfl (fun _ => rfl) rfl ?_
    refine ex_go (S := (59, [(0, gx_r 383)], [gx_r 383, .inl 5, .inl 45, .inl 0, gx_r 383], t0, n, 0)) rfl (fun _ => rfl) rfl ?_
    refine gx_get rfl g0 rfl ku rfl ?_
    refine ex_iadd rfl (by first | decide | omega) rfl ?_
    refine gx_imul rfl (by first | decide | omega) rfl ?_
    refine ex_go (S := (66, [(0, gx_r 383)], [.inl 17, .inl (45 * (5 + u)), .inl 0, gx_r 383], t0, n, 0)) rfl (fun _ => rfl) rfl ?_
    obtain ⟨_, r121, t121, rfl, g121, e121, y121⟩ := pe_copies d n (f := 0) (t := (45 * (5 + u))) (m := 17) g0 (cpu (by first | decide | omega)) (by first | decide | omega) (by first | decide | omega) (by first | decide | omega) (by first | decide | omega)
    refine gx_call0 rfl rfl g0 rfl rfl r121 rfl ?_
    have k22 : ai_hv t121 383 26 = some (.inl u) := (e121 383 26 (by first | decide | omega)).trans ku
    show en_ex _ _ _ _ (69, [(0, gx_r 383)], [], t121, n, 0) _
    refine ex_go (S := (70, [(0, gx_r 383)], [gx_r 383], t121, n, 0)) rfl (fun _ => rfl) rfl ?_
    refine ex_go (S := (71, [(0, gx_r 383)], [gx_r 383, gx_r 383], t121, n, 0)) rfl (fun _ => rfl) rfl ?_
    refine gx_get rfl g121 rfl k22 rfl ?_
    refine ex_go (S := (75, [(0, gx_r 383)], [.inl 1, .inl u, gx_r 383], t121, n, 0)) rfl (fun _ => rfl) rfl ?_
    refine ex_iadd rfl (by first | decide | omega) rfl ?_
    refine gx_put rfl g121 rfl rfl (ai_in_h (by first | decide | omega) (by first | decide | omega) (by first | decide | omega)) rfl (fun t123 g123 k123 e123 => ?_)
    refine ex_ret (r := (none, t123, n, 0)) rfl (fun _ => rfl) ?_
    have hk9 : kpu u = u + 1 := if_pos (by first | decide | omega)
    refine ⟨_, rfl, t123, rfl, g123, (fun c i h => ?_), by rw [hk9]; exact k123, fun k hk j hj => ?_⟩
    · by_cases hc8 : c = 399
      · subst hc8
        refine (e123 399 i (by first | decide | omega)).trans ?_
        rw [y121, if_neg (by first | decide | omega)]
      · exact (e123 c i (by first | decide | omega)).trans (e121 c i (by first | decide | omega))
    · refine (e123 399 _ (by first | decide | omega)).trans ?_
      rw [hk9] at hk
      by_cases e9 : k = u
      · have e8 : kpt u σ τ k = σ := by unfold kpt; rw [if_pos (by first | decide | omega), if_pos e9]
        subst e9
        rw [e8, y121, if_pos (by first | decide | omega), show 45 * (5 + k) + j - 45 * (5 + k) + 0 = 0 + j by omega]
        exact hσ j hj
      · have e8 : kpt u σ τ k = τ k := by unfold kpt; rw [if_pos (by first | decide | omega), if_neg e9]
        rw [e8, y121, if_neg (by first | decide | omega)]
        exact hτ k (by first | decide | omega) j hj
theorem ringk {t : en_H} (hG : ai_HG ah_G t) {k : Nat} (h : k < 16) : ai_hv t 23 k = some (gx_r (24 + 7 * k)) := by
  rcases (show k = 0 ∨ k = 1 ∨ k = 2 ∨ k = 3 ∨ k = 4 ∨ k = 5 ∨ k = 6 ∨ k = 7 ∨ k = 8 ∨ k = 9 ∨ k = 10 ∨ k = 11 ∨ k = 12 ∨ k = 13 ∨ k = 14 ∨ k = 15 by omega) with rfl | rfl | rfl | rfl | rfl | rfl | rfl | rfl | rfl | rfl | rfl | rfl | rfl | rfl | rfl | rfl
  · exact gx_slr (k := 24) hG rfl (by decide) rfl
  · exact gx_slr (k := 31) hG rfl (by decide) rfl
  · exact gx_slr (k := 38) hG rfl (by decide) rfl
  · exact gx_slr (k := 45) hG rfl (by decide) rfl
  · exact gx_slr (k := 52) hG rfl (by decide) rfl
  · exact gx_slr (k := 59) hG rfl (by decide) rfl
  · exact gx_slr (k := 66) hG rfl (by decide) rfl
  · exact gx_slr (k := 73) hG rfl (by decide) rfl
  · exact gx_slr (k := 80) hG rfl (by decide) rfl
  · exact gx_slr (k := 87) hG rfl (by decide) rfl
  · exact gx_slr (k := 94) hG rfl (by decide) rfl
  · exact gx_slr (k := 101) hG rfl (by decide) rfl
  · exact gx_slr (k := 108) hG rfl (by decide) rfl
  · exact gx_slr (k := 115) hG rfl (by decide) rfl
  · exact gx_slr (k := 122) hG rfl (by decide) rfl
  · exact gx_slr (k := 129) hG rfl (by decide) rfl
theorem sc_keep (d n : Nat) {t0 : en_H} {u o T K : Nat} {σ : Nat → Nat} {τ : Nat → Nat → Nat} (g0 : ai_HG ah_G t0) (hu : u ≤ 16) (ho : o ≤ 15) (hT : T ≤ 6) (hK : K ≤ 2) (ku : ai_hv t0 22 2 = some (.inl u)) (ko : ai_hv t0 22 1 = some (.inl o)) (hσ : SC t0 15 T K σ) (hτ : ∀ k, k < u → SC t0 (24 + 7 * ((o + k) % 16)) T K (τ k)) : ∃ r, en_u (d + 2) 197 [gx_r 22, gx_r 15] t0 n = some r ∧ ∃ t', r = (none, t', n, 0) ∧ ai_HG ah_G t' ∧ (∀ c i, ¬ ((24 ≤ c ∧ c ≤ 135) ∨ (c = 22 ∧ 1 ≤ i)) → ai_hv t' c i = ai_hv t0 c i) ∧ ∃ o', o' ≤ 15 ∧ ai_hv t' 22 1 = some (.inl o') ∧ ai_hv t' 22 2 = some (.inl (kpu u)) ∧ ∀ k, k < kpu u → SC t' (24 + 7 * ((o' + k) % 16)) T K (kpt u σ τ k) := by
  by_cases hc9 : u = 16
  · subst hc9
    refine en_u_ex (d := d + 1) rfl ?_
    show en_ex _ _ _ _ (0, [(0, gx_r 22), (1, gx_r 15)], [], t0, n, 0) _
    refine ex_go (S := (1, [(0, gx_r 22), (1, gx_r 15)], [gx_r 22], t0, n, 0)) rfl (fun _ => rfl) rfl ?_
    refine gxo_ref (a := 22) (c := 23) rfl g0 rfl rfl rfl rfl rfl ?_
    refine ex_go (S := (5, [(0, gx_r 22), (1, gx_r 15)], [gx_r 22, gx_r 23], t0, n, 0)) rfl (fun _ => rfl) rfl ?_
    refine gxo_get (a := 22) rfl g0 rfl rfl ko rfl ?_
    refine ex_go (S := (9, [(0, gx_r 22), (1, gx_r 15)], [gx_r 22, .inl o, gx_r 23], t0, n, 0)) rfl (fun _ => rfl) rfl ?_
    refine gxo_get (a := 22) rfl g0 rfl rfl ku rfl ?_
    refine ex_iadd rfl (by first | decide | omega) rfl ?_
    refine ex_go (S := (15, [(0, gx_r 22), (1, gx_r 15)], [.inl 16, .inl (o + 16), gx_r 23], t0, n, 0)) rfl (fun _ => rfl) rfl ?_
    refine gx_iremn rfl (by first | decide | omega) (by first | decide | omega) (by first | decide | omega) rfl ?_
    refine gx_ag (v := gx_r (24 + 7 * ((o + 16) % 16))) (cb := fun c => Nat.ble 4 c && Nat.ble c 7) rfl (fun _ => rfl) g0 rfl rfl (ringk g0 (by first | decide | omega)) (by first | decide | omega) rfl ?_
    refine ex_go (S := (18, [(0, gx_r 22), (1, gx_r 15)], [gx_r 15, gx_r (24 + 7 * ((o + 16) % 16))], t0, n, 0)) rfl (fun _ => rfl) rfl ?_
    obtain ⟨_, r121, t121, rfl, g121, e121, y121a, y121b, y121c⟩ := sc_take d n (A := 24 + 7 * ((o + 16) % 16)) (B := 15) g0 (StA_ring (by first | decide | omega)) StA_15 (by unfold StD; omega)
    obtain ⟨-, ⟨gg121, q1211, q1212, -⟩, -⟩ := StA_ring (k := ((o + 16) % 16)) (by first | decide | omega)
    refine gx_callo (a := 24 + 7 * ((o + 16) % 16)) rfl rfl g0 q1211 q1212 rfl r121 rfl ?_
    have k22 : ai_hv t121 22 2 = some (.inl 16) := (e121 22 2 (by first | decide | omega)).trans ku
    have k23 : ai_hv t121 22 1 = some (.inl o) := (e121 22 1 (by first | decide | omega)).trans ko
    show en_ex _ _ _ _ (21, [(0, gx_r 22), (1, gx_r 15)], [], t121, n, 0) _
    refine ex_go (S := (22, [(0, gx_r 22), (1, gx_r 15)], [gx_r 22], t121, n, 0)) rfl (fun _ => rfl) rfl ?_
    refine gxo_get (a := 22) rfl g121 rfl rfl k22 rfl ?_
    refine ex_go (S := (27, [(0, gx_r 22), (1, gx_r 15)], [.inl 16, .inl 16], t121, n, 0)) rfl (fun _ => rfl) rfl ?_
    refine ex_go (S := (43, [(0, gx_r 22), (1, gx_r 15)], [], t121, n, 0)) rfl (fun _ => rfl) rfl ?_
    refine ex_go (S := (44, [(0, gx_r 22), (1, gx_r 15)], [gx_r 22], t121, n, 0)) rfl (fun _ => rfl) rfl ?_
    refine ex_go (S := (45, [(0, gx_r 22), (1, gx_r 15)], [gx_r 22, gx_r 22], t121, n, 0)) rfl (fun _ => rfl) rfl ?_
    refine gxo_get (a := 22) rfl g121 rfl rfl k23 rfl ?_
    refine ex_go (S := (49, [(0, gx_r 22), (1, gx_r 15)], [.inl 1, .inl o, gx_r 22], t121, n, 0)) rfl (fun _ => rfl) rfl ?_
    refine ex_iadd rfl (by first | decide | omega) rfl ?_
    refine ex_go (S := (52, [(0, gx_r 22), (1, gx_r 15)], [.inl 16, .inl (o + 1), gx_r 22], t121, n, 0)) rfl (fun _ => rfl) rfl ?_
    refine gx_iremn rfl (by first | decide | omega) (by first | decide | omega) (by first | decide | omega) rfl ?_
    refine gxo_put (a := 22) rfl g121 rfl rfl rfl (ai_in_h (by first | decide | omega) (by first | decide | omega) (by first | decide | omega)) rfl (fun t124 g124 k124 e124 => ?_)
    have k25 : ai_hv t124 22 2 = some (.inl 16) := (e124 22 2 (by first | decide | omega)).trans k22
    refine ex_ret (r := (none, t124, n, 0)) rfl (fun _ => rfl) ?_
    have hk9 : kpu 16 = 16 := rfl
    refine ⟨_, rfl, t124, rfl, g124, (fun c i h => (e124 c i (by first | decide | omega)).trans (e121 c i (by first | decide | omega))), (o + 1) % 16, by omega, k124, by rw [hk9]; exact k25, fun k hk => ?_⟩
    rw [hk9] at hk
    by_cases e9 : k = 15
    · have e8 : kpt 16 σ τ k = σ := by unfold kpt; rw [if_neg (by decide), if_pos e9]
      rw [e8, show ((o + 1) % 16 + k) % 16 = (o + 16) % 16 by omega]
      exact SC_keep (SC_take (A := 24 + 7 * ((o + 16) % 16)) hσ hT hK y121a y121b y121c) (fun c i h1 h2 => e124 c i (by first | decide | omega))
    · have e8 : kpt 16 σ τ k = τ (k + 1) := by unfold kpt; rw [if_neg (by decide), if_neg e9]
      rw [e8, show ((o + 1) % 16 + k) % 16 = (o + (k + 1)) % 16 by omega]
      exact SC_keep (hτ (k + 1) (by first | decide | omega)) (fun c i h1 h2 => (e124 c i (by first | decide | omega)).trans (e121 c i (by first | decide | omega)))
  · refine en_u_ex (d := d + 1) rfl ?_
    show en_ex _ _ _ _ (0, [(0, gx_r 22), (1, gx_r 15)], [], t0, n, 0) _
    refine ex_go (S := (1, [(0, gx_r 22), (1, gx_r 15)], [gx_r 22], t0, n, 0)) rfl (fun _ => rfl) rfl ?_
    refine gxo_ref (a := 22) (c := 23) rfl g0 rfl rfl rfl rfl rfl ?_
    refine ex_go (S := (5, [(0, gx_r 22), (1, gx_r 15)], [gx_r 22, gx_r 23], t0, n, 0)) rfl (fun _ => rfl) rfl ?_
    refine gxo_get (a := 22) rfl g0 rfl rfl ko rfl ?_
    refine ex_go (S := (9, [(0, gx_r 22), (1, gx_r 15)], [gx_r 22, .inl o, gx_r 23], t0, n, 0)) rfl (fun _ => rfl) rfl ?_
    refine gxo_get (a := 22) rfl g0 rfl rfl ku rfl ?_
    refine ex_iadd rfl (by first | decide | omega) rfl ?_
    refine ex_go (S := (15, [(0, gx_r 22), (1, gx_r 15)], [.inl 16, .inl (o + u), gx_r 23], t0, n, 0)) rfl (fun _ => rfl) rfl ?_
    refine gx_iremn rfl (by first | decide | omega) (by first | decide | omega) (by first | decide | omega) rfl ?_
    refine gx_ag (v := gx_r (24 + 7 * ((o + u) % 16))) (cb := fun c => Nat.ble 4 c && Nat.ble c 7) rfl (fun _ => rfl) g0 rfl rfl (ringk g0 (by first | decide | omega)) (by first | decide | omega) rfl ?_
    refine ex_go (S := (18, [(0, gx_r 22), (1, gx_r 15)], [gx_r 15, gx_r (24 + 7 * ((o + u) % 16))], t0, n, 0)) rfl (fun _ => rfl) rfl ?_
    obtain ⟨_, r121, t121, rfl, g121, e121, y121a, y121b, y121c⟩ := sc_take d n (A := 24 + 7 * ((o + u) % 16)) (B := 15) g0 (StA_ring (by first | decide | omega)) StA_15 (by unfold StD; omega)
    obtain ⟨-, ⟨gg121, q1211, q1212, -⟩, -⟩ := StA_ring (k := ((o + u) % 16)) (by first | decide | omega)
    refine gx_callo (a := 24 + 7 * ((o + u) % 16)) rfl rfl g0 q1211 q1212 rfl r121 rfl ?_
    have k22 : ai_hv t121 22 2 = some (.inl u) := (e121 22 2 (by first | decide | omega)).trans ku
    have k23 : ai_hv t121 22 1 = some (.inl o) := (e121 22 1 (by first | decide | omega)).trans ko
    show en_ex _ _ _ _ (21, [(0, gx_r 22), (1, gx_r 15)], [], t121, n, 0) _
    refine ex_go (S := (22, [(0, gx_r 22), (1, gx_r 15)], [gx_r 22], t121, n, 0)) rfl (fun _ => rfl) rfl ?_
    refine gxo_get (a := 22) rfl g121 rfl rfl k22 rfl ?_
    refine ex_go (S := (27, [(0, gx_r 22), (1, gx_r 15)], [.inl 16, .inl u], t121, n, 0)) rfl (fun _ => rfl) rfl ?_
    refine gx_2f (c := .ge) rfl (by first | decide | omega) (by first | decide | omega) (show ¬ (16 ≤ u) from by omega) rfl ?_
    refine ex_go (S := (31, [(0, gx_r 22), (1, gx_r 15)], [gx_r 22], t121, n, 0)) rfl (fun _ => rfl) rfl ?_
    refine ex_go (S := (32, [(0, gx_r 22), (1, gx_r 15)], [gx_r 22, gx_r 22], t121, n, 0)) rfl (fun _ => rfl) rfl ?_
    refine gxo_get (a := 22) rfl g121 rfl rfl k22 rfl ?_
    refine ex_go (S := (36, [(0, gx_r 22), (1, gx_r 15)], [.inl 1, .inl u, gx_r 22], t121, n, 0)) rfl (fun _ => rfl) rfl ?_
    refine ex_iadd rfl (by first | decide | omega) rfl ?_
    refine gxo_put (a := 22) rfl g121 rfl rfl rfl (ai_in_h (by first | decide | omega) (by first | decide | omega) (by first | decide | omega)) rfl (fun t124 g124 k124 e124 => ?_)
    have k25 : ai_hv t124 22 1 = some (.inl o) := (e124 22 1 (by first | decide | omega)).trans k23
    refine ex_go (S := (56, [(0, gx_r 22), (1, gx_r 15)], [], t124, n, 0)) rfl (fun _ => rfl) rfl ?_
    refine ex_ret (r := (none, t124, n, 0)) rfl (fun _ => rfl) ?_
    have hk9 : kpu u = u + 1 := if_pos (by first | decide | omega)
    refine ⟨_, rfl, t124, rfl, g124, (fun c i h => (e124 c i (by first | decide | omega)).trans (e121 c i (by first | decide | omega))), o, by omega, k25, by rw [hk9]; exact k124, fun k hk => ?_⟩
    rw [hk9] at hk
    by_cases e9 : k = u
    · have e8 : kpt u σ τ k = σ := by unfold kpt; rw [if_pos (by first | decide | omega), if_pos e9]
      rw [e8, e9]
      exact SC_keep (SC_take (A := 24 + 7 * ((o + u) % 16)) hσ hT hK y121a y121b y121c) (fun c i h1 h2 => e124 c i (by first | decide | omega))
    · have e8 : kpt u σ τ k = τ k := by unfold kpt; rw [if_pos (by first | decide | omega), if_neg e9]
      rw [e8]
      exact SC_keep (hτ k (by first | decide | omega)) (fun c i h1 h2 => (e124 c i (by first | decide | omega)).trans (e121 c i (by first | decide | omega)))
end SSD
