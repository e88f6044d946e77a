section SSM
section
variable {t0 t1 t2 : en_H} {u q : Nat} {σ σ' F v : Nat → Nat} {τ μ : Nat → Nat → Nat}
theorem RS_new (h : RS t0 σ u τ F μ q v) (hu : u ≤ 16) (k1 : ai_hv t2 383 26 = some (.inl (kpu u))) (k2 : ∀ k, k < kpu u → blk t2 (45 * (5 + k)) (kpt u σ τ k)) (b : blk t2 0 σ') (e : ∀ i, 17 ≤ i → i < 225 → ai_hv t2 399 i = ai_hv t0 399 i) (e4 : ∀ i, ai_hv t2 400 i = ai_hv t0 400 i) : RS t2 σ' (kpu u) (kpt u σ τ) F μ q v := by
  obtain ⟨h1, h2, ⟨h3, h4⟩, h5⟩ := h
  exact ⟨b, (e _ (by decide) (by decide)).trans h2, ⟨k1, k2⟩, fun m hm => ⟨(e4 m).trans (h5 m hm).1, fun z => ⟨blk_keep ((h5 m hm).2 z).1 (fun j hj => e _ (by first | decide | omega) (by first | decide | omega)), (e _ (by first | decide | omega) (by first | decide | omega)).trans ((h5 m hm).2 z).2⟩⟩⟩
end
theorem sr_isCrew (d n : Nat) {t0 : en_H} {c K : Nat} (g0 : ai_HG ah_G t0) (hc : c < 4294967296) (kK : ai_hv t0 389 4 = some (.inl K)) (hK : K ≤ 6) : ∃ r, en_u (d + 2) 112 [gx_r 383, .inl c] t0 n = some r ∧ ∃ b, r = (some (.inl b), t0, n, 0) ∧ b ≤ 1 ∧ (b = 1 ↔ c < K) := by
  by_cases hn : 2147483648 ≤ c
  · refine en_u_ex (d := d + 1) rfl ?_
    show en_ex _ _ _ _ (0, [(0, gx_r 383), (1, .inl c)], [], t0, n, 0) _
    refine ex_go (S := (1, [(0, gx_r 383), (1, .inl c)], [.inl c], t0, n, 0)) rfl (fun _ => rfl) rfl ?_
    refine gx_negt (c := .lt) rfl (by first | decide | omega) (by first | decide | omega) rfl rfl ?_
    refine ex_go (S := (17, [(0, gx_r 383), (1, .inl c)], [.inl 0], t0, n, 0)) rfl (fun _ => rfl) rfl ?_
    refine ex_ret (r := (some (.inl 0), t0, n, 0)) rfl (fun _ => rfl) ?_
    exact ⟨_, rfl, 0, rfl, by decide, by omega⟩
  · refine en_u_ex (d := d + 1) rfl ?_
    show en_ex _ _ _ _ (0, [(0, gx_r 383), (1, .inl c)], [], t0, n, 0) _
    refine ex_go (S := (1, [(0, gx_r 383), (1, .inl c)], [.inl c], t0, n, 0)) rfl (fun _ => rfl) rfl ?_
    refine gx_1f (c := .lt) rfl (by first | decide | omega) (show ¬ (c < 0) from by omega) rfl ?_
    refine ex_go (S := (5, [(0, gx_r 383), (1, .inl c)], [.inl c], t0, n, 0)) rfl (fun _ => rfl) rfl ?_
    refine ex_go (S := (6, [(0, gx_r 383), (1, .inl c)], [gx_r 383, .inl c], t0, n, 0)) rfl (fun _ => rfl) rfl ?_
    obtain ⟨_, r21, rfl⟩ := sr_crews d n g0 kK
    refine gx_call1 rfl rfl g0 rfl rfl r21 rfl ?_
    show en_ex _ _ _ _ (9, [(0, gx_r 383), (1, .inl c)], [.inl K, .inl c], t0, n, 0) _
    by_cases hc22 : K ≤ c
    · refine gx_2t (c := .ge) rfl (by first | decide | omega) (by first | decide | omega) hc22 rfl ?_
      refine ex_go (S := (17, [(0, gx_r 383), (1, .inl c)], [.inl 0], t0, n, 0)) rfl (fun _ => rfl) rfl ?_
      refine ex_ret (r := (some (.inl 0), t0, n, 0)) rfl (fun _ => rfl) ?_
      exact ⟨_, rfl, 0, rfl, by decide, by omega⟩
    · refine gx_2f (c := .ge) rfl (by first | decide | omega) (by first | decide | omega) hc22 rfl ?_
      refine ex_go (S := (13, [(0, gx_r 383), (1, .inl c)], [.inl 1], t0, n, 0)) rfl (fun _ => rfl) rfl ?_
      refine ex_go (S := (17, [(0, gx_r 383), (1, .inl c)], [.inl 1], t0, n, 0)) rfl (fun _ => rfl) rfl ?_
      refine ex_ret (r := (some (.inl 1), t0, n, 0)) rfl (fun _ => rfl) ?_
      exact ⟨_, rfl, 1, rfl, by decide, by omega⟩
theorem sr_isThing (d n : Nat) {t0 : en_H} {c K : Nat} (g0 : ai_HG ah_G t0) (hc : c < 4294967296) (kK : ai_hv t0 389 2 = some (.inl K)) (hK : K ≤ 6) : ∃ r, en_u (d + 2) 109 [gx_r 383, .inl c] t0 n = some r ∧ ∃ b, r = (some (.inl b), t0, n, 0) ∧ b ≤ 1 ∧ (b = 1 ↔ c < K) := by
  by_cases hn : 2147483648 ≤ c
  · refine en_u_ex (d := d + 1) rfl ?_
    show en_ex _ _ _ _ (0, [(0, gx_r 383), (1, .inl c)], [], t0, n, 0) _
    refine ex_go (S := (1, [(0, gx_r 383), (1, .inl c)], [.inl c], t0, n, 0)) rfl (fun _ => rfl) rfl ?_
    refine gx_negt (c := .lt) rfl (by first | decide | omega) (by first | decide | omega) rfl rfl ?_
    refine ex_go (S := (17, [(0, gx_r 383), (1, .inl c)], [.inl 0], t0, n, 0)) rfl (fun _ => rfl) rfl ?_
    refine ex_ret (r := (some (.inl 0), t0, n, 0)) rfl (fun _ => rfl) ?_
    exact ⟨_, rfl, 0, rfl, by decide, by omega⟩
  · refine en_u_ex (d := d + 1) rfl ?_
    show en_ex _ _ _ _ (0, [(0, gx_r 383), (1, .inl c)], [], t0, n, 0) _
    refine ex_go (S := (1, [(0, gx_r 383), (1, .inl c)], [.inl c], t0, n, 0)) rfl (fun _ => rfl) rfl ?_
    refine gx_1f (c := .lt) rfl (by first | decide | omega) (show ¬ (c < 0) from by omega) rfl ?_
    refine ex_go (S := (5, [(0, gx_r 383), (1, .inl c)], [.inl c], t0, n, 0)) rfl (fun _ => rfl) rfl ?_
    refine ex_go (S := (6, [(0, gx_r 383), (1, .inl c)], [gx_r 383, .inl c], t0, n, 0)) rfl (fun _ => rfl) rfl ?_
    obtain ⟨_, r21, rfl⟩ := sr_things d n g0 kK
    refine gx_call1 rfl rfl g0 rfl rfl r21 rfl ?_
    show en_ex _ _ _ _ (9, [(0, gx_r 383), (1, .inl c)], [.inl K, .inl c], t0, n, 0) _
    by_cases hc22 : K ≤ c
    · refine gx_2t (c := .ge) rfl (by first | decide | omega) (by first | decide | omega) hc22 rfl ?_
      refine ex_go (S := (17, [(0, gx_r 383), (1, .inl c)], [.inl 0], t0, n, 0)) rfl (fun _ => rfl) rfl ?_
      refine ex_ret (r := (some (.inl 0), t0, n, 0)) rfl (fun _ => rfl) ?_
      exact ⟨_, rfl, 0, rfl, by decide, by omega⟩
    · refine gx_2f (c := .ge) rfl (by first | decide | omega) (by first | decide | omega) hc22 rfl ?_
      refine ex_go (S := (13, [(0, gx_r 383), (1, .inl c)], [.inl 1], t0, n, 0)) rfl (fun _ => rfl) rfl ?_
      refine ex_go (S := (17, [(0, gx_r 383), (1, .inl c)], [.inl 1], t0, n, 0)) rfl (fun _ => rfl) rfl ?_
      refine ex_ret (r := (some (.inl 1), t0, n, 0)) rfl (fun _ => rfl) ?_
      exact ⟨_, rfl, 1, rfl, by decide, by omega⟩
theorem sr_mayH (d n : Nat) {t0 : en_H} {w : Nat → Nat → Nat} {L : List Nat} {σ : Nat → Nat} {c : Nat} {to : Nat} (g0 : ai_HG ah_G t0) (hR : RW t0 w L) (hb : sbd σ) (hσ : blk t0 0 σ) (hB : σ 0 ≤ 900000) (hc : c < w 0 4) (ht : to < 64) : ∃ r, en_u (d + 4) 117 [gx_r 383, .inl 0, .inl c, .inl to] t0 n = some r ∧ ∃ v t', r = (some (.inl v), t', n, 0) ∧ ai_HG ah_G t' ∧ (∀ c i, ¬ (c = 401 ∨ c = 402) → ai_hv t' c i = ai_hv t0 c i) ∧ v ≤ 1 ∧ (v = 1 ↔ mayH w σ c to) := by
  have hK := hR.2.1.2.2.2.2.1
  rcases (show c = 0 ∨ c = 1 by omega) with rfl | rfl
  · exact sr_mayH0_0 d n g0 hR hb hσ hB hc ht
  · exact sr_mayH0_1 d n g0 hR hb hσ hB hc ht
theorem sr_mayL (d n : Nat) {t0 : en_H} {w : Nat → Nat → Nat} {L : List Nat} {σ : Nat → Nat} {c : Nat} (g0 : ai_HG ah_G t0) (hR : RW t0 w L) (hb : sbd σ) (hσ : blk t0 0 σ) (hc : c < w 0 4) : ∃ r, en_u (d + 2) 119 [gx_r 383, .inl 0, .inl c] t0 n = some r ∧ ∃ v, r = (some (.inl v), t0, n, 0) ∧ v ≤ 1 ∧ (v = 1 ↔ mayL w σ c) := by
  have hK := hR.2.1.2.2.2.2.1
  rcases (show c = 0 ∨ c = 1 by omega) with rfl | rfl
  · exact sr_mayL0_0 d n g0 hR hb hσ hc
  · exact sr_mayL0_1 d n g0 hR hb hσ hc
theorem sr_mayM (d n : Nat) {t0 : en_H} {w : Nat → Nat → Nat} {L : List Nat} {σ : Nat → Nat} {c : Nat} (g0 : ai_HG ah_G t0) (hR : RW t0 w L) (hb : sbd σ) (hσ : blk t0 0 σ) (hc : c < w 0 4) : ∃ r, en_u (d + 2) 121 [gx_r 383, .inl 0, .inl c] t0 n = some r ∧ ∃ v, r = (some (.inl v), t0, n, 0) ∧ v ≤ 1 ∧ (v = 1 ↔ mayM w σ c) := by
  have hK := hR.2.1.2.2.2.2.1
  rcases (show c = 0 ∨ c = 1 by omega) with rfl | rfl
  · exact sr_mayM0_0 d n g0 hR hb hσ hc
  · exact sr_mayM0_1 d n g0 hR hb hσ hc
theorem sr_hto (d n : Nat) {t0 : en_H} {σ : Nat → Nat} {c : Nat} {to : Nat} (g0 : ai_HG ah_G t0) (hσ : blk t0 0 σ) (hc : c ≤ 1) (ht : to < 64) : ∃ r, en_u (d + 1) 118 [gx_r 383, .inl 0, .inl c, .inl to] t0 n = some r ∧ ∃ t', r = (none, t', n, 0) ∧ ai_HG ah_G t' ∧ (∀ c i, ¬ (c = 399 ∧ 0 ≤ i ∧ i < 17) → ai_hv t' c i = ai_hv t0 c i) ∧ blk t' 0 (sgH σ c to) := by
  rcases (show c = 0 ∨ c = 1 by omega) with rfl | rfl
  · exact sr_hto0_0 d n (w := fun _ _ => 0) (L := []) g0 hσ ht
  · exact sr_hto0_1 d n (w := fun _ _ => 0) (L := []) g0 hσ ht
theorem sr_lends (d n : Nat) {t0 : en_H} {σ : Nat → Nat} {c : Nat} {v : Nat} (g0 : ai_HG ah_G t0) (hb : sbd σ) (hsum : σ 7 + σ 8 ≤ 19998) (hσ : blk t0 0 σ) (hc : c ≤ 1) (hv : v ≤ 999) : ∃ r, en_u (d + 1) 120 [gx_r 383, .inl 0, .inl c, .inl v] t0 n = some r ∧ ∃ t', r = (some (.inl (lnv σ c v)), t', n, 0) ∧ ai_HG ah_G t' ∧ (∀ c i, ¬ (c = 399 ∧ 0 ≤ i ∧ i < 17) → ai_hv t' c i = ai_hv t0 c i) ∧ blk t' 0 (sgL σ c v) := by
  rcases (show c = 0 ∨ c = 1 by omega) with rfl | rfl
  · exact sr_lends0_0 d n (w := fun _ _ => 0) (L := []) g0 hb hsum hσ hv
  · exact sr_lends0_1 d n (w := fun _ _ => 0) (L := []) g0 hb hsum hσ hv
theorem sr_haul (d n : Nat) {t0 : en_H} {w : Nat → Nat → Nat} {L : List Nat} {σ F v : Nat → Nat} {τ μ : Nat → Nat → Nat} {u q : Nat} {c x y : Nat} (g0 : ai_HG ah_G t0) (hR : RW t0 w L) (hS : RS t0 σ u τ F μ q v) (hu : u ≤ 16) (hb : sbd σ) (hB : σ 0 ≤ 900000) (hc : c < 4294967296) (hx : x < 4294967296) (hy : y < 4294967296) : ∃ r, en_u (d + 5) 45 [gx_r 383, .inl c, .inl x, .inl y] t0 n = some r ∧ ∃ z t', r = (some (.inl z), t', n, 0) ∧ ai_HG ah_G t' ∧ (∀ c i, ¬ ((c = 399 ∧ i < 945) ∨ (c = 383 ∧ (i = 0 ∨ i = 26)) ∨ c = 401 ∨ c = 402) → ai_hv t' c i = ai_hv t0 c i) ∧ z ≤ 1 ∧ (z = 1 → (c < w 0 4 ∧ x < w 0 0 ∧ y < w 0 1 ∧ mayH w σ c (8 * y + x)) ∧ RS t' (sgH σ c (8 * y + x)) (kpu u) (kpt u σ τ) F μ q v) ∧ (z = 0 → ¬ (c < w 0 4 ∧ x < w 0 0 ∧ y < w 0 1 ∧ mayH w σ c (8 * y + x)) ∧ RS t' σ u τ F μ q v) := by
  have hO := hR.2.1.1
  have hD := hR.2.1.2.1
  have hK := hR.2.1.2.2.2.2.1
  refine en_u_ex (d := d + 4) rfl ?_
  show en_ex _ _ _ _ (0, [(0, gx_r 383), (1, .inl c), (2, .inl x), (3, .inl y)], [], t0, n, 0) _
  refine ex_go (S := (1, [(0, gx_r 383), (1, .inl c), (2, .inl x), (3, .inl y)], [gx_r 383], t0, n, 0)) rfl (fun _ => rfl) rfl ?_
  refine ex_go (S := (2, [(0, gx_r 383), (1, .inl c), (2, .inl x), (3, .inl y)], [.inl 0, gx_r 383], t0, n, 0)) rfl (fun _ => rfl) rfl ?_
  refine gx_put rfl g0 rfl rfl (ai_in_h (by first | decide | omega) (by first | decide | omega) (by first | decide | omega)) rfl (fun t121 g121 k121 e121 => ?_)
  refine ex_go (S := (6, [(0, gx_r 383), (1, .inl c), (2, .inl x), (3, .inl y)], [gx_r 383], t121, n, 0)) rfl (fun _ => rfl) rfl ?_
  refine ex_go (S := (7, [(0, gx_r 383), (1, .inl c), (2, .inl x), (3, .inl y)], [.inl c, gx_r 383], t121, n, 0)) rfl (fun _ => rfl) rfl ?_
  obtain ⟨_, r122, b122, rfl, hb122, hi122⟩ := sr_isCrew (d + 2) n (c := c) (K := w 0 4) g121 (by first | decide | omega) ((e121 389 4 (by first | decide | omega)).trans ((hR.1 4 (by first | decide | omega)))) (by first | decide | omega)
  refine gx_call1 rfl rfl g121 rfl rfl r122 rfl ?_
  show en_ex _ _ _ _ (10, [(0, gx_r 383), (1, .inl c), (2, .inl x), (3, .inl y)], [.inl b122], t121, n, 0) _
  by_cases hc23 : b122 = 0
  · refine gx_1t (c := .eq) rfl (by first | decide | omega) hc23 rfl ?_
    refine ex_go (S := (38, [(0, gx_r 383), (1, .inl c), (2, .inl x), (3, .inl y)], [.inl 0], t121, n, 0)) rfl (fun _ => rfl) rfl ?_
    refine ex_ret (r := (some (.inl 0), t121, n, 0)) rfl (fun _ => rfl) ?_
    exact ⟨_, rfl, 0, t121, rfl, g121, (fun c i h => e121 c i (by first | decide | omega)), by decide, (fun z => absurd z (by decide)), fun _ => ⟨(fun z => by obtain ⟨z1, z2, z3, -⟩ := z; omega), RS_keep hS hu (fun c i h => by unfold RSC at h; exact e121 c i (by first | decide | omega))⟩⟩
  · refine gx_1f (c := .eq) rfl (by first | decide | omega) hc23 rfl ?_
    refine ex_go (S := (14, [(0, gx_r 383), (1, .inl c), (2, .inl x), (3, .inl y)], [gx_r 383], t121, n, 0)) rfl (fun _ => rfl) rfl ?_
    refine ex_go (S := (15, [(0, gx_r 383), (1, .inl c), (2, .inl x), (3, .inl y)], [.inl x, gx_r 383], t121, n, 0)) rfl (fun _ => rfl) rfl ?_
    refine ex_go (S := (16, [(0, gx_r 383), (1, .inl c), (2, .inl x), (3, .inl y)], [.inl y, .inl x, gx_r 383], t121, n, 0)) rfl (fun _ => rfl) rfl ?_
    obtain ⟨_, r124, b124, rfl, hb124, hi124⟩ := pe_isPlace (d + 3) n (x := x) (y := y) (o := w 0 0) (e := w 0 1) g121 ((e121 389 0 (by first | decide | omega)).trans ((hR.1 0 (by first | decide | omega)))) ((e121 389 1 (by first | decide | omega)).trans ((hR.1 1 (by first | decide | omega)))) (by first | decide | omega) (by first | decide | omega) hR.2.1.1 hR.2.1.2.1
    refine gx_call1 rfl rfl g121 rfl rfl r124 rfl ?_
    show en_ex _ _ _ _ (19, [(0, gx_r 383), (1, .inl c), (2, .inl x), (3, .inl y)], [.inl b124], t121, n, 0) _
    by_cases hc25 : b124 = 0
    · refine gx_1t (c := .eq) rfl (by first | decide | omega) hc25 rfl ?_
      refine ex_go (S := (38, [(0, gx_r 383), (1, .inl c), (2, .inl x), (3, .inl y)], [.inl 0], t121, n, 0)) rfl (fun _ => rfl) rfl ?_
      refine ex_ret (r := (some (.inl 0), t121, n, 0)) rfl (fun _ => rfl) ?_
      exact ⟨_, rfl, 0, t121, rfl, g121, (fun c i h => e121 c i (by first | decide | omega)), by decide, (fun z => absurd z (by decide)), fun _ => ⟨(fun z => by obtain ⟨z1, z2, z3, -⟩ := z; omega), RS_keep hS hu (fun c i h => by unfold RSC at h; exact e121 c i (by first | decide | omega))⟩⟩
    · refine gx_1f (c := .eq) rfl (by first | decide | omega) hc25 rfl ?_
      refine ex_go (S := (23, [(0, gx_r 383), (1, .inl c), (2, .inl x), (3, .inl y)], [gx_r 383], t121, n, 0)) rfl (fun _ => rfl) rfl ?_
      refine ex_go (S := (24, [(0, gx_r 383), (1, .inl c), (2, .inl x), (3, .inl y)], [.inl 0, gx_r 383], t121, n, 0)) rfl (fun _ => rfl) rfl ?_
      refine ex_go (S := (25, [(0, gx_r 383), (1, .inl c), (2, .inl x), (3, .inl y)], [.inl c, .inl 0, gx_r 383], t121, n, 0)) rfl (fun _ => rfl) rfl ?_
      refine ex_go (S := (27, [(0, gx_r 383), (1, .inl c), (2, .inl x), (3, .inl y)], [.inl 8, .inl c, .inl 0, gx_r 383], t121, n, 0)) rfl (fun _ => rfl) rfl ?_
      refine ex_go (S := (28, [(0, gx_r 383), (1, .inl c), (2, .inl x), (3, .inl y)], [.inl y, .inl 8, .inl c, .inl 0, gx_r 383], t121, n, 0)) rfl (fun _ => rfl) rfl ?_
      refine gx_imul rfl (by first | decide | omega) rfl ?_
      refine ex_go (S := (30, [(0, gx_r 383), (1, .inl c), (2, .inl x), (3, .inl y)], [.inl x, .inl (8 * y), .inl c, .inl 0, gx_r 383], t121, n, 0)) rfl (fun _ => rfl) rfl ?_
      refine ex_iadd rfl (by first | decide | omega) rfl ?_
      obtain ⟨_, r126, v126, t126, rfl, g126, e126, hv126, hm126⟩ := sr_mayH d n (w := w) (L := L) (σ := σ) (c := c) (to := 8 * y + x) g121 (RW_keep hR (fun i hi => e121 389 i (by first | decide | omega)) (fun c i hc _ => e121 c i (by first | decide | omega))) hb (blk_keep hS.1 (fun j hj => e121 399 _ (by first | decide | omega))) hB (by first | decide | omega) (by first | decide | omega)
      refine gx_call1 rfl rfl g121 rfl rfl r126 rfl ?_
      have k27 : ai_hv t126 383 0 = some (.inl 0) := (e126 383 0 (by first | decide | omega)).trans k121
      show en_ex _ _ _ _ (34, [(0, gx_r 383), (1, .inl c), (2, .inl x), (3, .inl y)], [.inl v126], t126, n, 0) _
      by_cases hc28 : v126 ≠ 0
      · refine gx_1t (c := .ne) rfl (by first | decide | omega) hc28 rfl ?_
        refine ex_go (S := (40, [(0, gx_r 383), (1, .inl c), (2, .inl x), (3, .inl y)], [gx_r 383], t126, n, 0)) rfl (fun _ => rfl) rfl ?_
        obtain ⟨_, r129, t129, rfl, g129, e129, k129a, k129b⟩ := sr_keeps (d + 2) n (u := u) (σ := σ) (τ := τ) g126 hu ((e126 383 26 (by first | decide | omega)).trans ((e121 383 26 (by first | decide | omega)).trans (hS.2.2.1.1))) (blk_keep hS.1 (fun j hj => (e126 399 _ (by first | decide | omega)).trans (e121 399 _ (by first | decide | omega)))) (fun k hk => blk_keep (hS.2.2.1.2 k hk) (fun j hj => (e126 399 _ (by first | decide | omega)).trans (e121 399 _ (by first | decide | omega))))
        refine gx_call0 rfl rfl g126 rfl rfl r129 rfl ?_
        have k30 : ai_hv t129 383 0 = some (.inl 0) := (e129 383 0 (by first | decide | omega)).trans k27
        show en_ex _ _ _ _ (43, [(0, gx_r 383), (1, .inl c), (2, .inl x), (3, .inl y)], [], t129, n, 0) _
        refine ex_go (S := (44, [(0, gx_r 383), (1, .inl c), (2, .inl x), (3, .inl y)], [gx_r 383], t129, n, 0)) rfl (fun _ => rfl) rfl ?_
        refine ex_go (S := (45, [(0, gx_r 383), (1, .inl c), (2, .inl x), (3, .inl y)], [.inl 0, gx_r 383], t129, n, 0)) rfl (fun _ => rfl) rfl ?_
        refine ex_go (S := (46, [(0, gx_r 383), (1, .inl c), (2, .inl x), (3, .inl y)], [.inl c, .inl 0, gx_r 383], t129, n, 0)) rfl (fun _ => rfl) rfl ?_
        refine ex_go (S := (48, [(0, gx_r 383), (1, .inl c), (2, .inl x), (3, .inl y)], [.inl 8, .inl c, .inl 0, gx_r 383], t129, n, 0)) rfl (fun _ => rfl) rfl ?_
        refine ex_go (S := (49, [(0, gx_r 383), (1, .inl c), (2, .inl x), (3, .inl y)], [.inl y, .inl 8, .inl c, .inl 0, gx_r 383], t129, n, 0)) rfl (fun _ => rfl) rfl ?_
        refine gx_imul rfl (by first | decide | omega) rfl ?_
        refine ex_go (S := (51, [(0, gx_r 383), (1, .inl c), (2, .inl x), (3, .inl y)], [.inl x, .inl (8 * y), .inl c, .inl 0, gx_r 383], t129, n, 0)) rfl (fun _ => rfl) rfl ?_
        refine ex_iadd rfl (by first | decide | omega) rfl ?_
        obtain ⟨_, r131, t131, rfl, g131, e131, k131⟩ := sr_hto (d + 3) n (σ := σ) (c := c) (to := 8 * y + x) g129 (blk_keep hS.1 (fun j hj => (e129 399 _ (by first | decide | omega)).trans ((e126 399 _ (by first | decide | omega)).trans (e121 399 _ (by first | decide | omega))))) (by first | decide | omega) (by first | decide | omega)
        refine gx_call0 rfl rfl g129 rfl rfl r131 rfl ?_
        have k32 : ai_hv t131 383 0 = some (.inl 0) := (e131 383 0 (by first | decide | omega)).trans k30
        show en_ex _ _ _ _ (55, [(0, gx_r 383), (1, .inl c), (2, .inl x), (3, .inl y)], [], t131, n, 0) _
        refine ex_go (S := (56, [(0, gx_r 383), (1, .inl c), (2, .inl x), (3, .inl y)], [.inl 1], t131, n, 0)) rfl (fun _ => rfl) rfl ?_
        refine ex_ret (r := (some (.inl 1), t131, n, 0)) rfl (fun _ => rfl) ?_
        exact ⟨_, rfl, 1, t131, rfl, g131, (fun c i h => (e131 c i (by first | decide | omega)).trans ((e129 c i (by first | decide | omega)).trans ((e126 c i (by first | decide | omega)).trans (e121 c i (by first | decide | omega))))), by decide, (fun _ => ⟨⟨by omega, by omega, by omega, hm126.mp (by first | decide | omega)⟩, RS_new hS hu ((e131 383 26 (by first | decide | omega)).trans (k129a)) (fun k hk => blk_keep (k129b k hk) (fun j hj => e131 399 _ (by first | decide | omega))) k131 (fun i h1 h2 => (e131 399 i (by first | decide | omega)).trans ((e129 399 i (by first | decide | omega)).trans ((e126 399 i (by first | decide | omega)).trans (e121 399 i (by first | decide | omega))))) (fun i => (e131 400 i (by first | decide | omega)).trans ((e129 400 i (by first | decide | omega)).trans ((e126 400 i (by first | decide | omega)).trans (e121 400 i (by first | decide | omega)))))⟩), fun z => absurd z (by decide)⟩
      · refine gx_1f (c := .ne) rfl (by first | decide | omega) hc28 rfl ?_
        refine ex_go (S := (38, [(0, gx_r 383), (1, .inl c), (2, .inl x), (3, .inl y)], [.inl 0], t126, n, 0)) rfl (fun _ => rfl) rfl ?_
        refine ex_ret (r := (some (.inl 0), t126, n, 0)) rfl (fun _ => rfl) ?_
        exact ⟨_, rfl, 0, t126, rfl, g126, (fun c i h => (e126 c i (by first | decide | omega)).trans (e121 c i (by first | decide | omega))), by decide, (fun z => absurd z (by decide)), fun _ => ⟨(fun z => absurd (hm126.mpr z.2.2.2) (by first | decide | omega)), RS_keep hS hu (fun c i h => by unfold RSC at h; exact (e126 c i (by first | decide | omega)).trans (e121 c i (by first | decide | omega)))⟩⟩
theorem sr_lend (d n : Nat) {t0 : en_H} {w : Nat → Nat → Nat} {L : List Nat} {σ F v : Nat → Nat} {τ μ : Nat → Nat → Nat} {u q : Nat} {c x : Nat} (g0 : ai_HG ah_G t0) (hR : RW t0 w L) (hS : RS t0 σ u τ F μ q v) (hu : u ≤ 16) (hb : sbd σ) (hsum : σ 7 + σ 8 ≤ 19998) (hc : c < 4294967296) (hx : x < 4294967296) : ∃ r, en_u (d + 4) 47 [gx_r 383, .inl c, .inl x] t0 n = some r ∧ ∃ z t', r = (some (.inl z), t', n, 0) ∧ ai_HG ah_G t' ∧ (∀ c i, ¬ ((c = 399 ∧ i < 945) ∨ (c = 383 ∧ (i = 0 ∨ i = 26)) ∨ c = 401 ∨ c = 402) → ai_hv t' c i = ai_hv t0 c i) ∧ ((c < w 0 4 ∧ (1 ≤ x ∧ x ≤ 999) ∧ mayL w σ c) → z = lnv σ c x ∧ RS t' (sgL σ c x) (kpu u) (kpt u σ τ) F μ q v) ∧ (¬ (c < w 0 4 ∧ (1 ≤ x ∧ x ≤ 999) ∧ mayL w σ c) → z = 4294967295 ∧ RS t' σ u τ F μ q v) := by
  have hK := hR.2.1.2.2.2.2.1
  refine en_u_ex (d := d + 3) rfl ?_
  show en_ex _ _ _ _ (0, [(0, gx_r 383), (1, .inl c), (2, .inl x)], [], t0, n, 0) _
  refine ex_go (S := (1, [(0, gx_r 383), (1, .inl c), (2, .inl x)], [gx_r 383], t0, n, 0)) rfl (fun _ => rfl) rfl ?_
  refine ex_go (S := (2, [(0, gx_r 383), (1, .inl c), (2, .inl x)], [.inl 0, gx_r 383], t0, n, 0)) rfl (fun _ => rfl) rfl ?_
  refine gx_put rfl g0 rfl rfl (ai_in_h (by first | decide | omega) (by first | decide | omega) (by first | decide | omega)) rfl (fun t121 g121 k121 e121 => ?_)
  refine ex_go (S := (6, [(0, gx_r 383), (1, .inl c), (2, .inl x)], [gx_r 383], t121, n, 0)) rfl (fun _ => rfl) rfl ?_
  refine ex_go (S := (7, [(0, gx_r 383), (1, .inl c), (2, .inl x)], [.inl c, gx_r 383], t121, n, 0)) rfl (fun _ => rfl) rfl ?_
  obtain ⟨_, r122, b122, rfl, hb122, hi122⟩ := sr_isCrew (d + 1) n (c := c) (K := w 0 4) g121 (by first | decide | omega) ((e121 389 4 (by first | decide | omega)).trans ((hR.1 4 (by first | decide | omega)))) (by first | decide | omega)
  refine gx_call1 rfl rfl g121 rfl rfl r122 rfl ?_
  show en_ex _ _ _ _ (10, [(0, gx_r 383), (1, .inl c), (2, .inl x)], [.inl b122], t121, n, 0) _
  by_cases hc23 : b122 = 0
  · refine gx_1t (c := .eq) rfl (by first | decide | omega) hc23 rfl ?_
    refine ex_go (S := (34, [(0, gx_r 383), (1, .inl c), (2, .inl x)], [.inl 4294967295], t121, n, 0)) rfl (fun _ => rfl) rfl ?_
    refine ex_ret (r := (some (.inl 4294967295), t121, n, 0)) rfl (fun _ => rfl) ?_
    exact ⟨_, rfl, _, t121, rfl, g121, (fun c i h => e121 c i (by first | decide | omega)), (fun z => by obtain ⟨z1, z2, -⟩ := z; omega), fun _ => ⟨rfl, RS_keep hS hu (fun c i h => by unfold RSC at h; exact e121 c i (by first | decide | omega))⟩⟩
  · refine gx_1f (c := .eq) rfl (by first | decide | omega) hc23 rfl ?_
    refine ex_go (S := (14, [(0, gx_r 383), (1, .inl c), (2, .inl x)], [.inl x], t121, n, 0)) rfl (fun _ => rfl) rfl ?_
    refine ex_go (S := (15, [(0, gx_r 383), (1, .inl c), (2, .inl x)], [.inl 1, .inl x], t121, n, 0)) rfl (fun _ => rfl) rfl ?_
    refine ex_go (S := (18, [(0, gx_r 383), (1, .inl c), (2, .inl x)], [.inl 999, .inl 1, .inl x], t121, n, 0)) rfl (fun _ => rfl) rfl ?_
    obtain ⟨_, r24, b25, rfl, b25b, q26⟩ := pz_within (d + 2) n (t0 := t121) (x := x) (lo := 1) (hi := 999) (by first | decide | omega) (by first | decide | omega) (by first | decide | omega)
    refine ex_stat rfl rfl rfl rfl rfl r24 (Nat.le_refl _) rfl ?_
    show en_ex _ _ _ _ (21, [(0, gx_r 383), (1, .inl c), (2, .inl x)], [.inl b25], t121, n, 0) _
    by_cases hc27 : b25 = 0
    · refine gx_1t (c := .eq) rfl (by first | decide | omega) hc27 rfl ?_
      refine ex_go (S := (34, [(0, gx_r 383), (1, .inl c), (2, .inl x)], [.inl 4294967295], t121, n, 0)) rfl (fun _ => rfl) rfl ?_
      refine ex_ret (r := (some (.inl 4294967295), t121, n, 0)) rfl (fun _ => rfl) ?_
      exact ⟨_, rfl, _, t121, rfl, g121, (fun c i h => e121 c i (by first | decide | omega)), (fun z => by obtain ⟨z1, z2, -⟩ := z; omega), fun _ => ⟨rfl, RS_keep hS hu (fun c i h => by unfold RSC at h; exact e121 c i (by first | decide | omega))⟩⟩
    · refine gx_1f (c := .eq) rfl (by first | decide | omega) hc27 rfl ?_
      refine ex_go (S := (25, [(0, gx_r 383), (1, .inl c), (2, .inl x)], [gx_r 383], t121, n, 0)) rfl (fun _ => rfl) rfl ?_
      refine ex_go (S := (26, [(0, gx_r 383), (1, .inl c), (2, .inl x)], [.inl 0, gx_r 383], t121, n, 0)) rfl (fun _ => rfl) rfl ?_
      refine ex_go (S := (27, [(0, gx_r 383), (1, .inl c), (2, .inl x)], [.inl c, .inl 0, gx_r 383], t121, n, 0)) rfl (fun _ => rfl) rfl ?_
      obtain ⟨_, r128, v128, rfl, hv128, hm128⟩ := sr_mayL (d + 1) n (w := w) (L := L) (σ := σ) (c := c) g121 (RW_keep hR (fun i hi => e121 389 i (by first | decide | omega)) (fun c i hc _ => e121 c i (by first | decide | omega))) hb (blk_keep hS.1 (fun j hj => e121 399 _ (by first | decide | omega))) (by first | decide | omega)
      refine gx_call1 rfl rfl g121 rfl rfl r128 rfl ?_
      show en_ex _ _ _ _ (30, [(0, gx_r 383), (1, .inl c), (2, .inl x)], [.inl v128], t121, n, 0) _
      by_cases hc29 : v128 ≠ 0
      · refine gx_1t (c := .ne) rfl (by first | decide | omega) hc29 rfl ?_
        refine ex_go (S := (36, [(0, gx_r 383), (1, .inl c), (2, .inl x)], [gx_r 383], t121, n, 0)) rfl (fun _ => rfl) rfl ?_
        obtain ⟨_, r130, t130, rfl, g130, e130, k130a, k130b⟩ := sr_keeps (d + 1) n (u := u) (σ := σ) (τ := τ) g121 hu ((e121 383 26 (by first | decide | omega)).trans (hS.2.2.1.1)) (blk_keep hS.1 (fun j hj => e121 399 _ (by first | decide | omega))) (fun k hk => blk_keep (hS.2.2.1.2 k hk) (fun j hj => e121 399 _ (by first | decide | omega)))
        refine gx_call0 rfl rfl g121 rfl rfl r130 rfl ?_
        have k31 : ai_hv t130 383 0 = some (.inl 0) := (e130 383 0 (by first | decide | omega)).trans k121
        show en_ex _ _ _ _ (39, [(0, gx_r 383), (1, .inl c), (2, .inl x)], [], t130, n, 0) _
        refine ex_go (S := (40, [(0, gx_r 383), (1, .inl c), (2, .inl x)], [gx_r 383], t130, n, 0)) rfl (fun _ => rfl) rfl ?_
        refine ex_go (S := (41, [(0, gx_r 383), (1, .inl c), (2, .inl x)], [.inl 0, gx_r 383], t130, n, 0)) rfl (fun _ => rfl) rfl ?_
        refine ex_go (S := (42, [(0, gx_r 383), (1, .inl c), (2, .inl x)], [.inl c, .inl 0, gx_r 383], t130, n, 0)) rfl (fun _ => rfl) rfl ?_
        refine ex_go (S := (43, [(0, gx_r 383), (1, .inl c), (2, .inl x)], [.inl x, .inl c, .inl 0, gx_r 383], t130, n, 0)) rfl (fun _ => rfl) rfl ?_
        obtain ⟨_, r132, t132, rfl, g132, e132, k132⟩ := sr_lends (d + 2) n (σ := σ) (c := c) (v := x) g130 hb hsum (blk_keep hS.1 (fun j hj => (e130 399 _ (by first | decide | omega)).trans (e121 399 _ (by first | decide | omega)))) (by first | decide | omega) (by first | decide | omega)
        refine gx_call1 rfl rfl g130 rfl rfl r132 rfl ?_
        have k33 : ai_hv t132 383 0 = some (.inl 0) := (e132 383 0 (by first | decide | omega)).trans k31
        show en_ex _ _ _ _ (46, [(0, gx_r 383), (1, .inl c), (2, .inl x)], [.inl (lnv σ c x)], t132, n, 0) _
        refine ex_ret (r := (some (.inl (lnv σ c x)), t132, n, 0)) rfl (fun _ => rfl) ?_
        exact ⟨_, rfl, _, t132, rfl, g132, (fun c i h => (e132 c i (by first | decide | omega)).trans ((e130 c i (by first | decide | omega)).trans (e121 c i (by first | decide | omega)))), (fun _ => ⟨rfl, RS_new hS hu ((e132 383 26 (by first | decide | omega)).trans (k130a)) (fun k hk => blk_keep (k130b k hk) (fun j hj => e132 399 _ (by first | decide | omega))) k132 (fun i h1 h2 => (e132 399 i (by first | decide | omega)).trans ((e130 399 i (by first | decide | omega)).trans (e121 399 i (by first | decide | omega)))) (fun i => (e132 400 i (by first | decide | omega)).trans ((e130 400 i (by first | decide | omega)).trans (e121 400 i (by first | decide | omega))))⟩), fun z => absurd ⟨by omega, by omega, hm128.mp (by first | decide | omega)⟩ z⟩
      · refine gx_1f (c := .ne) rfl (by first | decide | omega) hc29 rfl ?_
        refine ex_go (S := (34, [(0, gx_r 383), (1, .inl c), (2, .inl x)], [.inl 4294967295], t121, n, 0)) rfl (fun _ => rfl) rfl ?_
        refine ex_ret (r := (some (.inl 4294967295), t121, n, 0)) rfl (fun _ => rfl) ?_
        exact ⟨_, rfl, _, t121, rfl, g121, (fun c i h => e121 c i (by first | decide | omega)), (fun z => absurd (hm128.mpr z.2.2) (by first | decide | omega)), fun _ => ⟨rfl, RS_keep hS hu (fun c i h => by unfold RSC at h; exact e121 c i (by first | decide | omega))⟩⟩
theorem sr_home (d n : Nat) {t0 : en_H} {w : Nat → Nat → Nat} {L : List Nat} {σ F v : Nat → Nat} {τ μ : Nat → Nat → Nat} {u q : Nat} {c : Nat} (g0 : ai_HG ah_G t0) (hR : RW t0 w L) (hS : RS t0 σ u τ F μ q v) (hu : u ≤ 16) (hb : sbd σ) (hc : c < 4294967296) : ∃ r, en_u (d + 3) 49 [gx_r 383, .inl c] t0 n = some r ∧ ∃ z t', r = (some (.inl z), t', n, 0) ∧ ai_HG ah_G t' ∧ (∀ c i, ¬ ((c = 399 ∧ i < 945) ∨ (c = 383 ∧ (i = 0 ∨ i = 26)) ∨ c = 401 ∨ c = 402) → ai_hv t' c i = ai_hv t0 c i) ∧ z ≤ 1 ∧ (z = 1 → (c < w 0 4 ∧ mayM w σ c) ∧ RS t' (sgM' σ c) (kpu u) (kpt u σ τ) F μ q v) ∧ (z = 0 → ¬ (c < w 0 4 ∧ mayM w σ c) ∧ RS t' σ u τ F μ q v) := by
  have hK := hR.2.1.2.2.2.2.1
  refine en_u_ex (d := d + 2) rfl ?_
  show en_ex _ _ _ _ (0, [(0, gx_r 383), (1, .inl c)], [], t0, n, 0) _
  refine ex_go (S := (1, [(0, gx_r 383), (1, .inl c)], [gx_r 383], t0, n, 0)) rfl (fun _ => rfl) rfl ?_
  refine ex_go (S := (2, [(0, gx_r 383), (1, .inl c)], [.inl 0, gx_r 383], t0, n, 0)) rfl (fun _ => rfl) rfl ?_
  refine gx_put rfl g0 rfl rfl (ai_in_h (by first | decide | omega) (by first | decide | omega) (by first | decide | omega)) rfl (fun t121 g121 k121 e121 => ?_)
  refine ex_go (S := (6, [(0, gx_r 383), (1, .inl c)], [gx_r 383], t121, n, 0)) rfl (fun _ => rfl) rfl ?_
  refine ex_go (S := (7, [(0, gx_r 383), (1, .inl c)], [.inl c, gx_r 383], t121, n, 0)) rfl (fun _ => rfl) rfl ?_
  obtain ⟨_, r122, b122, rfl, hb122, hi122⟩ := sr_isCrew (d) n (c := c) (K := w 0 4) g121 (by first | decide | omega) ((e121 389 4 (by first | decide | omega)).trans ((hR.1 4 (by first | decide | omega)))) (by first | decide | omega)
  refine gx_call1 rfl rfl g121 rfl rfl r122 rfl ?_
  show en_ex _ _ _ _ (10, [(0, gx_r 383), (1, .inl c)], [.inl b122], t121, n, 0) _
  by_cases hc23 : b122 = 0
  · refine gx_1t (c := .eq) rfl (by first | decide | omega) hc23 rfl ?_
    refine ex_go (S := (23, [(0, gx_r 383), (1, .inl c)], [.inl 0], t121, n, 0)) rfl (fun _ => rfl) rfl ?_
    refine ex_ret (r := (some (.inl 0), t121, n, 0)) rfl (fun _ => rfl) ?_
    exact ⟨_, rfl, 0, t121, rfl, g121, (fun c i h => e121 c i (by first | decide | omega)), by decide, (fun z => absurd z (by decide)), fun _ => ⟨(fun z => by obtain ⟨z1, -⟩ := z; omega), RS_keep hS hu (fun c i h => by unfold RSC at h; exact e121 c i (by first | decide | omega))⟩⟩
  · refine gx_1f (c := .eq) rfl (by first | decide | omega) hc23 rfl ?_
    refine ex_go (S := (14, [(0, gx_r 383), (1, .inl c)], [gx_r 383], t121, n, 0)) rfl (fun _ => rfl) rfl ?_
    refine ex_go (S := (15, [(0, gx_r 383), (1, .inl c)], [.inl 0, gx_r 383], t121, n, 0)) rfl (fun _ => rfl) rfl ?_
    refine ex_go (S := (16, [(0, gx_r 383), (1, .inl c)], [.inl c, .inl 0, gx_r 383], t121, n, 0)) rfl (fun _ => rfl) rfl ?_
    obtain ⟨_, r124, v124, rfl, hv124, hm124⟩ := sr_mayM d n (w := w) (L := L) (σ := σ) (c := c) g121 (RW_keep hR (fun i hi => e121 389 i (by first | decide | omega)) (fun c i hc _ => e121 c i (by first | decide | omega))) hb (blk_keep hS.1 (fun j hj => e121 399 _ (by first | decide | omega))) (by first | decide | omega)
    refine gx_call1 rfl rfl g121 rfl rfl r124 rfl ?_
    show en_ex _ _ _ _ (19, [(0, gx_r 383), (1, .inl c)], [.inl v124], t121, n, 0) _
    by_cases hc25 : v124 ≠ 0
    · refine gx_1t (c := .ne) rfl (by first | decide | omega) hc25 rfl ?_
      refine ex_go (S := (25, [(0, gx_r 383), (1, .inl c)], [gx_r 383], t121, n, 0)) rfl (fun _ => rfl) rfl ?_
      obtain ⟨_, r126, t126, rfl, g126, e126, k126a, k126b⟩ := sr_keeps (d) n (u := u) (σ := σ) (τ := τ) g121 hu ((e121 383 26 (by first | decide | omega)).trans (hS.2.2.1.1)) (blk_keep hS.1 (fun j hj => e121 399 _ (by first | decide | omega))) (fun k hk => blk_keep (hS.2.2.1.2 k hk) (fun j hj => e121 399 _ (by first | decide | omega)))
      refine gx_call0 rfl rfl g121 rfl rfl r126 rfl ?_
      have k27 : ai_hv t126 383 0 = some (.inl 0) := (e126 383 0 (by first | decide | omega)).trans k121
      show en_ex _ _ _ _ (28, [(0, gx_r 383), (1, .inl c)], [], t126, n, 0) _
      refine ex_go (S := (29, [(0, gx_r 383), (1, .inl c)], [gx_r 383], t126, n, 0)) rfl (fun _ => rfl) rfl ?_
      refine gx_ref (c := 399) rfl g126 rfl rfl rfl rfl ?_
      refine ex_go (S := (34, [(0, gx_r 383), (1, .inl c)], [.inl 11, gx_r 399], t126, n, 0)) rfl (fun _ => rfl) rfl ?_
      refine ex_go (S := (35, [(0, gx_r 383), (1, .inl c)], [.inl c, .inl 11, gx_r 399], t126, n, 0)) rfl (fun _ => rfl) rfl ?_
      refine ex_iadd rfl (by first | decide | omega) rfl ?_
      refine ex_go (S := (37, [(0, gx_r 383), (1, .inl c)], [.inl 0, .inl (11 + c), gx_r 399], t126, n, 0)) rfl (fun _ => rfl) rfl ?_
      refine gx_ap rfl (fun _ => rfl) g126 rfl rfl rfl (show 11 + c < 1035 from by omega) (gx_at (rs := ah_399.2.2.2) (b := 11) (st := 1) (lo := 2147483648) (hi := 2147483649) (m := 2) (by decide +kernel) c (by first | decide | omega) (by first | decide | omega)) (ai_in_h (by first | decide | omega) (by first | decide | omega) (by first | decide | omega)) rfl (fun t128 g128 k128 e128 => ?_)
      have k29 : ai_hv t128 383 0 = some (.inl 0) := (e128 383 0 (by first | decide | omega)).trans k27
      refine ex_go (S := (39, [(0, gx_r 383), (1, .inl c)], [.inl 1], t128, n, 0)) rfl (fun _ => rfl) rfl ?_
      refine ex_ret (r := (some (.inl 1), t128, n, 0)) rfl (fun _ => rfl) ?_
      have hbl : blk t128 0 (sgM' σ c) := (fun j hj => by
        by_cases e9 : j = 11 + c
        · rw [e9, sgM_11, Nat.zero_add]; exact k128
        · rw [sgM_o e9]; exact (e128 399 _ (by first | decide | omega)).trans (((e126 399 _ (by first | decide | omega)).trans (e121 399 _ (by first | decide | omega))).trans (hS.1 j hj)))
      exact ⟨_, rfl, 1, t128, rfl, g128, (fun c i h => (e128 c i (by first | decide | omega)).trans ((e126 c i (by first | decide | omega)).trans (e121 c i (by first | decide | omega)))), by decide, (fun _ => ⟨⟨by omega, hm124.mp (by first | decide | omega)⟩, RS_new hS hu ((e128 383 26 (by first | decide | omega)).trans (k126a)) (fun k hk => blk_keep (k126b k hk) (fun j hj => e128 399 _ (by first | decide | omega))) hbl (fun i h1 h2 => (e128 399 i (by first | decide | omega)).trans ((e126 399 i (by first | decide | omega)).trans (e121 399 i (by first | decide | omega)))) (fun i => (e128 400 i (by first | decide | omega)).trans ((e126 400 i (by first | decide | omega)).trans (e121 400 i (by first | decide | omega))))⟩), fun z => absurd z (by decide)⟩
    · refine gx_1f (c := .ne) rfl (by first | decide | omega) hc25 rfl ?_
      refine ex_go (S := (23, [(0, gx_r 383), (1, .inl c)], [.inl 0], t121, n, 0)) rfl (fun _ => rfl) rfl ?_
      refine ex_ret (r := (some (.inl 0), t121, n, 0)) rfl (fun _ => rfl) ?_
      exact ⟨_, rfl, 0, t121, rfl, g121, (fun c i h => e121 c i (by first | decide | omega)), by decide, (fun z => absurd z (by decide)), fun _ => ⟨(fun z => absurd (hm124.mpr z.2) (by first | decide | omega)), RS_keep hS hu (fun c i h => by unfold RSC at h; exact e121 c i (by first | decide | omega))⟩⟩
theorem sr_undo (d n : Nat) {t0 : en_H} {σ F v : Nat → Nat} {τ μ : Nat → Nat → Nat} {u q : Nat} (g0 : ai_HG ah_G t0) (hS : RS t0 σ u τ F μ q v) (hu : u ≤ 16) : ∃ r, en_u (d + 2) 51 [gx_r 383] t0 n = some r ∧ ∃ z t', r = (some (.inl z), t', n, 0) ∧ ai_HG ah_G t' ∧ (∀ c i, ¬ ((c = 399 ∧ i < 945) ∨ (c = 383 ∧ (i = 0 ∨ i = 26)) ∨ c = 401 ∨ c = 402) → ai_hv t' c i = ai_hv t0 c i) ∧ (u = 0 → z = 0 ∧ RS t' σ u τ F μ q v) ∧ (0 < u → z = 1 ∧ RS t' (τ (u - 1)) (u - 1) τ F μ q v) := by
  refine en_u_ex (d := d + 1) rfl ?_
  show en_ex _ _ _ _ (0, [(0, gx_r 383)], [], t0, n, 0) _
  refine ex_go (S := (1, [(0, gx_r 383)], [gx_r 383], t0, n, 0)) rfl (fun _ => rfl) rfl ?_
  refine ex_go (S := (2, [(0, gx_r 383)], [.inl 0, gx_r 383], t0, n, 0)) rfl (fun _ => rfl) rfl ?_
  refine gx_put rfl g0 rfl rfl (ai_in_h (by first | decide | omega) (by first | decide | omega) (by first | decide | omega)) rfl (fun t121 g121 k121 e121 => ?_)
  have k22 : ai_hv t121 383 26 = some (.inl u) := (e121 383 26 (by first | decide | omega)).trans hS.2.2.1.1
  refine ex_go (S := (6, [(0, gx_r 383)], [gx_r 383], t121, n, 0)) rfl (fun _ => rfl) rfl ?_
  refine gx_get rfl g121 rfl k22 rfl ?_
  by_cases hc23 : u ≠ 0
  · refine gx_1t (c := .ne) rfl (by first | decide | omega) hc23 rfl ?_
    refine ex_go (S := (15, [(0, gx_r 383)], [gx_r 383], t121, n, 0)) rfl (fun _ => rfl) rfl ?_
    refine ex_go (S := (16, [(0, gx_r 383)], [gx_r 383, gx_r 383], t121, n, 0)) rfl (fun _ => rfl) rfl ?_
    refine gx_get rfl g121 rfl k22 rfl ?_
    refine ex_go (S := (20, [(0, gx_r 383)], [.inl 1, .inl u, gx_r 383], t121, n, 0)) rfl (fun _ => rfl) rfl ?_
    refine gx_isub rfl (by first | decide | omega) (by first | decide | omega) rfl ?_
    refine gx_put rfl g121 rfl rfl (ai_in_h (by first | decide | omega) (by first | decide | omega) (by first | decide | omega)) rfl (fun t124 g124 k124 e124 => ?_)
    have k25 : ai_hv t124 383 0 = some (.inl 0) := (e124 383 0 (by first | decide | omega)).trans k121
    refine ex_go (S := (25, [(0, gx_r 383)], [gx_r 383], t124, n, 0)) rfl (fun _ => rfl) rfl ?_
    refine ex_go (S := (27, [(0, gx_r 383)], [.inl 45, gx_r 383], t124, n, 0)) rfl (fun _ => rfl) rfl ?_
    refine ex_go (S := (28, [(0, gx_r 383)], [.inl 5, .inl 45, gx_r 383], t124, n, 0)) rfl (fun _ => rfl) rfl ?_
    refine ex_go (S := (29, [(0, gx_r 383)], [gx_r 383, .inl 5, .inl 45, gx_r 383], t124, n, 0)) rfl (fun _ => rfl) rfl ?_
    refine gx_get rfl g124 rfl k124 rfl ?_
    refine ex_iadd rfl (by first | decide | omega) rfl ?_
    refine gx_imul rfl (by first | decide | omega) rfl ?_
    refine ex_go (S := (35, [(0, gx_r 383)], [.inl 0, .inl (45 * (5 + (u - 1))), gx_r 383], t124, n, 0)) rfl (fun _ => rfl) rfl ?_
    refine ex_go (S := (37, [(0, gx_r 383)], [.inl 17, .inl 0, .inl (45 * (5 + (u - 1))), gx_r 383], t124, n, 0)) rfl (fun _ => rfl) rfl ?_
    obtain ⟨_, r126, t126, rfl, g126, e126, y126⟩ := pe_copies d n (f := (45 * (5 + (u - 1)))) (t := 0) (m := 17) g124 (cpv (by first | decide | omega)) (by first | decide | omega) (by first | decide | omega) (by first | decide | omega) (by first | decide | omega)
    refine gx_call0 rfl rfl g124 rfl rfl r126 rfl ?_
    have k27 : ai_hv t126 383 0 = some (.inl 0) := (e126 383 0 (by first | decide | omega)).trans k25
    have k28 : ai_hv t126 383 26 = some (.inl (u - 1)) := (e126 383 26 (by first | decide | omega)).trans k124
    show en_ex _ _ _ _ (40, [(0, gx_r 383)], [], t126, n, 0) _
    refine ex_go (S := (41, [(0, gx_r 383)], [.inl 1], t126, n, 0)) rfl (fun _ => rfl) rfl ?_
    refine ex_ret (r := (some (.inl 1), t126, n, 0)) rfl (fun _ => rfl) ?_
    have hfr : ∀ i, 17 ≤ i → ai_hv t126 399 i = ai_hv t0 399 i := fun i hi => by
      rw [y126, if_neg (by first | decide | omega)]
      exact (e124 399 i (by first | decide | omega)).trans (e121 399 i (by first | decide | omega))
    have hbl : blk t126 0 (τ (u - 1)) := fun j hj => by
      rw [y126, if_pos (by first | decide | omega), show 0 + j - 0 + 45 * (5 + (u - 1)) = 45 * (5 + (u - 1)) + j by omega]
      exact ((e124 399 _ (by first | decide | omega)).trans (e121 399 _ (by first | decide | omega))).trans (hS.2.2.1.2 (u - 1) (by first | decide | omega) j hj)
    obtain ⟨h1, h2, ⟨h3, h4⟩, h5⟩ := hS
    refine ⟨_, rfl, 1, t126, rfl, g126, (fun c i h => ?_), (fun z => absurd z (by first | decide | omega)), fun _ => ⟨rfl, hbl, (hfr _ (by decide)).trans h2, ⟨k28, fun k hk => blk_keep (h4 k (by first | decide | omega)) (fun j hj => hfr _ (by first | decide | omega))⟩, fun m hm => ⟨(e126 400 m (by first | decide | omega)).trans ((e124 400 m (by first | decide | omega)).trans ((e121 400 m (by first | decide | omega)).trans ((h5 m hm).1))), fun z => ⟨blk_keep ((h5 m hm).2 z).1 (fun j hj => hfr _ (by first | decide | omega)), (hfr _ (by first | decide | omega)).trans ((h5 m hm).2 z).2⟩⟩⟩⟩
    by_cases hc8 : c = 399
    · subst hc8
      exact hfr i (by first | decide | omega)
    · exact (e126 c i hc8).trans ((e124 c i (by first | decide | omega)).trans (e121 c i (by first | decide | omega)))
  · refine gx_1f (c := .ne) rfl (by first | decide | omega) hc23 rfl ?_
    refine ex_go (S := (13, [(0, gx_r 383)], [.inl 0], t121, n, 0)) rfl (fun _ => rfl) rfl ?_
    refine ex_ret (r := (some (.inl 0), t121, n, 0)) rfl (fun _ => rfl) ?_
    exact ⟨_, rfl, 0, t121, rfl, g121, (fun c i h => e121 c i (by first | decide | omega)), (fun _ => ⟨rfl, RS_keep hS hu (fun c i h => by unfold RSC at h; exact e121 c i (by first | decide | omega))⟩), fun z => absurd z (by first | decide | omega)⟩
theorem sr_see (d n : Nat) {t0 : en_H} {w : Nat → Nat → Nat} {L : List Nat} {σ F v : Nat → Nat} {τ μ : Nat → Nat → Nat} {u q : Nat} {x y z : Nat} (g0 : ai_HG ah_G t0) (hR : RW t0 w L) (hS : RS t0 σ u τ F μ q v) (hu : u ≤ 16) (hb : sbd σ) (hq : q ≤ 8) (hx : x < 4294967296) (hy : y < 4294967296) (hz : z < 4294967296) : ∃ r, en_u (d + 3) 63 [gx_r 383, .inl x, .inl y, .inl z] t0 n = some r ∧ ∃ o t', r = (some (.inl o), t', n, 0) ∧ ai_HG ah_G t' ∧ (∀ c i, ¬ ((c = 399 ∧ 17 ≤ i ∧ i < 45) ∨ (c = 383 ∧ i = 0)) → ai_hv t' c i = ai_hv t0 c i) ∧ ((x < w 0 2 ∧ y ≤ 40 ∧ z ≤ 8 ∧ q < 8) → o = 1 ∧ RS t' σ u τ F μ (q + 1) v) ∧ (¬ (x < w 0 2 ∧ y ≤ 40 ∧ z ≤ 8 ∧ q < 8) → o = 0 ∧ RS t' σ u τ F μ q v) := by
  have hT := hR.2.1.2.2.1
  refine en_u_ex (d := d + 2) rfl ?_
  show en_ex _ _ _ _ (0, [(0, gx_r 383), (1, .inl x), (2, .inl y), (3, .inl z)], [], t0, n, 0) _
  refine ex_go (S := (1, [(0, gx_r 383), (1, .inl x), (2, .inl y), (3, .inl z)], [gx_r 383], t0, n, 0)) rfl (fun _ => rfl) rfl ?_
  refine ex_go (S := (2, [(0, gx_r 383), (1, .inl x), (2, .inl y), (3, .inl z)], [.inl 0, gx_r 383], t0, n, 0)) rfl (fun _ => rfl) rfl ?_
  refine gx_put rfl g0 rfl rfl (ai_in_h (by first | decide | omega) (by first | decide | omega) (by first | decide | omega)) rfl (fun t121 g121 k121 e121 => ?_)
  refine ex_go (S := (6, [(0, gx_r 383), (1, .inl x), (2, .inl y), (3, .inl z)], [gx_r 383], t121, n, 0)) rfl (fun _ => rfl) rfl ?_
  refine ex_go (S := (7, [(0, gx_r 383), (1, .inl x), (2, .inl y), (3, .inl z)], [.inl x, gx_r 383], t121, n, 0)) rfl (fun _ => rfl) rfl ?_
  obtain ⟨_, r122, b122, rfl, hb122, hi122⟩ := sr_isThing d n (c := x) (K := w 0 2) g121 (by first | decide | omega) ((e121 389 2 (by first | decide | omega)).trans ((hR.1 2 (by first | decide | omega)))) (by first | decide | omega)
  refine gx_call1 rfl rfl g121 rfl rfl r122 rfl ?_
  show en_ex _ _ _ _ (10, [(0, gx_r 383), (1, .inl x), (2, .inl y), (3, .inl z)], [.inl b122], t121, n, 0) _
  by_cases hc23 : b122 = 0
  · refine gx_1t (c := .eq) rfl (by first | decide | omega) hc23 rfl ?_
    refine ex_go (S := (46, [(0, gx_r 383), (1, .inl x), (2, .inl y), (3, .inl z)], [.inl 0], t121, n, 0)) rfl (fun _ => rfl) rfl ?_
    refine ex_ret (r := (some (.inl 0), t121, n, 0)) rfl (fun _ => rfl) ?_
    exact ⟨_, rfl, 0, t121, rfl, g121, (fun c i h => e121 c i (by first | decide | omega)), (fun z => by omega), fun _ => ⟨rfl, RS_keep hS hu (fun c i h => by unfold RSC at h; exact e121 c i (by first | decide | omega))⟩⟩
  · refine gx_1f (c := .eq) rfl (by first | decide | omega) hc23 rfl ?_
    refine ex_go (S := (14, [(0, gx_r 383), (1, .inl x), (2, .inl y), (3, .inl z)], [.inl y], t121, n, 0)) rfl (fun _ => rfl) rfl ?_
    refine ex_go (S := (15, [(0, gx_r 383), (1, .inl x), (2, .inl y), (3, .inl z)], [.inl 0, .inl y], t121, n, 0)) rfl (fun _ => rfl) rfl ?_
    refine ex_go (S := (17, [(0, gx_r 383), (1, .inl x), (2, .inl y), (3, .inl z)], [.inl 40, .inl 0, .inl y], t121, n, 0)) rfl (fun _ => rfl) rfl ?_
    obtain ⟨_, r24, b25, rfl, b25b, q26⟩ := pz_within (d + 1) n (t0 := t121) (x := y) (lo := 0) (hi := 40) (by first | decide | omega) (by first | decide | omega) (by first | decide | omega)
    refine ex_stat rfl rfl rfl rfl rfl r24 (Nat.le_refl _) rfl ?_
    show en_ex _ _ _ _ (20, [(0, gx_r 383), (1, .inl x), (2, .inl y), (3, .inl z)], [.inl b25], t121, n, 0) _
    by_cases hc27 : b25 = 0
    · refine gx_1t (c := .eq) rfl (by first | decide | omega) hc27 rfl ?_
      refine ex_go (S := (46, [(0, gx_r 383), (1, .inl x), (2, .inl y), (3, .inl z)], [.inl 0], t121, n, 0)) rfl (fun _ => rfl) rfl ?_
      refine ex_ret (r := (some (.inl 0), t121, n, 0)) rfl (fun _ => rfl) ?_
      exact ⟨_, rfl, 0, t121, rfl, g121, (fun c i h => e121 c i (by first | decide | omega)), (fun z => by omega), fun _ => ⟨rfl, RS_keep hS hu (fun c i h => by unfold RSC at h; exact e121 c i (by first | decide | omega))⟩⟩
    · refine gx_1f (c := .eq) rfl (by first | decide | omega) hc27 rfl ?_
      refine ex_go (S := (24, [(0, gx_r 383), (1, .inl x), (2, .inl y), (3, .inl z)], [.inl z], t121, n, 0)) rfl (fun _ => rfl) rfl ?_
      refine ex_go (S := (25, [(0, gx_r 383), (1, .inl x), (2, .inl y), (3, .inl z)], [.inl 0, .inl z], t121, n, 0)) rfl (fun _ => rfl) rfl ?_
      refine ex_go (S := (27, [(0, gx_r 383), (1, .inl x), (2, .inl y), (3, .inl z)], [.inl 8, .inl 0, .inl z], t121, n, 0)) rfl (fun _ => rfl) rfl ?_
      obtain ⟨_, r28, b29, rfl, b29b, q30⟩ := pz_within (d + 1) n (t0 := t121) (x := z) (lo := 0) (hi := 8) (by first | decide | omega) (by first | decide | omega) (by first | decide | omega)
      refine ex_stat rfl rfl rfl rfl rfl r28 (Nat.le_refl _) rfl ?_
      show en_ex _ _ _ _ (30, [(0, gx_r 383), (1, .inl x), (2, .inl y), (3, .inl z)], [.inl b29], t121, n, 0) _
      by_cases hc31 : b29 = 0
      · refine gx_1t (c := .eq) rfl (by first | decide | omega) hc31 rfl ?_
        refine ex_go (S := (46, [(0, gx_r 383), (1, .inl x), (2, .inl y), (3, .inl z)], [.inl 0], t121, n, 0)) rfl (fun _ => rfl) rfl ?_
        refine ex_ret (r := (some (.inl 0), t121, n, 0)) rfl (fun _ => rfl) ?_
        exact ⟨_, rfl, 0, t121, rfl, g121, (fun c i h => e121 c i (by first | decide | omega)), (fun z => by omega), fun _ => ⟨rfl, RS_keep hS hu (fun c i h => by unfold RSC at h; exact e121 c i (by first | decide | omega))⟩⟩
      · refine gx_1f (c := .eq) rfl (by first | decide | omega) hc31 rfl ?_
        refine ex_go (S := (34, [(0, gx_r 383), (1, .inl x), (2, .inl y), (3, .inl z)], [gx_r 383], t121, n, 0)) rfl (fun _ => rfl) rfl ?_
        refine gx_ref (c := 399) rfl g121 rfl rfl rfl rfl ?_
        refine ex_go (S := (39, [(0, gx_r 383), (1, .inl x), (2, .inl y), (3, .inl z)], [.inl 17, gx_r 399], t121, n, 0)) rfl (fun _ => rfl) rfl ?_
        refine gx_ag (v := .inl q) (cb := fun c => Nat.beq c 0) rfl (fun _ => rfl) g121 rfl rfl ((e121 399 17 (by first | decide | omega)).trans (hS.2.1)) (by first | decide | omega) rfl ?_
        refine ex_go (S := (42, [(0, gx_r 383), (1, .inl x), (2, .inl y), (3, .inl z)], [.inl 8, .inl q], t121, n, 0)) rfl (fun _ => rfl) rfl ?_
        by_cases hc32 : q ≠ 8
        · refine gx_2t (c := .ne) rfl (by first | decide | omega) (by first | decide | omega) hc32 rfl ?_
          refine ex_go (S := (49, [(0, gx_r 383), (1, .inl x), (2, .inl y), (3, .inl z)], [.inl 18], t121, n, 0)) rfl (fun _ => rfl) rfl ?_
          refine ex_go (S := (50, [(0, gx_r 383), (1, .inl x), (2, .inl y), (3, .inl z)], [.inl 3, .inl 18], t121, n, 0)) rfl (fun _ => rfl) rfl ?_
          refine ex_go (S := (51, [(0, gx_r 383), (1, .inl x), (2, .inl y), (3, .inl z)], [gx_r 383, .inl 3, .inl 18], t121, n, 0)) rfl (fun _ => rfl) rfl ?_
          refine gx_ref (c := 399) rfl g121 rfl rfl rfl rfl ?_
          refine ex_go (S := (56, [(0, gx_r 383), (1, .inl x), (2, .inl y), (3, .inl z)], [.inl 17, gx_r 399, .inl 3, .inl 18], t121, n, 0)) rfl (fun _ => rfl) rfl ?_
          refine gx_ag (v := .inl q) (cb := fun c => Nat.beq c 0) rfl (fun _ => rfl) g121 rfl rfl ((e121 399 17 (by first | decide | omega)).trans (hS.2.1)) (by first | decide | omega) rfl ?_
          refine gx_imul rfl (by first | decide | omega) rfl ?_
          refine ex_iadd rfl (by first | decide | omega) rfl ?_
          refine ex_go (S := (61, [(4, .inl (18 + (3 * q))), (0, gx_r 383), (1, .inl x), (2, .inl y), (3, .inl z)], [], t121, n, 0)) rfl (fun _ => rfl) rfl ?_
          refine ex_go (S := (62, [(4, .inl (18 + (3 * q))), (0, gx_r 383), (1, .inl x), (2, .inl y), (3, .inl z)], [gx_r 383], t121, n, 0)) rfl (fun _ => rfl) rfl ?_
          refine gx_ref (c := 399) rfl g121 rfl rfl rfl rfl ?_
          refine ex_go (S := (67, [(4, .inl (18 + (3 * q))), (0, gx_r 383), (1, .inl x), (2, .inl y), (3, .inl z)], [.inl (18 + (3 * q)), gx_r 399], t121, n, 0)) rfl (fun _ => rfl) rfl ?_
          refine ex_go (S := (68, [(4, .inl (18 + (3 * q))), (0, gx_r 383), (1, .inl x), (2, .inl y), (3, .inl z)], [.inl x, .inl (18 + (3 * q)), gx_r 399], t121, n, 0)) rfl (fun _ => rfl) rfl ?_
          refine gx_ap rfl (fun _ => rfl) g121 rfl rfl rfl (show 18 + (3 * q) < 1035 from by omega) (gx_at (rs := ah_399.2.2.2) (b := 18) (st := 3) (lo := 2147483648) (hi := 2147483653) (m := 8) (by decide +kernel) q (by first | decide | omega) (by first | decide | omega)) (ai_in_h (by first | decide | omega) (by first | decide | omega) (by first | decide | omega)) rfl (fun t133 g133 k133 e133 => ?_)
          have k34 : ai_hv t133 383 0 = some (.inl 0) := (e133 383 0 (by first | decide | omega)).trans k121
          have k35 : ai_hv t133 399 17 = some (.inl q) := (e133 399 17 (by first | decide | omega)).trans ((e121 399 17 (by first | decide | omega)).trans (hS.2.1))
          refine ex_go (S := (70, [(4, .inl (18 + (3 * q))), (0, gx_r 383), (1, .inl x), (2, .inl y), (3, .inl z)], [gx_r 383], t133, n, 0)) rfl (fun _ => rfl) rfl ?_
          refine gx_ref (c := 399) rfl g133 rfl rfl rfl rfl ?_
          refine ex_go (S := (75, [(4, .inl (18 + (3 * q))), (0, gx_r 383), (1, .inl x), (2, .inl y), (3, .inl z)], [.inl (18 + (3 * q)), gx_r 399], t133, n, 0)) rfl (fun _ => rfl) rfl ?_
          refine ex_go (S := (76, [(4, .inl (18 + (3 * q))), (0, gx_r 383), (1, .inl x), (2, .inl y), (3, .inl z)], [.inl 1, .inl (18 + (3 * q)), gx_r 399], t133, n, 0)) rfl (fun _ => rfl) rfl ?_
          refine ex_iadd rfl (by first | decide | omega) rfl ?_
          refine ex_go (S := (78, [(4, .inl (18 + (3 * q))), (0, gx_r 383), (1, .inl x), (2, .inl y), (3, .inl z)], [.inl y, .inl ((18 + (3 * q)) + 1), gx_r 399], t133, n, 0)) rfl (fun _ => rfl) rfl ?_
          refine gx_ap rfl (fun _ => rfl) g133 rfl rfl rfl (show (18 + (3 * q)) + 1 < 1035 from by omega) (gx_at (rs := ah_399.2.2.2) (b := 19) (st := 3) (lo := 2147483648) (hi := 2147483688) (m := 8) (by decide +kernel) q (by first | decide | omega) (by first | decide | omega)) (ai_in_h (by first | decide | omega) (by first | decide | omega) (by first | decide | omega)) rfl (fun t136 g136 k136 e136 => ?_)
          have k37 : ai_hv t136 383 0 = some (.inl 0) := (e136 383 0 (by first | decide | omega)).trans k34
          have k38 : ai_hv t136 399 17 = some (.inl q) := (e136 399 17 (by first | decide | omega)).trans k35
          have k39 : ai_hv t136 399 (18 + (3 * q)) = some (.inl x) := (e136 399 (18 + (3 * q)) (by first | decide | omega)).trans k133
          refine ex_go (S := (80, [(4, .inl (18 + (3 * q))), (0, gx_r 383), (1, .inl x), (2, .inl y), (3, .inl z)], [gx_r 383], t136, n, 0)) rfl (fun _ => rfl) rfl ?_
          refine gx_ref (c := 399) rfl g136 rfl rfl rfl rfl ?_
          refine ex_go (S := (85, [(4, .inl (18 + (3 * q))), (0, gx_r 383), (1, .inl x), (2, .inl y), (3, .inl z)], [.inl (18 + (3 * q)), gx_r 399], t136, n, 0)) rfl (fun _ => rfl) rfl ?_
          refine ex_go (S := (86, [(4, .inl (18 + (3 * q))), (0, gx_r 383), (1, .inl x), (2, .inl y), (3, .inl z)], [.inl 2, .inl (18 + (3 * q)), gx_r 399], t136, n, 0)) rfl (fun _ => rfl) rfl ?_
          refine ex_iadd rfl (by first | decide | omega) rfl ?_
          refine ex_go (S := (88, [(4, .inl (18 + (3 * q))), (0, gx_r 383), (1, .inl x), (2, .inl y), (3, .inl z)], [.inl z, .inl ((18 + (3 * q)) + 2), gx_r 399], t136, n, 0)) rfl (fun _ => rfl) rfl ?_
          refine gx_ap rfl (fun _ => rfl) g136 rfl rfl rfl (show (18 + (3 * q)) + 2 < 1035 from by omega) (gx_at (rs := ah_399.2.2.2) (b := 20) (st := 3) (lo := 2147483648) (hi := 2147483656) (m := 8) (by decide +kernel) q (by first | decide | omega) (by first | decide | omega)) (ai_in_h (by first | decide | omega) (by first | decide | omega) (by first | decide | omega)) rfl (fun t140 g140 k140 e140 => ?_)
          have k41 : ai_hv t140 383 0 = some (.inl 0) := (e140 383 0 (by first | decide | omega)).trans k37
          have k42 : ai_hv t140 399 17 = some (.inl q) := (e140 399 17 (by first | decide | omega)).trans k38
          have k43 : ai_hv t140 399 (18 + (3 * q)) = some (.inl x) := (e140 399 (18 + (3 * q)) (by first | decide | omega)).trans k39
          have k44 : ai_hv t140 399 ((18 + (3 * q)) + 1) = some (.inl y) := (e140 399 ((18 + (3 * q)) + 1) (by first | decide | omega)).trans k136
          refine ex_go (S := (90, [(4, .inl (18 + (3 * q))), (0, gx_r 383), (1, .inl x), (2, .inl y), (3, .inl z)], [gx_r 383], t140, n, 0)) rfl (fun _ => rfl) rfl ?_
          refine gx_ref (c := 399) rfl g140 rfl rfl rfl rfl ?_
          refine ex_go (S := (95, [(4, .inl (18 + (3 * q))), (0, gx_r 383), (1, .inl x), (2, .inl y), (3, .inl z)], [.inl 17, gx_r 399], t140, n, 0)) rfl (fun _ => rfl) rfl ?_
          refine ex_go (S := (96, [(4, .inl (18 + (3 * q))), (0, gx_r 383), (1, .inl x), (2, .inl y), (3, .inl z)], [.inl 17, gx_r 399, .inl 17, gx_r 399], t140, n, 0)) rfl (fun _ => rfl) rfl ?_
          refine gx_ag (v := .inl q) (cb := fun c => Nat.beq c 0) rfl (fun _ => rfl) g140 rfl rfl k42 (by first | decide | omega) rfl ?_
          refine ex_go (S := (98, [(4, .inl (18 + (3 * q))), (0, gx_r 383), (1, .inl x), (2, .inl y), (3, .inl z)], [.inl 1, .inl q, .inl 17, gx_r 399], t140, n, 0)) rfl (fun _ => rfl) rfl ?_
          refine ex_iadd rfl (by first | decide | omega) rfl ?_
          refine gx_ap rfl (fun _ => rfl) g140 rfl rfl rfl (show 17 < 1035 from by omega) rfl (ai_in_h (by first | decide | omega) (by first | decide | omega) (by first | decide | omega)) rfl (fun t145 g145 k145 e145 => ?_)
          have k46 : ai_hv t145 383 0 = some (.inl 0) := (e145 383 0 (by first | decide | omega)).trans k41
          have k47 : ai_hv t145 399 (18 + (3 * q)) = some (.inl x) := (e145 399 (18 + (3 * q)) (by first | decide | omega)).trans k43
          have k48 : ai_hv t145 399 ((18 + (3 * q)) + 1) = some (.inl y) := (e145 399 ((18 + (3 * q)) + 1) (by first | decide | omega)).trans k44
          have k49 : ai_hv t145 399 ((18 + (3 * q)) + 2) = some (.inl z) := (e145 399 ((18 + (3 * q)) + 2) (by first | decide | omega)).trans k140
          refine ex_go (S := (101, [(4, .inl (18 + (3 * q))), (0, gx_r 383), (1, .inl x), (2, .inl y), (3, .inl z)], [.inl 1], t145, n, 0)) rfl (fun _ => rfl) rfl ?_
          refine ex_ret (r := (some (.inl 1), t145, n, 0)) rfl (fun _ => rfl) ?_
          obtain ⟨h1, h2, ⟨h3, h4⟩, h5⟩ := hS
          exact ⟨_, rfl, 1, t145, rfl, g145, (fun c i h => (e145 c i (by first | decide | omega)).trans ((e140 c i (by first | decide | omega)).trans ((e136 c i (by first | decide | omega)).trans ((e133 c i (by first | decide | omega)).trans (e121 c i (by first | decide | omega)))))), (fun _ => ⟨rfl, blk_keep h1 (fun j hj => (e145 399 _ (by first | decide | omega)).trans ((e140 399 _ (by first | decide | omega)).trans ((e136 399 _ (by first | decide | omega)).trans ((e133 399 _ (by first | decide | omega)).trans (e121 399 _ (by first | decide | omega)))))), k145, ⟨(e145 383 26 (by first | decide | omega)).trans ((e140 383 26 (by first | decide | omega)).trans ((e136 383 26 (by first | decide | omega)).trans ((e133 383 26 (by first | decide | omega)).trans ((e121 383 26 (by first | decide | omega)).trans (h3))))), fun k hk => blk_keep (h4 k hk) (fun j hj => (e145 399 _ (by first | decide | omega)).trans ((e140 399 _ (by first | decide | omega)).trans ((e136 399 _ (by first | decide | omega)).trans ((e133 399 _ (by first | decide | omega)).trans (e121 399 _ (by first | decide | omega))))))⟩, fun m hm => ⟨(e145 400 m (by first | decide | omega)).trans ((e140 400 m (by first | decide | omega)).trans ((e136 400 m (by first | decide | omega)).trans ((e133 400 m (by first | decide | omega)).trans ((e121 400 m (by first | decide | omega)).trans ((h5 m hm).1))))), fun z => ⟨blk_keep ((h5 m hm).2 z).1 (fun j hj => (e145 399 _ (by first | decide | omega)).trans ((e140 399 _ (by first | decide | omega)).trans ((e136 399 _ (by first | decide | omega)).trans ((e133 399 _ (by first | decide | omega)).trans (e121 399 _ (by first | decide | omega)))))), ((e145 399 _ (by first | decide | omega)).trans ((e140 399 _ (by first | decide | omega)).trans ((e136 399 _ (by first | decide | omega)).trans ((e133 399 _ (by first | decide | omega)).trans (e121 399 _ (by first | decide | omega)))))).trans ((h5 m hm).2 z).2⟩⟩⟩), fun z => absurd ⟨by omega, by omega, by omega, by omega⟩ z⟩
        · refine gx_2f (c := .ne) rfl (by first | decide | omega) (by first | decide | omega) hc32 rfl ?_
          refine ex_go (S := (46, [(0, gx_r 383), (1, .inl x), (2, .inl y), (3, .inl z)], [.inl 0], t121, n, 0)) rfl (fun _ => rfl) rfl ?_
          refine ex_ret (r := (some (.inl 0), t121, n, 0)) rfl (fun _ => rfl) ?_
          exact ⟨_, rfl, 0, t121, rfl, g121, (fun c i h => e121 c i (by first | decide | omega)), (fun z => by omega), fun _ => ⟨rfl, RS_keep hS hu (fun c i h => by unfold RSC at h; exact e121 c i (by first | decide | omega))⟩⟩
end SSM
